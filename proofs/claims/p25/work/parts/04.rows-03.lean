theorem dX9_init_100 : decode cX9_init 100 = .ok (.aload_n 0, 1) := by decide +kernel
theorem dX9_init_101 : decode cX9_init 101 = .ok (.sipush 200, 3) := by decide +kernel
theorem dX9_init_104 : decode cX9_init 104 = .ok (.newarray .int, 2) := by decide +kernel
theorem dX9_init_106 : decode cX9_init 106 = .ok (.putfield 52, 3) := by decide +kernel
theorem dX9_init_109 : decode cX9_init 109 = .ok (.aload_n 0, 1) := by decide +kernel
theorem dX9_init_110 : decode cX9_init 110 = .ok (.sipush 200, 3) := by decide +kernel
theorem dX9_init_113 : decode cX9_init 113 = .ok (.newarray .int, 2) := by decide +kernel
theorem dX9_init_115 : decode cX9_init 115 = .ok (.putfield 55, 3) := by decide +kernel
theorem dX9_init_118 : decode cX9_init 118 = .ok (.aload_n 0, 1) := by decide +kernel
theorem dX9_init_119 : decode cX9_init 119 = .ok (.sipush 200, 3) := by decide +kernel
theorem dX9_init_122 : decode cX9_init 122 = .ok (.newarray .int, 2) := by decide +kernel
theorem dX9_init_124 : decode cX9_init 124 = .ok (.putfield 58, 3) := by decide +kernel
theorem dX9_init_127 : decode cX9_init 127 = .ok (.aload_n 0, 1) := by decide +kernel
theorem dX9_init_128 : decode cX9_init 128 = .ok (.sipush 200, 3) := by decide +kernel
theorem dX9_init_131 : decode cX9_init 131 = .ok (.newarray .int, 2) := by decide +kernel
theorem dX9_init_133 : decode cX9_init 133 = .ok (.putfield 61, 3) := by decide +kernel
theorem dX9_init_136 : decode cX9_init 136 = .ok (.aload_n 0, 1) := by decide +kernel
theorem dX9_init_137 : decode cX9_init 137 = .ok (.sipush 200, 3) := by decide +kernel
theorem dX9_init_140 : decode cX9_init 140 = .ok (.newarray .int, 2) := by decide +kernel
theorem dX9_init_142 : decode cX9_init 142 = .ok (.putfield 64, 3) := by decide +kernel
theorem dX9_init_145 : decode cX9_init 145 = .ok (.aload_n 0, 1) := by decide +kernel
theorem dX9_init_146 : decode cX9_init 146 = .ok (.sipush 200, 3) := by decide +kernel
theorem dX9_init_149 : decode cX9_init 149 = .ok (.newarray .int, 2) := by decide +kernel
theorem dX9_init_151 : decode cX9_init 151 = .ok (.putfield 67, 3) := by decide +kernel
theorem dX9_init_154 : decode cX9_init 154 = .ok (.aload_n 0, 1) := by decide +kernel
theorem dX9_init_155 : decode cX9_init 155 = .ok (.sipush 200, 3) := by decide +kernel
theorem dX9_init_158 : decode cX9_init 158 = .ok (.newarray .int, 2) := by decide +kernel
theorem dX9_init_160 : decode cX9_init 160 = .ok (.putfield 70, 3) := by decide +kernel
theorem dX9_init_163 : decode cX9_init 163 = .ok (.aload_n 0, 1) := by decide +kernel
theorem dX9_init_164 : decode cX9_init 164 = .ok (.sipush 200, 3) := by decide +kernel
theorem dX9_init_167 : decode cX9_init 167 = .ok (.newarray .int, 2) := by decide +kernel
theorem dX9_init_169 : decode cX9_init 169 = .ok (.putfield 73, 3) := by decide +kernel
theorem dX9_init_172 : decode cX9_init 172 = .ok (.aload_n 0, 1) := by decide +kernel
theorem dX9_init_173 : decode cX9_init 173 = .ok (.sipush 840, 3) := by decide +kernel
theorem dX9_init_176 : decode cX9_init 176 = .ok (.newarray .int, 2) := by decide +kernel
theorem dX9_init_178 : decode cX9_init 178 = .ok (.putfield 76, 3) := by decide +kernel
theorem dX9_init_181 : decode cX9_init 181 = .ok (.aload_n 0, 1) := by decide +kernel
theorem dX9_init_182 : decode cX9_init 182 = .ok (.bipush 9, 2) := by decide +kernel
theorem dX9_init_184 : decode cX9_init 184 = .ok (.newarray .int, 2) := by decide +kernel
theorem dX9_init_186 : decode cX9_init 186 = .ok (.putfield 79, 3) := by decide +kernel
theorem dX9_init_189 : decode cX9_init 189 = .ok (.aload_n 0, 1) := by decide +kernel
theorem dX9_init_190 : decode cX9_init 190 = .ok (.bipush 9, 2) := by decide +kernel
theorem dX9_init_192 : decode cX9_init 192 = .ok (.newarray .int, 2) := by decide +kernel
theorem dX9_init_194 : decode cX9_init 194 = .ok (.putfield 82, 3) := by decide +kernel
theorem dX9_init_197 : decode cX9_init 197 = .ok (.aload_n 0, 1) := by decide +kernel
theorem dX9_init_198 : decode cX9_init 198 = .ok (.bipush 9, 2) := by decide +kernel
theorem dX9_init_200 : decode cX9_init 200 = .ok (.newarray .int, 2) := by decide +kernel
theorem dX9_init_202 : decode cX9_init 202 = .ok (.putfield 85, 3) := by decide +kernel
theorem dX9_init_205 : decode cX9_init 205 = .ok (.aload_n 0, 1) := by decide +kernel
theorem dX9_init_206 : decode cX9_init 206 = .ok (.bipush 9, 2) := by decide +kernel
theorem dX9_init_208 : decode cX9_init 208 = .ok (.newarray .boolean, 2) := by decide +kernel
theorem dX9_init_210 : decode cX9_init 210 = .ok (.putfield 88, 3) := by decide +kernel
theorem dX9_init_213 : decode cX9_init 213 = .ok (.aload_n 0, 1) := by decide +kernel
theorem dX9_init_214 : decode cX9_init 214 = .ok (.bipush 10, 2) := by decide +kernel
theorem dX9_init_216 : decode cX9_init 216 = .ok (.newarray .boolean, 2) := by decide +kernel
theorem dX9_init_218 : decode cX9_init 218 = .ok (.putfield 91, 3) := by decide +kernel
theorem dX9_init_221 : decode cX9_init 221 = .ok (.aload_n 0, 1) := by decide +kernel
theorem dX9_init_222 : decode cX9_init 222 = .ok (.bipush 10, 2) := by decide +kernel
theorem dX9_init_224 : decode cX9_init 224 = .ok (.newarray .int, 2) := by decide +kernel
theorem dX9_init_226 : decode cX9_init 226 = .ok (.putfield 94, 3) := by decide +kernel
theorem dX9_init_229 : decode cX9_init 229 = .ok (.aload_n 0, 1) := by decide +kernel
theorem dX9_init_230 : decode cX9_init 230 = .ok (.bipush 10, 2) := by decide +kernel
theorem dX9_init_232 : decode cX9_init 232 = .ok (.newarray .boolean, 2) := by decide +kernel
theorem dX9_init_234 : decode cX9_init 234 = .ok (.putfield 97, 3) := by decide +kernel
theorem dX9_init_237 : decode cX9_init 237 = .ok (.iconst 0, 1) := by decide +kernel
theorem dX9_init_238 : decode cX9_init 238 = .ok (.istore_n 1, 1) := by decide +kernel
theorem dX9_init_239 : decode cX9_init 239 = .ok (.iload_n 1, 1) := by decide +kernel
theorem dX9_init_240 : decode cX9_init 240 = .ok (.sipush 318, 3) := by decide +kernel
theorem dX9_init_243 : decode cX9_init 243 = .ok (.if_icmp .ge 16, 3) := by decide +kernel
theorem dX9_init_246 : decode cX9_init 246 = .ok (.aload_n 0, 1) := by decide +kernel
theorem dX9_init_247 : decode cX9_init 247 = .ok (.getfield 33, 3) := by decide +kernel
theorem dX9_init_250 : decode cX9_init 250 = .ok (.iload_n 1, 1) := by decide +kernel
theorem dX9_init_251 : decode cX9_init 251 = .ok (.iconst (-1), 1) := by decide +kernel
theorem dX9_init_252 : decode cX9_init 252 = .ok (.iastore, 1) := by decide +kernel
theorem dX9_init_253 : decode cX9_init 253 = .ok (.iinc 1 1, 3) := by decide +kernel
theorem dX9_init_256 : decode cX9_init 256 = .ok (.goto (-17), 3) := by decide +kernel
theorem dX9_init_259 : decode cX9_init 259 = .ok (.return_, 1) := by decide +kernel
theorem dX9_flat_0 : decode cX9_flat 0 = .ok (.aload_n 0, 1) := by decide +kernel
theorem dX9_flat_1 : decode cX9_flat 1 = .ok (.iconst 0, 1) := by decide +kernel
theorem dX9_flat_2 : decode cX9_flat 2 = .ok (.putfield 1, 3) := by decide +kernel
theorem dX9_flat_5 : decode cX9_flat 5 = .ok (.iload_n 1, 1) := by decide +kernel
theorem dX9_flat_6 : decode cX9_flat 6 = .ok (.iconst 0, 1) := by decide +kernel
theorem dX9_flat_7 : decode cX9_flat 7 = .ok (.iconst 3, 1) := by decide +kernel
theorem dX9_flat_8 : decode cX9_flat 8 = .ok (.invokestatic 100, 3) := by decide +kernel
theorem dX9_flat_11 : decode cX9_flat 11 = .ok (.ifCond .eq 21, 3) := by decide +kernel
theorem dX9_flat_14 : decode cX9_flat 14 = .ok (.iload_n 2, 1) := by decide +kernel
theorem dX9_flat_15 : decode cX9_flat 15 = .ok (.iconst 1, 1) := by decide +kernel
theorem dX9_flat_16 : decode cX9_flat 16 = .ok (.iconst 4, 1) := by decide +kernel
theorem dX9_flat_17 : decode cX9_flat 17 = .ok (.invokestatic 100, 3) := by decide +kernel
theorem dX9_flat_20 : decode cX9_flat 20 = .ok (.ifCond .eq 12, 3) := by decide +kernel
theorem dX9_flat_23 : decode cX9_flat 23 = .ok (.aload_n 0, 1) := by decide +kernel
theorem dX9_flat_24 : decode cX9_flat 24 = .ok (.getfield 104, 3) := by decide +kernel
theorem dX9_flat_27 : decode cX9_flat 27 = .ok (.bipush 6, 2) := by decide +kernel
theorem dX9_flat_29 : decode cX9_flat 29 = .ok (.if_icmp .ne 5, 3) := by decide +kernel
theorem dX9_flat_32 : decode cX9_flat 32 = .ok (.iconst (-1), 1) := by decide +kernel
theorem dX9_flat_33 : decode cX9_flat 33 = .ok (.ireturn, 1) := by decide +kernel
theorem dX9_flat_34 : decode cX9_flat 34 = .ok (.aload_n 0, 1) := by decide +kernel
theorem dX9_flat_35 : decode cX9_flat 35 = .ok (.getfield 13, 3) := by decide +kernel
theorem dX9_flat_38 : decode cX9_flat 38 = .ok (.aload_n 0, 1) := by decide +kernel
theorem dX9_flat_39 : decode cX9_flat 39 = .ok (.getfield 104, 3) := by decide +kernel
theorem dX9_flat_42 : decode cX9_flat 42 = .ok (.iload_n 1, 1) := by decide +kernel
theorem dX9_flat_43 : decode cX9_flat 43 = .ok (.iastore, 1) := by decide +kernel
theorem dX9_flat_44 : decode cX9_flat 44 = .ok (.aload_n 0, 1) := by decide +kernel
theorem dX9_flat_45 : decode cX9_flat 45 = .ok (.getfield 17, 3) := by decide +kernel
theorem dX9_flat_48 : decode cX9_flat 48 = .ok (.aload_n 0, 1) := by decide +kernel
theorem dX9_flat_49 : decode cX9_flat 49 = .ok (.getfield 104, 3) := by decide +kernel
theorem dX9_flat_52 : decode cX9_flat 52 = .ok (.iload_n 2, 1) := by decide +kernel
theorem dX9_flat_53 : decode cX9_flat 53 = .ok (.iastore, 1) := by decide +kernel
theorem dX9_flat_54 : decode cX9_flat 54 = .ok (.aload_n 0, 1) := by decide +kernel
theorem dX9_flat_55 : decode cX9_flat 55 = .ok (.dup, 1) := by decide +kernel
theorem dX9_flat_56 : decode cX9_flat 56 = .ok (.getfield 104, 3) := by decide +kernel
theorem dX9_flat_59 : decode cX9_flat 59 = .ok (.iconst 1, 1) := by decide +kernel
theorem dX9_flat_60 : decode cX9_flat 60 = .ok (.iadd, 1) := by decide +kernel
theorem dX9_flat_61 : decode cX9_flat 61 = .ok (.putfield 104, 3) := by decide +kernel
theorem dX9_flat_64 : decode cX9_flat 64 = .ok (.aload_n 0, 1) := by decide +kernel
theorem dX9_flat_65 : decode cX9_flat 65 = .ok (.getfield 104, 3) := by decide +kernel
theorem dX9_flat_68 : decode cX9_flat 68 = .ok (.iconst 1, 1) := by decide +kernel
theorem dX9_flat_69 : decode cX9_flat 69 = .ok (.isub, 1) := by decide +kernel
theorem dX9_flat_70 : decode cX9_flat 70 = .ok (.ireturn, 1) := by decide +kernel
theorem dX9_owner_0 : decode cX9_owner 0 = .ok (.aload_n 0, 1) := by decide +kernel
theorem dX9_owner_1 : decode cX9_owner 1 = .ok (.iconst 0, 1) := by decide +kernel
theorem dX9_owner_2 : decode cX9_owner 2 = .ok (.putfield 1, 3) := by decide +kernel
theorem dX9_owner_5 : decode cX9_owner 5 = .ok (.iload_n 1, 1) := by decide +kernel
theorem dX9_owner_6 : decode cX9_owner 6 = .ok (.iconst 0, 1) := by decide +kernel
theorem dX9_owner_7 : decode cX9_owner 7 = .ok (.sipush 9999, 3) := by decide +kernel
theorem dX9_owner_10 : decode cX9_owner 10 = .ok (.invokestatic 100, 3) := by decide +kernel
theorem dX9_owner_13 : decode cX9_owner 13 = .ok (.ifCond .eq 12, 3) := by decide +kernel
theorem dX9_owner_16 : decode cX9_owner 16 = .ok (.aload_n 0, 1) := by decide +kernel
theorem dX9_owner_17 : decode cX9_owner 17 = .ok (.getfield 107, 3) := by decide +kernel
theorem dX9_owner_20 : decode cX9_owner 20 = .ok (.bipush 10, 2) := by decide +kernel
theorem dX9_owner_22 : decode cX9_owner 22 = .ok (.if_icmp .ne 5, 3) := by decide +kernel
theorem dX9_owner_25 : decode cX9_owner 25 = .ok (.iconst (-1), 1) := by decide +kernel
theorem dX9_owner_26 : decode cX9_owner 26 = .ok (.ireturn, 1) := by decide +kernel
theorem dX9_owner_27 : decode cX9_owner 27 = .ok (.aload_n 0, 1) := by decide +kernel
theorem dX9_owner_28 : decode cX9_owner 28 = .ok (.getfield 20, 3) := by decide +kernel
theorem dX9_owner_31 : decode cX9_owner 31 = .ok (.aload_n 0, 1) := by decide +kernel
theorem dX9_owner_32 : decode cX9_owner 32 = .ok (.getfield 107, 3) := by decide +kernel
theorem dX9_owner_35 : decode cX9_owner 35 = .ok (.iload_n 1, 1) := by decide +kernel
theorem dX9_owner_36 : decode cX9_owner 36 = .ok (.iastore, 1) := by decide +kernel
theorem dX9_owner_37 : decode cX9_owner 37 = .ok (.aload_n 0, 1) := by decide +kernel
theorem dX9_owner_38 : decode cX9_owner 38 = .ok (.dup, 1) := by decide +kernel
theorem dX9_owner_39 : decode cX9_owner 39 = .ok (.getfield 107, 3) := by decide +kernel
theorem dX9_owner_42 : decode cX9_owner 42 = .ok (.iconst 1, 1) := by decide +kernel
theorem dX9_owner_43 : decode cX9_owner 43 = .ok (.iadd, 1) := by decide +kernel
theorem dX9_owner_44 : decode cX9_owner 44 = .ok (.putfield 107, 3) := by decide +kernel
theorem dX9_owner_47 : decode cX9_owner 47 = .ok (.aload_n 0, 1) := by decide +kernel
theorem dX9_owner_48 : decode cX9_owner 48 = .ok (.getfield 107, 3) := by decide +kernel
theorem dX9_owner_51 : decode cX9_owner 51 = .ok (.iconst 1, 1) := by decide +kernel
theorem dX9_owner_52 : decode cX9_owner 52 = .ok (.isub, 1) := by decide +kernel
theorem dX9_owner_53 : decode cX9_owner 53 = .ok (.ireturn, 1) := by decide +kernel
theorem dX9_isPlace_0 : decode cX9_isPlace 0 = .ok (.iload_n 1, 1) := by decide +kernel
theorem dX9_isPlace_1 : decode cX9_isPlace 1 = .ok (.ifCond .lt 25, 3) := by decide +kernel
theorem dX9_isPlace_4 : decode cX9_isPlace 4 = .ok (.iload_n 1, 1) := by decide +kernel
theorem dX9_isPlace_5 : decode cX9_isPlace 5 = .ok (.aload_n 0, 1) := by decide +kernel
theorem dX9_isPlace_6 : decode cX9_isPlace 6 = .ok (.getfield 104, 3) := by decide +kernel
theorem dX9_isPlace_9 : decode cX9_isPlace 9 = .ok (.if_icmp .ge 17, 3) := by decide +kernel
theorem dX9_isPlace_12 : decode cX9_isPlace 12 = .ok (.iload_n 2, 1) := by decide +kernel
theorem dX9_isPlace_13 : decode cX9_isPlace 13 = .ok (.iconst 0, 1) := by decide +kernel
theorem dX9_isPlace_14 : decode cX9_isPlace 14 = .ok (.bipush 52, 2) := by decide +kernel
theorem dX9_isPlace_16 : decode cX9_isPlace 16 = .ok (.invokestatic 100, 3) := by decide +kernel
theorem dX9_isPlace_19 : decode cX9_isPlace 19 = .ok (.ifCond .eq 7, 3) := by decide +kernel
theorem dX9_isPlace_22 : decode cX9_isPlace 22 = .ok (.iconst 1, 1) := by decide +kernel
theorem dX9_isPlace_23 : decode cX9_isPlace 23 = .ok (.goto 4, 3) := by decide +kernel
theorem dX9_isPlace_26 : decode cX9_isPlace 26 = .ok (.iconst 0, 1) := by decide +kernel
theorem dX9_isPlace_27 : decode cX9_isPlace 27 = .ok (.ireturn, 1) := by decide +kernel
theorem dX9_isAlive_0 : decode cX9_isAlive 0 = .ok (.iload_n 1, 1) := by decide +kernel
theorem dX9_isAlive_1 : decode cX9_isAlive 1 = .ok (.ifCond .lt 24, 3) := by decide +kernel
theorem dX9_isAlive_4 : decode cX9_isAlive 4 = .ok (.iload_n 1, 1) := by decide +kernel
theorem dX9_isAlive_5 : decode cX9_isAlive 5 = .ok (.aload_n 0, 1) := by decide +kernel
theorem dX9_isAlive_6 : decode cX9_isAlive 6 = .ok (.getfield 107, 3) := by decide +kernel
theorem dX9_isAlive_9 : decode cX9_isAlive 9 = .ok (.if_icmp .ge 16, 3) := by decide +kernel
theorem dX9_isAlive_12 : decode cX9_isAlive 12 = .ok (.aload_n 0, 1) := by decide +kernel
theorem dX9_isAlive_13 : decode cX9_isAlive 13 = .ok (.getfield 29, 3) := by decide +kernel
theorem dX9_isAlive_16 : decode cX9_isAlive 16 = .ok (.iload_n 1, 1) := by decide +kernel
theorem dX9_isAlive_17 : decode cX9_isAlive 17 = .ok (.baload, 1) := by decide +kernel
theorem dX9_isAlive_18 : decode cX9_isAlive 18 = .ok (.ifCond .ne 7, 3) := by decide +kernel
theorem dX9_isAlive_21 : decode cX9_isAlive 21 = .ok (.iconst 1, 1) := by decide +kernel
theorem dX9_isAlive_22 : decode cX9_isAlive 22 = .ok (.goto 4, 3) := by decide +kernel
theorem dX9_isAlive_25 : decode cX9_isAlive 25 = .ok (.iconst 0, 1) := by decide +kernel
theorem dX9_isAlive_26 : decode cX9_isAlive 26 = .ok (.ireturn, 1) := by decide +kernel
theorem dX9_own_0 : decode cX9_own 0 = .ok (.aload_n 0, 1) := by decide +kernel
theorem dX9_own_1 : decode cX9_own 1 = .ok (.iconst 0, 1) := by decide +kernel
theorem dX9_own_2 : decode cX9_own 2 = .ok (.putfield 1, 3) := by decide +kernel
theorem dX9_own_5 : decode cX9_own 5 = .ok (.aload_n 0, 1) := by decide +kernel
theorem dX9_own_6 : decode cX9_own 6 = .ok (.iload_n 1, 1) := by decide +kernel
theorem dX9_own_7 : decode cX9_own 7 = .ok (.iload_n 2, 1) := by decide +kernel
theorem dX9_own_8 : decode cX9_own 8 = .ok (.invokevirtual 110, 3) := by decide +kernel
theorem dX9_own_11 : decode cX9_own 11 = .ok (.ifCond .eq 16, 3) := by decide +kernel
theorem dX9_own_14 : decode cX9_own 14 = .ok (.iload_n 3, 1) := by decide +kernel
theorem dX9_own_15 : decode cX9_own 15 = .ok (.iconst (-1), 1) := by decide +kernel
theorem dX9_own_16 : decode cX9_own 16 = .ok (.if_icmp .eq 13, 3) := by decide +kernel
theorem dX9_own_19 : decode cX9_own 19 = .ok (.aload_n 0, 1) := by decide +kernel
theorem dX9_own_20 : decode cX9_own 20 = .ok (.iload_n 3, 1) := by decide +kernel
theorem dX9_own_21 : decode cX9_own 21 = .ok (.invokevirtual 114, 3) := by decide +kernel
theorem dX9_own_24 : decode cX9_own 24 = .ok (.ifCond .ne 5, 3) := by decide +kernel
theorem dX9_own_27 : decode cX9_own 27 = .ok (.iconst 0, 1) := by decide +kernel
theorem dX9_own_28 : decode cX9_own 28 = .ok (.ireturn, 1) := by decide +kernel
theorem dX9_own_29 : decode cX9_own 29 = .ok (.aload_n 0, 1) := by decide +kernel
theorem dX9_own_30 : decode cX9_own 30 = .ok (.iload_n 1, 1) := by decide +kernel
theorem dX9_own_31 : decode cX9_own 31 = .ok (.iload_n 2, 1) := by decide +kernel
theorem dX9_own_32 : decode cX9_own 32 = .ok (.invokevirtual 118, 3) := by decide +kernel
theorem dX9_own_35 : decode cX9_own 35 = .ok (.istore 4, 2) := by decide +kernel
theorem dX9_own_37 : decode cX9_own 37 = .ok (.iload 4, 2) := by decide +kernel
theorem dX9_own_39 : decode cX9_own 39 = .ok (.iconst (-1), 1) := by decide +kernel
theorem dX9_own_40 : decode cX9_own 40 = .ok (.if_icmp .eq 16, 3) := by decide +kernel
theorem dX9_own_43 : decode cX9_own 43 = .ok (.aload_n 0, 1) := by decide +kernel
theorem dX9_own_44 : decode cX9_own 44 = .ok (.getfield 67, 3) := by decide +kernel
theorem dX9_own_47 : decode cX9_own 47 = .ok (.iload 4, 2) := by decide +kernel
theorem dX9_own_49 : decode cX9_own 49 = .ok (.iaload, 1) := by decide +kernel
theorem dX9_own_50 : decode cX9_own 50 = .ok (.iconst 4, 1) := by decide +kernel
theorem dX9_own_51 : decode cX9_own 51 = .ok (.if_icmp .ge 5, 3) := by decide +kernel
theorem dX9_own_54 : decode cX9_own 54 = .ok (.iconst 0, 1) := by decide +kernel
theorem dX9_own_55 : decode cX9_own 55 = .ok (.ireturn, 1) := by decide +kernel
theorem dX9_own_56 : decode cX9_own 56 = .ok (.aload_n 0, 1) := by decide +kernel
theorem dX9_own_57 : decode cX9_own 57 = .ok (.getfield 33, 3) := by decide +kernel
theorem dX9_own_60 : decode cX9_own 60 = .ok (.bipush 53, 2) := by decide +kernel
theorem dX9_own_62 : decode cX9_own 62 = .ok (.iload_n 1, 1) := by decide +kernel
theorem dX9_own_63 : decode cX9_own 63 = .ok (.imul, 1) := by decide +kernel
theorem dX9_own_64 : decode cX9_own 64 = .ok (.iload_n 2, 1) := by decide +kernel
theorem dX9_own_65 : decode cX9_own 65 = .ok (.iadd, 1) := by decide +kernel
theorem dX9_own_66 : decode cX9_own 66 = .ok (.iload_n 3, 1) := by decide +kernel
theorem dX9_own_67 : decode cX9_own 67 = .ok (.iastore, 1) := by decide +kernel
theorem dX9_own_68 : decode cX9_own 68 = .ok (.iconst 1, 1) := by decide +kernel
theorem dX9_own_69 : decode cX9_own 69 = .ok (.ireturn, 1) := by decide +kernel
theorem dX9_feed_0 : decode cX9_feed 0 = .ok (.aload_n 0, 1) := by decide +kernel
theorem dX9_feed_1 : decode cX9_feed 1 = .ok (.iconst 0, 1) := by decide +kernel
theorem dX9_feed_2 : decode cX9_feed 2 = .ok (.putfield 1, 3) := by decide +kernel
theorem dX9_feed_5 : decode cX9_feed 5 = .ok (.aload_n 0, 1) := by decide +kernel
theorem dX9_feed_6 : decode cX9_feed 6 = .ok (.getfield 122, 3) := by decide +kernel
theorem dX9_feed_9 : decode cX9_feed 9 = .ok (.bipush 20, 2) := by decide +kernel
theorem dX9_feed_11 : decode cX9_feed 11 = .ok (.iadd, 1) := by decide +kernel
theorem dX9_feed_12 : decode cX9_feed 12 = .ok (.sipush 300, 3) := by decide +kernel
theorem dX9_feed_15 : decode cX9_feed 15 = .ok (.if_icmp .le 5, 3) := by decide +kernel
theorem dX9_feed_18 : decode cX9_feed 18 = .ok (.iconst (-1), 1) := by decide +kernel
theorem dX9_feed_19 : decode cX9_feed 19 = .ok (.ireturn, 1) := by decide +kernel
theorem dX9_feed_20 : decode cX9_feed 20 = .ok (.iconst 0, 1) := by decide +kernel
theorem dX9_feed_21 : decode cX9_feed 21 = .ok (.istore 6, 2) := by decide +kernel
theorem dX9_feed_23 : decode cX9_feed 23 = .ok (.iload 6, 2) := by decide +kernel
theorem dX9_feed_25 : decode cX9_feed 25 = .ok (.bipush 20, 2) := by decide +kernel
theorem dX9_feed_27 : decode cX9_feed 27 = .ok (.if_icmp .ge 90, 3) := by decide +kernel
theorem dX9_feed_30 : decode cX9_feed 30 = .ok (.iload 6, 2) := by decide +kernel
theorem dX9_feed_32 : decode cX9_feed 32 = .ok (.iconst 4, 1) := by decide +kernel
theorem dX9_feed_33 : decode cX9_feed 33 = .ok (.if_icmp .ge 7, 3) := by decide +kernel
theorem dX9_feed_36 : decode cX9_feed 36 = .ok (.iload_n 1, 1) := by decide +kernel
theorem dX9_feed_37 : decode cX9_feed 37 = .ok (.goto 39, 3) := by decide +kernel
theorem dX9_feed_40 : decode cX9_feed 40 = .ok (.iload 6, 2) := by decide +kernel
theorem dX9_feed_42 : decode cX9_feed 42 = .ok (.bipush 8, 2) := by decide +kernel
theorem dX9_feed_44 : decode cX9_feed 44 = .ok (.if_icmp .ge 7, 3) := by decide +kernel
theorem dX9_feed_47 : decode cX9_feed 47 = .ok (.iload_n 2, 1) := by decide +kernel
theorem dX9_feed_48 : decode cX9_feed 48 = .ok (.goto 28, 3) := by decide +kernel
theorem dX9_feed_51 : decode cX9_feed 51 = .ok (.iload 6, 2) := by decide +kernel
theorem dX9_feed_53 : decode cX9_feed 53 = .ok (.bipush 12, 2) := by decide +kernel
theorem dX9_feed_55 : decode cX9_feed 55 = .ok (.if_icmp .ge 7, 3) := by decide +kernel
theorem dX9_feed_58 : decode cX9_feed 58 = .ok (.iload_n 3, 1) := by decide +kernel
theorem dX9_feed_59 : decode cX9_feed 59 = .ok (.goto 17, 3) := by decide +kernel
theorem dX9_feed_62 : decode cX9_feed 62 = .ok (.iload 6, 2) := by decide +kernel
theorem dX9_feed_64 : decode cX9_feed 64 = .ok (.bipush 16, 2) := by decide +kernel
theorem dX9_feed_66 : decode cX9_feed 66 = .ok (.if_icmp .ge 8, 3) := by decide +kernel
theorem dX9_feed_69 : decode cX9_feed 69 = .ok (.iload 4, 2) := by decide +kernel
theorem dX9_feed_71 : decode cX9_feed 71 = .ok (.goto 5, 3) := by decide +kernel
theorem dX9_feed_74 : decode cX9_feed 74 = .ok (.iload 5, 2) := by decide +kernel
theorem dX9_feed_76 : decode cX9_feed 76 = .ok (.istore 7, 2) := by decide +kernel
theorem dX9_feed_78 : decode cX9_feed 78 = .ok (.aload_n 0, 1) := by decide +kernel
theorem dX9_feed_79 : decode cX9_feed 79 = .ok (.getfield 39, 3) := by decide +kernel
theorem dX9_feed_82 : decode cX9_feed 82 = .ok (.aload_n 0, 1) := by decide +kernel
theorem dX9_feed_83 : decode cX9_feed 83 = .ok (.getfield 122, 3) := by decide +kernel
theorem dX9_feed_86 : decode cX9_feed 86 = .ok (.iload 7, 2) := by decide +kernel
theorem dX9_feed_88 : decode cX9_feed 88 = .ok (.bipush 24, 2) := by decide +kernel
theorem dX9_feed_90 : decode cX9_feed 90 = .ok (.bipush 8, 2) := by decide +kernel
theorem dX9_feed_92 : decode cX9_feed 92 = .ok (.iload 6, 2) := by decide +kernel
theorem dX9_feed_94 : decode cX9_feed 94 = .ok (.iconst 4, 1) := by decide +kernel
theorem dX9_feed_95 : decode cX9_feed 95 = .ok (.irem, 1) := by decide +kernel
theorem dX9_feed_96 : decode cX9_feed 96 = .ok (.imul, 1) := by decide +kernel
theorem dX9_feed_97 : decode cX9_feed 97 = .ok (.isub, 1) := by decide +kernel
theorem dX9_feed_98 : decode cX9_feed 98 = .ok (.ishr, 1) := by decide +kernel
theorem dX9_feed_99 : decode cX9_feed 99 = .ok (.i2b, 1) := by decide +kernel
theorem dX9_feed_100 : decode cX9_feed 100 = .ok (.bastore, 1) := by decide +kernel
theorem dX9_feed_101 : decode cX9_feed 101 = .ok (.aload_n 0, 1) := by decide +kernel
theorem dX9_feed_102 : decode cX9_feed 102 = .ok (.dup, 1) := by decide +kernel
theorem dX9_feed_103 : decode cX9_feed 103 = .ok (.getfield 122, 3) := by decide +kernel
theorem dX9_feed_106 : decode cX9_feed 106 = .ok (.iconst 1, 1) := by decide +kernel
theorem dX9_feed_107 : decode cX9_feed 107 = .ok (.iadd, 1) := by decide +kernel
theorem dX9_feed_108 : decode cX9_feed 108 = .ok (.putfield 122, 3) := by decide +kernel
theorem dX9_feed_111 : decode cX9_feed 111 = .ok (.iinc 6 1, 3) := by decide +kernel
theorem dX9_feed_114 : decode cX9_feed 114 = .ok (.goto (-91), 3) := by decide +kernel
theorem dX9_feed_117 : decode cX9_feed 117 = .ok (.aload_n 0, 1) := by decide +kernel
theorem dX9_feed_118 : decode cX9_feed 118 = .ok (.getfield 122, 3) := by decide +kernel
theorem dX9_feed_121 : decode cX9_feed 121 = .ok (.ireturn, 1) := by decide +kernel
theorem dX9_end_0 : decode cX9_end 0 = .ok (.aload_n 0, 1) := by decide +kernel
theorem dX9_end_1 : decode cX9_end 1 = .ok (.iconst 0, 1) := by decide +kernel
theorem dX9_end_2 : decode cX9_end 2 = .ok (.putfield 1, 3) := by decide +kernel
theorem dX9_end_5 : decode cX9_end 5 = .ok (.iload_n 1, 1) := by decide +kernel
theorem dX9_end_6 : decode cX9_end 6 = .ok (.ifCond .lt 11, 3) := by decide +kernel
theorem dX9_end_9 : decode cX9_end 9 = .ok (.iload_n 1, 1) := by decide +kernel
theorem dX9_end_10 : decode cX9_end 10 = .ok (.aload_n 0, 1) := by decide +kernel
theorem dX9_end_11 : decode cX9_end 11 = .ok (.getfield 122, 3) := by decide +kernel
theorem dX9_end_14 : decode cX9_end 14 = .ok (.if_icmp .le 5, 3) := by decide +kernel
theorem dX9_end_17 : decode cX9_end 17 = .ok (.iconst (-1), 1) := by decide +kernel
theorem dX9_end_18 : decode cX9_end 18 = .ok (.ireturn, 1) := by decide +kernel
theorem dX9_end_19 : decode cX9_end 19 = .ok (.aload_n 0, 1) := by decide +kernel
theorem dX9_end_20 : decode cX9_end 20 = .ok (.iload_n 1, 1) := by decide +kernel
theorem dX9_end_21 : decode cX9_end 21 = .ok (.putfield 122, 3) := by decide +kernel
theorem dX9_end_24 : decode cX9_end 24 = .ok (.iload_n 1, 1) := by decide +kernel
theorem dX9_end_25 : decode cX9_end 25 = .ok (.ireturn, 1) := by decide +kernel
theorem dX9_see_0 : decode cX9_see 0 = .ok (.iload_n 1, 1) := by decide +kernel
theorem dX9_see_1 : decode cX9_see 1 = .ok (.aload_n 0, 1) := by decide +kernel
theorem dX9_see_2 : decode cX9_see 2 = .ok (.getfield 122, 3) := by decide +kernel
theorem dX9_see_5 : decode cX9_see 5 = .ok (.if_icmp .ge 12, 3) := by decide +kernel
theorem dX9_see_8 : decode cX9_see 8 = .ok (.aload_n 0, 1) := by decide +kernel
theorem dX9_see_9 : decode cX9_see 9 = .ok (.getfield 39, 3) := by decide +kernel
theorem dX9_see_12 : decode cX9_see 12 = .ok (.iload_n 1, 1) := by decide +kernel
theorem dX9_see_13 : decode cX9_see 13 = .ok (.baload, 1) := by decide +kernel
theorem dX9_see_14 : decode cX9_see 14 = .ok (.goto 4, 3) := by decide +kernel
theorem dX9_see_17 : decode cX9_see 17 = .ok (.iconst 0, 1) := by decide +kernel
theorem dX9_see_18 : decode cX9_see 18 = .ok (.ireturn, 1) := by decide +kernel
theorem dX9_isSmall_0 : decode cX9_isSmall 0 = .ok (.iload_n 0, 1) := by decide +kernel
theorem dX9_isSmall_1 : decode cX9_isSmall 1 = .ok (.bipush 97, 2) := by decide +kernel
theorem dX9_isSmall_3 : decode cX9_isSmall 3 = .ok (.if_icmp .lt 13, 3) := by decide +kernel
theorem dX9_isSmall_6 : decode cX9_isSmall 6 = .ok (.iload_n 0, 1) := by decide +kernel
theorem dX9_isSmall_7 : decode cX9_isSmall 7 = .ok (.bipush 122, 2) := by decide +kernel
theorem dX9_isSmall_9 : decode cX9_isSmall 9 = .ok (.if_icmp .gt 7, 3) := by decide +kernel
theorem dX9_isSmall_12 : decode cX9_isSmall 12 = .ok (.iconst 1, 1) := by decide +kernel
theorem dX9_isSmall_13 : decode cX9_isSmall 13 = .ok (.goto 4, 3) := by decide +kernel
theorem dX9_isSmall_16 : decode cX9_isSmall 16 = .ok (.iconst 0, 1) := by decide +kernel
theorem dX9_isSmall_17 : decode cX9_isSmall 17 = .ok (.ireturn, 1) := by decide +kernel
theorem dX9_isDigit_0 : decode cX9_isDigit 0 = .ok (.iload_n 0, 1) := by decide +kernel
theorem dX9_isDigit_1 : decode cX9_isDigit 1 = .ok (.bipush 48, 2) := by decide +kernel
theorem dX9_isDigit_3 : decode cX9_isDigit 3 = .ok (.if_icmp .lt 13, 3) := by decide +kernel
theorem dX9_isDigit_6 : decode cX9_isDigit 6 = .ok (.iload_n 0, 1) := by decide +kernel
theorem dX9_isDigit_7 : decode cX9_isDigit 7 = .ok (.bipush 57, 2) := by decide +kernel
theorem dX9_isDigit_9 : decode cX9_isDigit 9 = .ok (.if_icmp .gt 7, 3) := by decide +kernel
theorem dX9_isDigit_12 : decode cX9_isDigit 12 = .ok (.iconst 1, 1) := by decide +kernel
theorem dX9_isDigit_13 : decode cX9_isDigit 13 = .ok (.goto 4, 3) := by decide +kernel
theorem dX9_isDigit_16 : decode cX9_isDigit 16 = .ok (.iconst 0, 1) := by decide +kernel
theorem dX9_isDigit_17 : decode cX9_isDigit 17 = .ok (.ireturn, 1) := by decide +kernel
theorem dX9_next_0 : decode cX9_next 0 = .ok (.aload_n 0, 1) := by decide +kernel
theorem dX9_next_1 : decode cX9_next 1 = .ok (.getfield 125, 3) := by decide +kernel
theorem dX9_next_4 : decode cX9_next 4 = .ok (.aload_n 0, 1) := by decide +kernel
theorem dX9_next_5 : decode cX9_next 5 = .ok (.getfield 122, 3) := by decide +kernel
theorem dX9_next_8 : decode cX9_next 8 = .ok (.if_icmp .ge 44, 3) := by decide +kernel
theorem dX9_next_11 : decode cX9_next 11 = .ok (.aload_n 0, 1) := by decide +kernel
theorem dX9_next_12 : decode cX9_next 12 = .ok (.getfield 39, 3) := by decide +kernel
theorem dX9_next_15 : decode cX9_next 15 = .ok (.aload_n 0, 1) := by decide +kernel
theorem dX9_next_16 : decode cX9_next 16 = .ok (.getfield 125, 3) := by decide +kernel
theorem dX9_next_19 : decode cX9_next 19 = .ok (.baload, 1) := by decide +kernel
theorem dX9_next_20 : decode cX9_next 20 = .ok (.bipush 32, 2) := by decide +kernel
theorem dX9_next_22 : decode cX9_next 22 = .ok (.if_icmp .eq 17, 3) := by decide +kernel
theorem dX9_next_25 : decode cX9_next 25 = .ok (.aload_n 0, 1) := by decide +kernel
theorem dX9_next_26 : decode cX9_next 26 = .ok (.getfield 39, 3) := by decide +kernel
theorem dX9_next_29 : decode cX9_next 29 = .ok (.aload_n 0, 1) := by decide +kernel
theorem dX9_next_30 : decode cX9_next 30 = .ok (.getfield 125, 3) := by decide +kernel
theorem dX9_next_33 : decode cX9_next 33 = .ok (.baload, 1) := by decide +kernel
theorem dX9_next_34 : decode cX9_next 34 = .ok (.bipush 10, 2) := by decide +kernel
theorem dX9_next_36 : decode cX9_next 36 = .ok (.if_icmp .ne 16, 3) := by decide +kernel
theorem dX9_next_39 : decode cX9_next 39 = .ok (.aload_n 0, 1) := by decide +kernel
theorem dX9_next_40 : decode cX9_next 40 = .ok (.dup, 1) := by decide +kernel
theorem dX9_next_41 : decode cX9_next 41 = .ok (.getfield 125, 3) := by decide +kernel
theorem dX9_next_44 : decode cX9_next 44 = .ok (.iconst 1, 1) := by decide +kernel
theorem dX9_next_45 : decode cX9_next 45 = .ok (.iadd, 1) := by decide +kernel
theorem dX9_next_46 : decode cX9_next 46 = .ok (.putfield 125, 3) := by decide +kernel
theorem dX9_next_49 : decode cX9_next 49 = .ok (.goto (-49), 3) := by decide +kernel
theorem dX9_next_52 : decode cX9_next 52 = .ok (.aload_n 0, 1) := by decide +kernel
theorem dX9_next_53 : decode cX9_next 53 = .ok (.aload_n 0, 1) := by decide +kernel
theorem dX9_next_54 : decode cX9_next 54 = .ok (.getfield 125, 3) := by decide +kernel
theorem dX9_next_57 : decode cX9_next 57 = .ok (.putfield 128, 3) := by decide +kernel
theorem dX9_next_60 : decode cX9_next 60 = .ok (.aload_n 0, 1) := by decide +kernel
theorem dX9_next_61 : decode cX9_next 61 = .ok (.getfield 125, 3) := by decide +kernel
theorem dX9_next_64 : decode cX9_next 64 = .ok (.aload_n 0, 1) := by decide +kernel
theorem dX9_next_65 : decode cX9_next 65 = .ok (.getfield 122, 3) := by decide +kernel
theorem dX9_next_68 : decode cX9_next 68 = .ok (.if_icmp .lt 9, 3) := by decide +kernel
theorem dX9_next_71 : decode cX9_next 71 = .ok (.aload_n 0, 1) := by decide +kernel
theorem dX9_next_72 : decode cX9_next 72 = .ok (.iconst 0, 1) := by decide +kernel
theorem dX9_next_73 : decode cX9_next 73 = .ok (.putfield 131, 3) := by decide +kernel
theorem dX9_next_76 : decode cX9_next 76 = .ok (.return_, 1) := by decide +kernel
theorem dX9_next_77 : decode cX9_next 77 = .ok (.aload_n 0, 1) := by decide +kernel
theorem dX9_next_78 : decode cX9_next 78 = .ok (.getfield 39, 3) := by decide +kernel
theorem dX9_next_81 : decode cX9_next 81 = .ok (.aload_n 0, 1) := by decide +kernel
theorem dX9_next_82 : decode cX9_next 82 = .ok (.getfield 125, 3) := by decide +kernel
theorem dX9_next_85 : decode cX9_next 85 = .ok (.baload, 1) := by decide +kernel
theorem dX9_next_86 : decode cX9_next 86 = .ok (.istore_n 1, 1) := by decide +kernel
theorem dX9_next_87 : decode cX9_next 87 = .ok (.aload_n 0, 1) := by decide +kernel
theorem dX9_next_88 : decode cX9_next 88 = .ok (.dup, 1) := by decide +kernel
theorem dX9_next_89 : decode cX9_next 89 = .ok (.getfield 125, 3) := by decide +kernel
theorem dX9_next_92 : decode cX9_next 92 = .ok (.iconst 1, 1) := by decide +kernel
theorem dX9_next_93 : decode cX9_next 93 = .ok (.iadd, 1) := by decide +kernel
theorem dX9_next_94 : decode cX9_next 94 = .ok (.putfield 125, 3) := by decide +kernel
theorem dX9_next_97 : decode cX9_next 97 = .ok (.iload_n 1, 1) := by decide +kernel
theorem dX9_next_98 : decode cX9_next 98 = .ok (.invokestatic 134, 3) := by decide +kernel
theorem dX9_next_101 : decode cX9_next 101 = .ok (.ifCond .eq 38, 3) := by decide +kernel
theorem dX9_next_104 : decode cX9_next 104 = .ok (.aload_n 0, 1) := by decide +kernel
theorem dX9_next_105 : decode cX9_next 105 = .ok (.aload_n 0, 1) := by decide +kernel
theorem dX9_next_106 : decode cX9_next 106 = .ok (.getfield 125, 3) := by decide +kernel
theorem dX9_next_109 : decode cX9_next 109 = .ok (.invokevirtual 137, 3) := by decide +kernel
theorem dX9_next_112 : decode cX9_next 112 = .ok (.invokestatic 134, 3) := by decide +kernel
theorem dX9_next_115 : decode cX9_next 115 = .ok (.ifCond .eq 16, 3) := by decide +kernel
theorem dX9_next_118 : decode cX9_next 118 = .ok (.aload_n 0, 1) := by decide +kernel
theorem dX9_next_119 : decode cX9_next 119 = .ok (.dup, 1) := by decide +kernel
theorem dX9_next_120 : decode cX9_next 120 = .ok (.getfield 125, 3) := by decide +kernel
theorem dX9_next_123 : decode cX9_next 123 = .ok (.iconst 1, 1) := by decide +kernel
theorem dX9_next_124 : decode cX9_next 124 = .ok (.iadd, 1) := by decide +kernel
theorem dX9_next_125 : decode cX9_next 125 = .ok (.putfield 125, 3) := by decide +kernel
theorem dX9_next_128 : decode cX9_next 128 = .ok (.goto (-24), 3) := by decide +kernel
theorem dX9_next_131 : decode cX9_next 131 = .ok (.aload_n 0, 1) := by decide +kernel
theorem dX9_next_132 : decode cX9_next 132 = .ok (.iconst 3, 1) := by decide +kernel
theorem dX9_next_133 : decode cX9_next 133 = .ok (.putfield 131, 3) := by decide +kernel
theorem dX9_next_136 : decode cX9_next 136 = .ok (.goto 121, 3) := by decide +kernel
theorem dX9_next_139 : decode cX9_next 139 = .ok (.iload_n 1, 1) := by decide +kernel
theorem dX9_next_140 : decode cX9_next 140 = .ok (.invokestatic 141, 3) := by decide +kernel
theorem dX9_next_143 : decode cX9_next 143 = .ok (.ifCond .eq 99, 3) := by decide +kernel
theorem dX9_next_146 : decode cX9_next 146 = .ok (.aload_n 0, 1) := by decide +kernel
theorem dX9_next_147 : decode cX9_next 147 = .ok (.iload_n 1, 1) := by decide +kernel
theorem dX9_next_148 : decode cX9_next 148 = .ok (.bipush 48, 2) := by decide +kernel
theorem dX9_next_150 : decode cX9_next 150 = .ok (.isub, 1) := by decide +kernel
theorem dX9_next_151 : decode cX9_next 151 = .ok (.putfield 144, 3) := by decide +kernel
theorem dX9_next_154 : decode cX9_next 154 = .ok (.aload_n 0, 1) := by decide +kernel
theorem dX9_next_155 : decode cX9_next 155 = .ok (.aload_n 0, 1) := by decide +kernel
theorem dX9_next_156 : decode cX9_next 156 = .ok (.getfield 125, 3) := by decide +kernel
theorem dX9_next_159 : decode cX9_next 159 = .ok (.invokevirtual 137, 3) := by decide +kernel
theorem dX9_next_162 : decode cX9_next 162 = .ok (.invokestatic 141, 3) := by decide +kernel
theorem dX9_next_165 : decode cX9_next 165 = .ok (.ifCond .eq 52, 3) := by decide +kernel
theorem dX9_next_168 : decode cX9_next 168 = .ok (.aload_n 0, 1) := by decide +kernel
theorem dX9_next_169 : decode cX9_next 169 = .ok (.getfield 125, 3) := by decide +kernel
theorem dX9_next_172 : decode cX9_next 172 = .ok (.aload_n 0, 1) := by decide +kernel
theorem dX9_next_173 : decode cX9_next 173 = .ok (.getfield 128, 3) := by decide +kernel
theorem dX9_next_176 : decode cX9_next 176 = .ok (.isub, 1) := by decide +kernel
theorem dX9_next_177 : decode cX9_next 177 = .ok (.iconst 4, 1) := by decide +kernel
theorem dX9_next_178 : decode cX9_next 178 = .ok (.if_icmp .ge 26, 3) := by decide +kernel
theorem dX9_next_181 : decode cX9_next 181 = .ok (.aload_n 0, 1) := by decide +kernel
theorem dX9_next_182 : decode cX9_next 182 = .ok (.bipush 10, 2) := by decide +kernel
theorem dX9_next_184 : decode cX9_next 184 = .ok (.aload_n 0, 1) := by decide +kernel
theorem dX9_next_185 : decode cX9_next 185 = .ok (.getfield 144, 3) := by decide +kernel
theorem dX9_next_188 : decode cX9_next 188 = .ok (.imul, 1) := by decide +kernel
theorem dX9_next_189 : decode cX9_next 189 = .ok (.aload_n 0, 1) := by decide +kernel
theorem dX9_next_190 : decode cX9_next 190 = .ok (.aload_n 0, 1) := by decide +kernel
theorem dX9_next_191 : decode cX9_next 191 = .ok (.getfield 125, 3) := by decide +kernel
theorem dX9_next_194 : decode cX9_next 194 = .ok (.invokevirtual 137, 3) := by decide +kernel
theorem dX9_next_197 : decode cX9_next 197 = .ok (.iadd, 1) := by decide +kernel
theorem dX9_next_198 : decode cX9_next 198 = .ok (.bipush 48, 2) := by decide +kernel
theorem dX9_next_200 : decode cX9_next 200 = .ok (.isub, 1) := by decide +kernel
theorem dX9_next_201 : decode cX9_next 201 = .ok (.putfield 144, 3) := by decide +kernel
theorem dX9_next_204 : decode cX9_next 204 = .ok (.aload_n 0, 1) := by decide +kernel
theorem dX9_next_205 : decode cX9_next 205 = .ok (.dup, 1) := by decide +kernel
theorem dX9_next_206 : decode cX9_next 206 = .ok (.getfield 125, 3) := by decide +kernel
theorem dX9_next_209 : decode cX9_next 209 = .ok (.iconst 1, 1) := by decide +kernel
theorem dX9_next_210 : decode cX9_next 210 = .ok (.iadd, 1) := by decide +kernel
theorem dX9_next_211 : decode cX9_next 211 = .ok (.putfield 125, 3) := by decide +kernel
theorem dX9_next_214 : decode cX9_next 214 = .ok (.goto (-60), 3) := by decide +kernel
theorem dX9_next_217 : decode cX9_next 217 = .ok (.aload_n 0, 1) := by decide +kernel
theorem dX9_next_218 : decode cX9_next 218 = .ok (.aload_n 0, 1) := by decide +kernel
theorem dX9_next_219 : decode cX9_next 219 = .ok (.getfield 125, 3) := by decide +kernel
theorem dX9_next_222 : decode cX9_next 222 = .ok (.aload_n 0, 1) := by decide +kernel
theorem dX9_next_223 : decode cX9_next 223 = .ok (.getfield 128, 3) := by decide +kernel
theorem dX9_next_226 : decode cX9_next 226 = .ok (.isub, 1) := by decide +kernel
theorem dX9_next_227 : decode cX9_next 227 = .ok (.iconst 4, 1) := by decide +kernel
theorem dX9_next_228 : decode cX9_next 228 = .ok (.if_icmp .le 7, 3) := by decide +kernel
theorem dX9_next_231 : decode cX9_next 231 = .ok (.iconst 1, 1) := by decide +kernel
theorem dX9_next_232 : decode cX9_next 232 = .ok (.goto 4, 3) := by decide +kernel
theorem dX9_next_235 : decode cX9_next 235 = .ok (.iconst 2, 1) := by decide +kernel
theorem dX9_next_236 : decode cX9_next 236 = .ok (.putfield 131, 3) := by decide +kernel
theorem dX9_next_239 : decode cX9_next 239 = .ok (.goto 18, 3) := by decide +kernel
theorem dX9_next_242 : decode cX9_next 242 = .ok (.aload_n 0, 1) := by decide +kernel
theorem dX9_next_243 : decode cX9_next 243 = .ok (.iload_n 1, 1) := by decide +kernel
theorem dX9_next_244 : decode cX9_next 244 = .ok (.bipush 59, 2) := by decide +kernel
theorem dX9_next_246 : decode cX9_next 246 = .ok (.if_icmp .ne 7, 3) := by decide +kernel
theorem dX9_next_249 : decode cX9_next 249 = .ok (.iconst 4, 1) := by decide +kernel
theorem dX9_next_250 : decode cX9_next 250 = .ok (.goto 4, 3) := by decide +kernel
theorem dX9_next_253 : decode cX9_next 253 = .ok (.iconst 1, 1) := by decide +kernel
theorem dX9_next_254 : decode cX9_next 254 = .ok (.putfield 131, 3) := by decide +kernel
theorem dX9_next_257 : decode cX9_next 257 = .ok (.return_, 1) := by decide +kernel
theorem dX9_isWord_0 : decode cX9_isWord 0 = .ok (.aload_n 0, 1) := by decide +kernel
theorem dX9_isWord_1 : decode cX9_isWord 1 = .ok (.getfield 131, 3) := by decide +kernel
theorem dX9_isWord_4 : decode cX9_isWord 4 = .ok (.iconst 3, 1) := by decide +kernel
theorem dX9_isWord_5 : decode cX9_isWord 5 = .ok (.if_icmp .ne 19, 3) := by decide +kernel
theorem dX9_isWord_8 : decode cX9_isWord 8 = .ok (.aload_n 0, 1) := by decide +kernel
theorem dX9_isWord_9 : decode cX9_isWord 9 = .ok (.getfield 125, 3) := by decide +kernel
theorem dX9_isWord_12 : decode cX9_isWord 12 = .ok (.aload_n 0, 1) := by decide +kernel
theorem dX9_isWord_13 : decode cX9_isWord 13 = .ok (.getfield 128, 3) := by decide +kernel
theorem dX9_isWord_16 : decode cX9_isWord 16 = .ok (.isub, 1) := by decide +kernel
theorem dX9_isWord_17 : decode cX9_isWord 17 = .ok (.aload_n 1, 1) := by decide +kernel
theorem dX9_isWord_18 : decode cX9_isWord 18 = .ok (.invokevirtual 147, 3) := by decide +kernel
theorem dX9_isWord_21 : decode cX9_isWord 21 = .ok (.if_icmp .eq 5, 3) := by decide +kernel
theorem dX9_isWord_24 : decode cX9_isWord 24 = .ok (.iconst 0, 1) := by decide +kernel
theorem dX9_isWord_25 : decode cX9_isWord 25 = .ok (.ireturn, 1) := by decide +kernel
theorem dX9_isWord_26 : decode cX9_isWord 26 = .ok (.iconst 0, 1) := by decide +kernel
theorem dX9_isWord_27 : decode cX9_isWord 27 = .ok (.istore_n 2, 1) := by decide +kernel
theorem dX9_isWord_28 : decode cX9_isWord 28 = .ok (.iload_n 2, 1) := by decide +kernel
theorem dX9_isWord_29 : decode cX9_isWord 29 = .ok (.aload_n 1, 1) := by decide +kernel
theorem dX9_isWord_30 : decode cX9_isWord 30 = .ok (.invokevirtual 147, 3) := by decide +kernel
theorem dX9_isWord_33 : decode cX9_isWord 33 = .ok (.if_icmp .ge 30, 3) := by decide +kernel
theorem dX9_isWord_36 : decode cX9_isWord 36 = .ok (.aload_n 0, 1) := by decide +kernel
theorem dX9_isWord_37 : decode cX9_isWord 37 = .ok (.getfield 39, 3) := by decide +kernel
theorem dX9_isWord_40 : decode cX9_isWord 40 = .ok (.aload_n 0, 1) := by decide +kernel
theorem dX9_isWord_41 : decode cX9_isWord 41 = .ok (.getfield 128, 3) := by decide +kernel
theorem dX9_isWord_44 : decode cX9_isWord 44 = .ok (.iload_n 2, 1) := by decide +kernel
theorem dX9_isWord_45 : decode cX9_isWord 45 = .ok (.iadd, 1) := by decide +kernel
theorem dX9_isWord_46 : decode cX9_isWord 46 = .ok (.baload, 1) := by decide +kernel
theorem dX9_isWord_47 : decode cX9_isWord 47 = .ok (.aload_n 1, 1) := by decide +kernel
theorem dX9_isWord_48 : decode cX9_isWord 48 = .ok (.iload_n 2, 1) := by decide +kernel
theorem dX9_isWord_49 : decode cX9_isWord 49 = .ok (.invokevirtual 153, 3) := by decide +kernel
theorem dX9_isWord_52 : decode cX9_isWord 52 = .ok (.if_icmp .eq 5, 3) := by decide +kernel
theorem dX9_isWord_55 : decode cX9_isWord 55 = .ok (.iconst 0, 1) := by decide +kernel
theorem dX9_isWord_56 : decode cX9_isWord 56 = .ok (.ireturn, 1) := by decide +kernel
theorem dX9_isWord_57 : decode cX9_isWord 57 = .ok (.iinc 2 1, 3) := by decide +kernel
theorem dX9_isWord_60 : decode cX9_isWord 60 = .ok (.goto (-32), 3) := by decide +kernel
theorem dX9_isWord_63 : decode cX9_isWord 63 = .ok (.iconst 1, 1) := by decide +kernel
theorem dX9_isWord_64 : decode cX9_isWord 64 = .ok (.ireturn, 1) := by decide +kernel
theorem dX9_fails_0 : decode cX9_fails 0 = .ok (.aload_n 0, 1) := by decide +kernel
theorem dX9_fails_1 : decode cX9_fails 1 = .ok (.getfield 157, 3) := by decide +kernel
theorem dX9_fails_4 : decode cX9_fails 4 = .ok (.ifCond .eq 4, 3) := by decide +kernel
theorem dX9_fails_7 : decode cX9_fails 7 = .ok (.return_, 1) := by decide +kernel
theorem dX9_fails_8 : decode cX9_fails 8 = .ok (.aload_n 0, 1) := by decide +kernel
theorem dX9_fails_9 : decode cX9_fails 9 = .ok (.iload_n 1, 1) := by decide +kernel
theorem dX9_fails_10 : decode cX9_fails 10 = .ok (.putfield 157, 3) := by decide +kernel
theorem dX9_fails_13 : decode cX9_fails 13 = .ok (.aload_n 0, 1) := by decide +kernel
theorem dX9_fails_14 : decode cX9_fails 14 = .ok (.aload_n 0, 1) := by decide +kernel
theorem dX9_fails_15 : decode cX9_fails 15 = .ok (.getfield 128, 3) := by decide +kernel
theorem dX9_fails_18 : decode cX9_fails 18 = .ok (.putfield 160, 3) := by decide +kernel
theorem dX9_fails_21 : decode cX9_fails 21 = .ok (.return_, 1) := by decide +kernel
theorem dX9_number_0 : decode cX9_number 0 = .ok (.aload_n 0, 1) := by decide +kernel
theorem dX9_number_1 : decode cX9_number 1 = .ok (.getfield 157, 3) := by decide +kernel
theorem dX9_number_4 : decode cX9_number 4 = .ok (.ifCond .ne 16, 3) := by decide +kernel
theorem dX9_number_7 : decode cX9_number 7 = .ok (.aload_n 0, 1) := by decide +kernel
theorem dX9_number_8 : decode cX9_number 8 = .ok (.getfield 131, 3) := by decide +kernel
theorem dX9_number_11 : decode cX9_number 11 = .ok (.iconst 2, 1) := by decide +kernel
theorem dX9_number_12 : decode cX9_number 12 = .ok (.if_icmp .eq 8, 3) := by decide +kernel
theorem dX9_number_15 : decode cX9_number 15 = .ok (.aload_n 0, 1) := by decide +kernel
theorem dX9_number_16 : decode cX9_number 16 = .ok (.iconst 1, 1) := by decide +kernel
theorem dX9_number_17 : decode cX9_number 17 = .ok (.invokevirtual 163, 3) := by decide +kernel
theorem dX9_number_20 : decode cX9_number 20 = .ok (.aload_n 0, 1) := by decide +kernel
theorem dX9_number_21 : decode cX9_number 21 = .ok (.getfield 157, 3) := by decide +kernel
theorem dX9_number_24 : decode cX9_number 24 = .ok (.ifCond .ne 20, 3) := by decide +kernel
theorem dX9_number_27 : decode cX9_number 27 = .ok (.aload_n 0, 1) := by decide +kernel
theorem dX9_number_28 : decode cX9_number 28 = .ok (.getfield 144, 3) := by decide +kernel
theorem dX9_number_31 : decode cX9_number 31 = .ok (.iload_n 1, 1) := by decide +kernel
theorem dX9_number_32 : decode cX9_number 32 = .ok (.iload_n 2, 1) := by decide +kernel
theorem dX9_number_33 : decode cX9_number 33 = .ok (.invokestatic 100, 3) := by decide +kernel
theorem dX9_number_36 : decode cX9_number 36 = .ok (.ifCond .ne 8, 3) := by decide +kernel
theorem dX9_number_39 : decode cX9_number 39 = .ok (.aload_n 0, 1) := by decide +kernel
theorem dX9_number_40 : decode cX9_number 40 = .ok (.iconst 2, 1) := by decide +kernel
theorem dX9_number_41 : decode cX9_number 41 = .ok (.invokevirtual 163, 3) := by decide +kernel
theorem dX9_number_44 : decode cX9_number 44 = .ok (.aload_n 0, 1) := by decide +kernel
theorem dX9_number_45 : decode cX9_number 45 = .ok (.getfield 157, 3) := by decide +kernel
theorem dX9_number_48 : decode cX9_number 48 = .ok (.ifCond .eq 5, 3) := by decide +kernel
theorem dX9_number_51 : decode cX9_number 51 = .ok (.iconst 0, 1) := by decide +kernel
theorem dX9_number_52 : decode cX9_number 52 = .ok (.ireturn, 1) := by decide +kernel
theorem dX9_number_53 : decode cX9_number 53 = .ok (.aload_n 0, 1) := by decide +kernel
theorem dX9_number_54 : decode cX9_number 54 = .ok (.getfield 144, 3) := by decide +kernel
theorem dX9_number_57 : decode cX9_number 57 = .ok (.istore_n 3, 1) := by decide +kernel
theorem dX9_number_58 : decode cX9_number 58 = .ok (.aload_n 0, 1) := by decide +kernel
theorem dX9_number_59 : decode cX9_number 59 = .ok (.invokevirtual 167, 3) := by decide +kernel
theorem dX9_number_62 : decode cX9_number 62 = .ok (.iload_n 3, 1) := by decide +kernel
theorem dX9_number_63 : decode cX9_number 63 = .ok (.ireturn, 1) := by decide +kernel
theorem dX9_readStatement_0 : decode cX9_readStatement 0 = .ok (.aload_n 0, 1) := by decide +kernel
theorem dX9_readStatement_1 : decode cX9_readStatement 1 = .ok (.ldc 170, 2) := by decide +kernel
theorem dX9_readStatement_3 : decode cX9_readStatement 3 = .ok (.invokevirtual 172, 3) := by decide +kernel
theorem dX9_readStatement_6 : decode cX9_readStatement 6 = .ok (.ifCond .eq 7, 3) := by decide +kernel
theorem dX9_readStatement_9 : decode cX9_readStatement 9 = .ok (.iconst 0, 1) := by decide +kernel
theorem dX9_readStatement_10 : decode cX9_readStatement 10 = .ok (.goto 43, 3) := by decide +kernel
theorem dX9_readStatement_13 : decode cX9_readStatement 13 = .ok (.aload_n 0, 1) := by decide +kernel
theorem dX9_readStatement_14 : decode cX9_readStatement 14 = .ok (.ldc 176, 2) := by decide +kernel
theorem dX9_readStatement_16 : decode cX9_readStatement 16 = .ok (.invokevirtual 172, 3) := by decide +kernel
theorem dX9_readStatement_19 : decode cX9_readStatement 19 = .ok (.ifCond .eq 7, 3) := by decide +kernel
theorem dX9_readStatement_22 : decode cX9_readStatement 22 = .ok (.iconst 1, 1) := by decide +kernel
theorem dX9_readStatement_23 : decode cX9_readStatement 23 = .ok (.goto 30, 3) := by decide +kernel
theorem dX9_readStatement_26 : decode cX9_readStatement 26 = .ok (.aload_n 0, 1) := by decide +kernel
theorem dX9_readStatement_27 : decode cX9_readStatement 27 = .ok (.ldc 177, 2) := by decide +kernel
theorem dX9_readStatement_29 : decode cX9_readStatement 29 = .ok (.invokevirtual 172, 3) := by decide +kernel
theorem dX9_readStatement_32 : decode cX9_readStatement 32 = .ok (.ifCond .eq 7, 3) := by decide +kernel
theorem dX9_readStatement_35 : decode cX9_readStatement 35 = .ok (.iconst 2, 1) := by decide +kernel
theorem dX9_readStatement_36 : decode cX9_readStatement 36 = .ok (.goto 17, 3) := by decide +kernel
theorem dX9_readStatement_39 : decode cX9_readStatement 39 = .ok (.aload_n 0, 1) := by decide +kernel
theorem dX9_readStatement_40 : decode cX9_readStatement 40 = .ok (.ldc 179, 2) := by decide +kernel
theorem dX9_readStatement_42 : decode cX9_readStatement 42 = .ok (.invokevirtual 172, 3) := by decide +kernel
theorem dX9_readStatement_45 : decode cX9_readStatement 45 = .ok (.ifCond .eq 7, 3) := by decide +kernel
theorem dX9_readStatement_48 : decode cX9_readStatement 48 = .ok (.iconst 3, 1) := by decide +kernel
theorem dX9_readStatement_49 : decode cX9_readStatement 49 = .ok (.goto 4, 3) := by decide +kernel
theorem dX9_readStatement_52 : decode cX9_readStatement 52 = .ok (.iconst (-1), 1) := by decide +kernel
theorem dX9_readStatement_53 : decode cX9_readStatement 53 = .ok (.istore_n 1, 1) := by decide +kernel
theorem dX9_readStatement_54 : decode cX9_readStatement 54 = .ok (.iload_n 1, 1) := by decide +kernel
theorem dX9_readStatement_55 : decode cX9_readStatement 55 = .ok (.iconst (-1), 1) := by decide +kernel
theorem dX9_readStatement_56 : decode cX9_readStatement 56 = .ok (.if_icmp .ne 11, 3) := by decide +kernel
theorem dX9_readStatement_59 : decode cX9_readStatement 59 = .ok (.aload_n 0, 1) := by decide +kernel
theorem dX9_readStatement_60 : decode cX9_readStatement 60 = .ok (.iconst 1, 1) := by decide +kernel
theorem dX9_readStatement_61 : decode cX9_readStatement 61 = .ok (.invokevirtual 163, 3) := by decide +kernel
theorem dX9_readStatement_64 : decode cX9_readStatement 64 = .ok (.goto 17, 3) := by decide +kernel
theorem dX9_readStatement_67 : decode cX9_readStatement 67 = .ok (.aload_n 0, 1) := by decide +kernel
theorem dX9_readStatement_68 : decode cX9_readStatement 68 = .ok (.getfield 181, 3) := by decide +kernel
theorem dX9_readStatement_71 : decode cX9_readStatement 71 = .ok (.bipush 30, 2) := by decide +kernel
theorem dX9_readStatement_73 : decode cX9_readStatement 73 = .ok (.if_icmp .ne 8, 3) := by decide +kernel
theorem dX9_readStatement_76 : decode cX9_readStatement 76 = .ok (.aload_n 0, 1) := by decide +kernel
theorem dX9_readStatement_77 : decode cX9_readStatement 77 = .ok (.iconst 3, 1) := by decide +kernel
theorem dX9_readStatement_78 : decode cX9_readStatement 78 = .ok (.invokevirtual 163, 3) := by decide +kernel
theorem dX9_readStatement_81 : decode cX9_readStatement 81 = .ok (.aload_n 0, 1) := by decide +kernel
theorem dX9_readStatement_82 : decode cX9_readStatement 82 = .ok (.getfield 157, 3) := by decide +kernel
theorem dX9_readStatement_85 : decode cX9_readStatement 85 = .ok (.ifCond .eq 4, 3) := by decide +kernel
theorem dX9_readStatement_88 : decode cX9_readStatement 88 = .ok (.return_, 1) := by decide +kernel
theorem dX9_readStatement_89 : decode cX9_readStatement 89 = .ok (.iconst 4, 1) := by decide +kernel
theorem dX9_readStatement_90 : decode cX9_readStatement 90 = .ok (.aload_n 0, 1) := by decide +kernel
theorem dX9_readStatement_91 : decode cX9_readStatement 91 = .ok (.getfield 181, 3) := by decide +kernel
theorem dX9_readStatement_94 : decode cX9_readStatement 94 = .ok (.imul, 1) := by decide +kernel
theorem dX9_readStatement_95 : decode cX9_readStatement 95 = .ok (.istore_n 2, 1) := by decide +kernel
theorem dX9_readStatement_96 : decode cX9_readStatement 96 = .ok (.aload_n 0, 1) := by decide +kernel
theorem dX9_readStatement_97 : decode cX9_readStatement 97 = .ok (.dup, 1) := by decide +kernel
theorem dX9_readStatement_98 : decode cX9_readStatement 98 = .ok (.getfield 181, 3) := by decide +kernel
theorem dX9_readStatement_101 : decode cX9_readStatement 101 = .ok (.iconst 1, 1) := by decide +kernel
theorem dX9_readStatement_102 : decode cX9_readStatement 102 = .ok (.iadd, 1) := by decide +kernel
theorem dX9_readStatement_103 : decode cX9_readStatement 103 = .ok (.putfield 181, 3) := by decide +kernel
theorem dX9_readStatement_106 : decode cX9_readStatement 106 = .ok (.aload_n 0, 1) := by decide +kernel
theorem dX9_readStatement_107 : decode cX9_readStatement 107 = .ok (.getfield 49, 3) := by decide +kernel
theorem dX9_readStatement_110 : decode cX9_readStatement 110 = .ok (.iload_n 2, 1) := by decide +kernel
theorem dX9_readStatement_111 : decode cX9_readStatement 111 = .ok (.iload_n 1, 1) := by decide +kernel
theorem dX9_readStatement_112 : decode cX9_readStatement 112 = .ok (.iastore, 1) := by decide +kernel
theorem dX9_readStatement_113 : decode cX9_readStatement 113 = .ok (.aload_n 0, 1) := by decide +kernel
theorem dX9_readStatement_114 : decode cX9_readStatement 114 = .ok (.invokevirtual 167, 3) := by decide +kernel
theorem dX9_readStatement_117 : decode cX9_readStatement 117 = .ok (.iload_n 1, 1) := by decide +kernel
theorem dX9_readStatement_118 : decode cX9_readStatement 118 = .ok (.iconst 3, 1) := by decide +kernel
theorem dX9_readStatement_119 : decode cX9_readStatement 119 = .ok (.if_icmp .ne 58, 3) := by decide +kernel
theorem dX9_readStatement_122 : decode cX9_readStatement 122 = .ok (.aload_n 0, 1) := by decide +kernel
theorem dX9_readStatement_123 : decode cX9_readStatement 123 = .ok (.getfield 49, 3) := by decide +kernel
theorem dX9_readStatement_126 : decode cX9_readStatement 126 = .ok (.iload_n 2, 1) := by decide +kernel
theorem dX9_readStatement_127 : decode cX9_readStatement 127 = .ok (.iconst 1, 1) := by decide +kernel
theorem dX9_readStatement_128 : decode cX9_readStatement 128 = .ok (.iadd, 1) := by decide +kernel
theorem dX9_readStatement_129 : decode cX9_readStatement 129 = .ok (.aload_n 0, 1) := by decide +kernel
theorem dX9_readStatement_130 : decode cX9_readStatement 130 = .ok (.ldc 184, 2) := by decide +kernel
theorem dX9_readStatement_132 : decode cX9_readStatement 132 = .ok (.invokevirtual 172, 3) := by decide +kernel
theorem dX9_readStatement_135 : decode cX9_readStatement 135 = .ok (.ifCond .eq 7, 3) := by decide +kernel
theorem dX9_readStatement_138 : decode cX9_readStatement 138 = .ok (.iconst 1, 1) := by decide +kernel
theorem dX9_readStatement_139 : decode cX9_readStatement 139 = .ok (.goto 4, 3) := by decide +kernel
theorem dX9_readStatement_142 : decode cX9_readStatement 142 = .ok (.iconst 0, 1) := by decide +kernel
theorem dX9_readStatement_143 : decode cX9_readStatement 143 = .ok (.iastore, 1) := by decide +kernel
theorem dX9_readStatement_144 : decode cX9_readStatement 144 = .ok (.aload_n 0, 1) := by decide +kernel
theorem dX9_readStatement_145 : decode cX9_readStatement 145 = .ok (.ldc 184, 2) := by decide +kernel
theorem dX9_readStatement_147 : decode cX9_readStatement 147 = .ok (.invokevirtual 172, 3) := by decide +kernel
theorem dX9_readStatement_150 : decode cX9_readStatement 150 = .ok (.ifCond .ne 20, 3) := by decide +kernel
theorem dX9_readStatement_153 : decode cX9_readStatement 153 = .ok (.aload_n 0, 1) := by decide +kernel
theorem dX9_readStatement_154 : decode cX9_readStatement 154 = .ok (.ldc 186, 2) := by decide +kernel
theorem dX9_readStatement_156 : decode cX9_readStatement 156 = .ok (.invokevirtual 172, 3) := by decide +kernel
theorem dX9_readStatement_159 : decode cX9_readStatement 159 = .ok (.ifCond .ne 11, 3) := by decide +kernel
theorem dX9_readStatement_162 : decode cX9_readStatement 162 = .ok (.aload_n 0, 1) := by decide +kernel
theorem dX9_readStatement_163 : decode cX9_readStatement 163 = .ok (.iconst 1, 1) := by decide +kernel
theorem dX9_readStatement_164 : decode cX9_readStatement 164 = .ok (.invokevirtual 163, 3) := by decide +kernel
theorem dX9_readStatement_167 : decode cX9_readStatement 167 = .ok (.goto 110, 3) := by decide +kernel
theorem dX9_readStatement_170 : decode cX9_readStatement 170 = .ok (.aload_n 0, 1) := by decide +kernel
theorem dX9_readStatement_171 : decode cX9_readStatement 171 = .ok (.invokevirtual 167, 3) := by decide +kernel
theorem dX9_readStatement_174 : decode cX9_readStatement 174 = .ok (.goto 103, 3) := by decide +kernel
theorem dX9_readStatement_177 : decode cX9_readStatement 177 = .ok (.aload_n 0, 1) := by decide +kernel
theorem dX9_readStatement_178 : decode cX9_readStatement 178 = .ok (.getfield 49, 3) := by decide +kernel
theorem dX9_readStatement_181 : decode cX9_readStatement 181 = .ok (.iload_n 2, 1) := by decide +kernel
theorem dX9_readStatement_182 : decode cX9_readStatement 182 = .ok (.iconst 1, 1) := by decide +kernel
theorem dX9_readStatement_183 : decode cX9_readStatement 183 = .ok (.iadd, 1) := by decide +kernel
theorem dX9_readStatement_184 : decode cX9_readStatement 184 = .ok (.iload_n 1, 1) := by decide +kernel
theorem dX9_readStatement_185 : decode cX9_readStatement 185 = .ok (.ifCond .ne 13, 3) := by decide +kernel
theorem dX9_readStatement_188 : decode cX9_readStatement 188 = .ok (.aload_n 0, 1) := by decide +kernel
theorem dX9_readStatement_189 : decode cX9_readStatement 189 = .ok (.iconst 0, 1) := by decide +kernel
theorem dX9_readStatement_190 : decode cX9_readStatement 190 = .ok (.bipush 52, 2) := by decide +kernel
theorem dX9_readStatement_192 : decode cX9_readStatement 192 = .ok (.invokevirtual 188, 3) := by decide +kernel
theorem dX9_readStatement_195 : decode cX9_readStatement 195 = .ok (.goto 24, 3) := by decide +kernel
theorem dX9_readStatement_198 : decode cX9_readStatement 198 = .ok (.iload_n 1, 1) := by decide +kernel
theorem dX9_readStatement_199 : decode cX9_readStatement 199 = .ok (.iconst 1, 1) := by decide +kernel
theorem dX9_readStatement_200 : decode cX9_readStatement 200 = .ok (.if_icmp .ne 12, 3) := by decide +kernel
theorem dX9_readStatement_203 : decode cX9_readStatement 203 = .ok (.aload_n 0, 1) := by decide +kernel
theorem dX9_readStatement_204 : decode cX9_readStatement 204 = .ok (.iconst 1, 1) := by decide +kernel
theorem dX9_readStatement_205 : decode cX9_readStatement 205 = .ok (.iconst 4, 1) := by decide +kernel
theorem dX9_readStatement_206 : decode cX9_readStatement 206 = .ok (.invokevirtual 188, 3) := by decide +kernel
theorem dX9_readStatement_209 : decode cX9_readStatement 209 = .ok (.goto 10, 3) := by decide +kernel
theorem dX9_readStatement_212 : decode cX9_readStatement 212 = .ok (.aload_n 0, 1) := by decide +kernel
theorem dX9_readStatement_213 : decode cX9_readStatement 213 = .ok (.iconst 0, 1) := by decide +kernel
theorem dX9_readStatement_214 : decode cX9_readStatement 214 = .ok (.bipush 52, 2) := by decide +kernel
theorem dX9_readStatement_216 : decode cX9_readStatement 216 = .ok (.invokevirtual 188, 3) := by decide +kernel
theorem dX9_readStatement_219 : decode cX9_readStatement 219 = .ok (.iastore, 1) := by decide +kernel
theorem dX9_readStatement_220 : decode cX9_readStatement 220 = .ok (.aload_n 0, 1) := by decide +kernel
theorem dX9_readStatement_221 : decode cX9_readStatement 221 = .ok (.getfield 49, 3) := by decide +kernel
theorem dX9_readStatement_224 : decode cX9_readStatement 224 = .ok (.iload_n 2, 1) := by decide +kernel
theorem dX9_readStatement_225 : decode cX9_readStatement 225 = .ok (.iconst 2, 1) := by decide +kernel
theorem dX9_readStatement_226 : decode cX9_readStatement 226 = .ok (.iadd, 1) := by decide +kernel
theorem dX9_readStatement_227 : decode cX9_readStatement 227 = .ok (.iload_n 1, 1) := by decide +kernel
theorem dX9_readStatement_228 : decode cX9_readStatement 228 = .ok (.ifCond .ne 20, 3) := by decide +kernel
theorem dX9_readStatement_231 : decode cX9_readStatement 231 = .ok (.aload_n 0, 1) := by decide +kernel
theorem dX9_readStatement_232 : decode cX9_readStatement 232 = .ok (.aload_n 0, 1) := by decide +kernel
theorem dX9_readStatement_233 : decode cX9_readStatement 233 = .ok (.getfield 49, 3) := by decide +kernel
theorem dX9_readStatement_236 : decode cX9_readStatement 236 = .ok (.iload_n 2, 1) := by decide +kernel
theorem dX9_readStatement_237 : decode cX9_readStatement 237 = .ok (.iconst 1, 1) := by decide +kernel
theorem dX9_readStatement_238 : decode cX9_readStatement 238 = .ok (.iadd, 1) := by decide +kernel
theorem dX9_readStatement_239 : decode cX9_readStatement 239 = .ok (.iaload, 1) := by decide +kernel
theorem dX9_readStatement_240 : decode cX9_readStatement 240 = .ok (.bipush 52, 2) := by decide +kernel
theorem dX9_readStatement_242 : decode cX9_readStatement 242 = .ok (.invokevirtual 188, 3) := by decide +kernel
theorem dX9_readStatement_245 : decode cX9_readStatement 245 = .ok (.goto 11, 3) := by decide +kernel
theorem dX9_readStatement_248 : decode cX9_readStatement 248 = .ok (.aload_n 0, 1) := by decide +kernel
theorem dX9_readStatement_249 : decode cX9_readStatement 249 = .ok (.iconst 0, 1) := by decide +kernel
theorem dX9_readStatement_250 : decode cX9_readStatement 250 = .ok (.sipush 9999, 3) := by decide +kernel
theorem dX9_readStatement_253 : decode cX9_readStatement 253 = .ok (.invokevirtual 188, 3) := by decide +kernel
theorem dX9_readStatement_256 : decode cX9_readStatement 256 = .ok (.iastore, 1) := by decide +kernel
theorem dX9_readStatement_257 : decode cX9_readStatement 257 = .ok (.iload_n 1, 1) := by decide +kernel
theorem dX9_readStatement_258 : decode cX9_readStatement 258 = .ok (.ifCond .ne 19, 3) := by decide +kernel
theorem dX9_readStatement_261 : decode cX9_readStatement 261 = .ok (.aload_n 0, 1) := by decide +kernel
theorem dX9_readStatement_262 : decode cX9_readStatement 262 = .ok (.getfield 49, 3) := by decide +kernel
theorem dX9_readStatement_265 : decode cX9_readStatement 265 = .ok (.iload_n 2, 1) := by decide +kernel
theorem dX9_readStatement_266 : decode cX9_readStatement 266 = .ok (.iconst 3, 1) := by decide +kernel
theorem dX9_readStatement_267 : decode cX9_readStatement 267 = .ok (.iadd, 1) := by decide +kernel
theorem dX9_readStatement_268 : decode cX9_readStatement 268 = .ok (.aload_n 0, 1) := by decide +kernel
theorem dX9_readStatement_269 : decode cX9_readStatement 269 = .ok (.iconst 0, 1) := by decide +kernel
theorem dX9_readStatement_270 : decode cX9_readStatement 270 = .ok (.sipush 9999, 3) := by decide +kernel
theorem dX9_readStatement_273 : decode cX9_readStatement 273 = .ok (.invokevirtual 188, 3) := by decide +kernel
theorem dX9_readStatement_276 : decode cX9_readStatement 276 = .ok (.iastore, 1) := by decide +kernel
theorem dX9_readStatement_277 : decode cX9_readStatement 277 = .ok (.aload_n 0, 1) := by decide +kernel
theorem dX9_readStatement_278 : decode cX9_readStatement 278 = .ok (.getfield 157, 3) := by decide +kernel
theorem dX9_readStatement_281 : decode cX9_readStatement 281 = .ok (.ifCond .ne 16, 3) := by decide +kernel
theorem dX9_readStatement_284 : decode cX9_readStatement 284 = .ok (.aload_n 0, 1) := by decide +kernel
theorem dX9_readStatement_285 : decode cX9_readStatement 285 = .ok (.getfield 131, 3) := by decide +kernel
theorem dX9_readStatement_288 : decode cX9_readStatement 288 = .ok (.iconst 4, 1) := by decide +kernel
theorem dX9_readStatement_289 : decode cX9_readStatement 289 = .ok (.if_icmp .eq 8, 3) := by decide +kernel
theorem dX9_readStatement_292 : decode cX9_readStatement 292 = .ok (.aload_n 0, 1) := by decide +kernel
theorem dX9_readStatement_293 : decode cX9_readStatement 293 = .ok (.iconst 1, 1) := by decide +kernel
theorem dX9_readStatement_294 : decode cX9_readStatement 294 = .ok (.invokevirtual 163, 3) := by decide +kernel
theorem dX9_readStatement_297 : decode cX9_readStatement 297 = .ok (.aload_n 0, 1) := by decide +kernel
theorem dX9_readStatement_298 : decode cX9_readStatement 298 = .ok (.getfield 157, 3) := by decide +kernel
theorem dX9_readStatement_301 : decode cX9_readStatement 301 = .ok (.ifCond .ne 7, 3) := by decide +kernel
theorem dX9_readStatement_304 : decode cX9_readStatement 304 = .ok (.aload_n 0, 1) := by decide +kernel
theorem dX9_readStatement_305 : decode cX9_readStatement 305 = .ok (.invokevirtual 167, 3) := by decide +kernel
theorem dX9_readStatement_308 : decode cX9_readStatement 308 = .ok (.return_, 1) := by decide +kernel
theorem dX9_rules_0 : decode cX9_rules 0 = .ok (.aload_n 0, 1) := by decide +kernel
theorem dX9_rules_1 : decode cX9_rules 1 = .ok (.iconst 0, 1) := by decide +kernel
theorem dX9_rules_2 : decode cX9_rules 2 = .ok (.putfield 1, 3) := by decide +kernel
theorem dX9_rules_5 : decode cX9_rules 5 = .ok (.aload_n 0, 1) := by decide +kernel
theorem dX9_rules_6 : decode cX9_rules 6 = .ok (.iconst 0, 1) := by decide +kernel
theorem dX9_rules_7 : decode cX9_rules 7 = .ok (.putfield 157, 3) := by decide +kernel
theorem dX9_rules_10 : decode cX9_rules 10 = .ok (.aload_n 0, 1) := by decide +kernel
theorem dX9_rules_11 : decode cX9_rules 11 = .ok (.iconst 0, 1) := by decide +kernel
theorem dX9_rules_12 : decode cX9_rules 12 = .ok (.putfield 125, 3) := by decide +kernel
theorem dX9_rules_15 : decode cX9_rules 15 = .ok (.aload_n 0, 1) := by decide +kernel
theorem dX9_rules_16 : decode cX9_rules 16 = .ok (.iconst 0, 1) := by decide +kernel
theorem dX9_rules_17 : decode cX9_rules 17 = .ok (.putfield 181, 3) := by decide +kernel
theorem dX9_rules_20 : decode cX9_rules 20 = .ok (.aload_n 0, 1) := by decide +kernel
theorem dX9_rules_21 : decode cX9_rules 21 = .ok (.invokevirtual 167, 3) := by decide +kernel
theorem dX9_rules_24 : decode cX9_rules 24 = .ok (.aload_n 0, 1) := by decide +kernel
theorem dX9_rules_25 : decode cX9_rules 25 = .ok (.getfield 157, 3) := by decide +kernel
theorem dX9_rules_28 : decode cX9_rules 28 = .ok (.ifCond .ne 17, 3) := by decide +kernel
theorem dX9_rules_31 : decode cX9_rules 31 = .ok (.aload_n 0, 1) := by decide +kernel
theorem dX9_rules_32 : decode cX9_rules 32 = .ok (.getfield 131, 3) := by decide +kernel
theorem dX9_rules_35 : decode cX9_rules 35 = .ok (.ifCond .eq 10, 3) := by decide +kernel
theorem dX9_rules_38 : decode cX9_rules 38 = .ok (.aload_n 0, 1) := by decide +kernel
theorem dX9_rules_39 : decode cX9_rules 39 = .ok (.invokevirtual 191, 3) := by decide +kernel
theorem dX9_rules_42 : decode cX9_rules 42 = .ok (.goto (-18), 3) := by decide +kernel
theorem dX9_rules_45 : decode cX9_rules 45 = .ok (.aload_n 0, 1) := by decide +kernel
theorem dX9_rules_46 : decode cX9_rules 46 = .ok (.iconst 0, 1) := by decide +kernel
theorem dX9_rules_47 : decode cX9_rules 47 = .ok (.putfield 122, 3) := by decide +kernel
theorem dX9_rules_50 : decode cX9_rules 50 = .ok (.aload_n 0, 1) := by decide +kernel
theorem dX9_rules_51 : decode cX9_rules 51 = .ok (.aload_n 0, 1) := by decide +kernel
theorem dX9_rules_52 : decode cX9_rules 52 = .ok (.getfield 157, 3) := by decide +kernel
theorem dX9_rules_55 : decode cX9_rules 55 = .ok (.ifCond .ne 7, 3) := by decide +kernel
theorem dX9_rules_58 : decode cX9_rules 58 = .ok (.iconst (-1), 1) := by decide +kernel
theorem dX9_rules_59 : decode cX9_rules 59 = .ok (.goto 7, 3) := by decide +kernel
theorem dX9_rules_62 : decode cX9_rules 62 = .ok (.aload_n 0, 1) := by decide +kernel
theorem dX9_rules_63 : decode cX9_rules 63 = .ok (.getfield 160, 3) := by decide +kernel
theorem dX9_rules_66 : decode cX9_rules 66 = .ok (.putfield 43, 3) := by decide +kernel
theorem dX9_rules_69 : decode cX9_rules 69 = .ok (.aload_n 0, 1) := by decide +kernel
theorem dX9_rules_70 : decode cX9_rules 70 = .ok (.getfield 157, 3) := by decide +kernel
theorem dX9_rules_73 : decode cX9_rules 73 = .ok (.ifCond .eq 10, 3) := by decide +kernel
theorem dX9_rules_76 : decode cX9_rules 76 = .ok (.iconst (-1), 1) := by decide +kernel
theorem dX9_rules_77 : decode cX9_rules 77 = .ok (.aload_n 0, 1) := by decide +kernel
theorem dX9_rules_78 : decode cX9_rules 78 = .ok (.getfield 157, 3) := by decide +kernel
theorem dX9_rules_81 : decode cX9_rules 81 = .ok (.isub, 1) := by decide +kernel
theorem dX9_rules_82 : decode cX9_rules 82 = .ok (.ireturn, 1) := by decide +kernel
theorem dX9_rules_83 : decode cX9_rules 83 = .ok (.aload_n 0, 1) := by decide +kernel
theorem dX9_rules_84 : decode cX9_rules 84 = .ok (.aload_n 0, 1) := by decide +kernel
theorem dX9_rules_85 : decode cX9_rules 85 = .ok (.getfield 181, 3) := by decide +kernel
theorem dX9_rules_88 : decode cX9_rules 88 = .ok (.putfield 194, 3) := by decide +kernel
theorem dX9_rules_91 : decode cX9_rules 91 = .ok (.iconst 0, 1) := by decide +kernel
theorem dX9_rules_92 : decode cX9_rules 92 = .ok (.istore_n 1, 1) := by decide +kernel
theorem dX9_rules_93 : decode cX9_rules 93 = .ok (.iload_n 1, 1) := by decide +kernel
theorem dX9_rules_94 : decode cX9_rules 94 = .ok (.bipush 120, 2) := by decide +kernel
theorem dX9_rules_96 : decode cX9_rules 96 = .ok (.if_icmp .ge 21, 3) := by decide +kernel
theorem dX9_rules_99 : decode cX9_rules 99 = .ok (.aload_n 0, 1) := by decide +kernel
theorem dX9_rules_100 : decode cX9_rules 100 = .ok (.getfield 46, 3) := by decide +kernel
theorem dX9_rules_103 : decode cX9_rules 103 = .ok (.iload_n 1, 1) := by decide +kernel
theorem dX9_rules_104 : decode cX9_rules 104 = .ok (.aload_n 0, 1) := by decide +kernel
theorem dX9_rules_105 : decode cX9_rules 105 = .ok (.getfield 49, 3) := by decide +kernel
theorem dX9_rules_108 : decode cX9_rules 108 = .ok (.iload_n 1, 1) := by decide +kernel
theorem dX9_rules_109 : decode cX9_rules 109 = .ok (.iaload, 1) := by decide +kernel
theorem dX9_rules_110 : decode cX9_rules 110 = .ok (.iastore, 1) := by decide +kernel
theorem dX9_rules_111 : decode cX9_rules 111 = .ok (.iinc 1 1, 3) := by decide +kernel
theorem dX9_rules_114 : decode cX9_rules 114 = .ok (.goto (-21), 3) := by decide +kernel
theorem dX9_rules_117 : decode cX9_rules 117 = .ok (.aload_n 0, 1) := by decide +kernel
theorem dX9_rules_118 : decode cX9_rules 118 = .ok (.getfield 194, 3) := by decide +kernel
theorem dX9_rules_121 : decode cX9_rules 121 = .ok (.ireturn, 1) := by decide +kernel
theorem dX9_place_0 : decode cX9_place 0 = .ok (.aload_n 0, 1) := by decide +kernel
theorem dX9_place_1 : decode cX9_place 1 = .ok (.iconst 0, 1) := by decide +kernel
theorem dX9_place_2 : decode cX9_place 2 = .ok (.putfield 1, 3) := by decide +kernel
theorem dX9_place_5 : decode cX9_place 5 = .ok (.aload_n 0, 1) := by decide +kernel
theorem dX9_place_6 : decode cX9_place 6 = .ok (.getfield 43, 3) := by decide +kernel
theorem dX9_place_9 : decode cX9_place 9 = .ok (.ireturn, 1) := by decide +kernel
theorem dX9_isBound_0 : decode cX9_isBound 0 = .ok (.iconst 0, 1) := by decide +kernel
theorem dX9_isBound_1 : decode cX9_isBound 1 = .ok (.istore_n 1, 1) := by decide +kernel
theorem dX9_isBound_2 : decode cX9_isBound 2 = .ok (.iconst 0, 1) := by decide +kernel
theorem dX9_isBound_3 : decode cX9_isBound 3 = .ok (.istore_n 2, 1) := by decide +kernel
theorem dX9_isBound_4 : decode cX9_isBound 4 = .ok (.iload_n 2, 1) := by decide +kernel
theorem dX9_isBound_5 : decode cX9_isBound 5 = .ok (.aload_n 0, 1) := by decide +kernel
theorem dX9_isBound_6 : decode cX9_isBound 6 = .ok (.getfield 194, 3) := by decide +kernel
theorem dX9_isBound_9 : decode cX9_isBound 9 = .ok (.if_icmp .ge 41, 3) := by decide +kernel
theorem dX9_isBound_12 : decode cX9_isBound 12 = .ok (.aload_n 0, 1) := by decide +kernel
theorem dX9_isBound_13 : decode cX9_isBound 13 = .ok (.getfield 46, 3) := by decide +kernel
theorem dX9_isBound_16 : decode cX9_isBound 16 = .ok (.iconst 4, 1) := by decide +kernel
theorem dX9_isBound_17 : decode cX9_isBound 17 = .ok (.iload_n 2, 1) := by decide +kernel
theorem dX9_isBound_18 : decode cX9_isBound 18 = .ok (.imul, 1) := by decide +kernel
theorem dX9_isBound_19 : decode cX9_isBound 19 = .ok (.iaload, 1) := by decide +kernel
theorem dX9_isBound_20 : decode cX9_isBound 20 = .ok (.iconst 3, 1) := by decide +kernel
theorem dX9_isBound_21 : decode cX9_isBound 21 = .ok (.if_icmp .ne 23, 3) := by decide +kernel
theorem dX9_isBound_24 : decode cX9_isBound 24 = .ok (.aload_n 0, 1) := by decide +kernel
theorem dX9_isBound_25 : decode cX9_isBound 25 = .ok (.getfield 46, 3) := by decide +kernel
theorem dX9_isBound_28 : decode cX9_isBound 28 = .ok (.iconst 4, 1) := by decide +kernel
theorem dX9_isBound_29 : decode cX9_isBound 29 = .ok (.iload_n 2, 1) := by decide +kernel
theorem dX9_isBound_30 : decode cX9_isBound 30 = .ok (.imul, 1) := by decide +kernel
theorem dX9_isBound_31 : decode cX9_isBound 31 = .ok (.iconst 1, 1) := by decide +kernel
theorem dX9_isBound_32 : decode cX9_isBound 32 = .ok (.iadd, 1) := by decide +kernel
theorem dX9_isBound_33 : decode cX9_isBound 33 = .ok (.iaload, 1) := by decide +kernel
theorem dX9_isBound_34 : decode cX9_isBound 34 = .ok (.iconst 1, 1) := by decide +kernel
theorem dX9_isBound_35 : decode cX9_isBound 35 = .ok (.if_icmp .ne 7, 3) := by decide +kernel
theorem dX9_isBound_38 : decode cX9_isBound 38 = .ok (.iconst 1, 1) := by decide +kernel
theorem dX9_isBound_39 : decode cX9_isBound 39 = .ok (.goto 4, 3) := by decide +kernel
theorem dX9_isBound_42 : decode cX9_isBound 42 = .ok (.iconst 0, 1) := by decide +kernel
theorem dX9_isBound_43 : decode cX9_isBound 43 = .ok (.istore_n 1, 1) := by decide +kernel
theorem dX9_isBound_44 : decode cX9_isBound 44 = .ok (.iinc 2 1, 3) := by decide +kernel
theorem dX9_isBound_47 : decode cX9_isBound 47 = .ok (.goto (-43), 3) := by decide +kernel
theorem dX9_isBound_50 : decode cX9_isBound 50 = .ok (.iload_n 1, 1) := by decide +kernel
theorem dX9_isBound_51 : decode cX9_isBound 51 = .ok (.ireturn, 1) := by decide +kernel
theorem dX9_worthOf_0 : decode cX9_worthOf 0 = .ok (.iconst 0, 1) := by decide +kernel
theorem dX9_worthOf_1 : decode cX9_worthOf 1 = .ok (.istore_n 3, 1) := by decide +kernel
theorem dX9_worthOf_2 : decode cX9_worthOf 2 = .ok (.iconst 0, 1) := by decide +kernel
theorem dX9_worthOf_3 : decode cX9_worthOf 3 = .ok (.istore 4, 2) := by decide +kernel
theorem dX9_worthOf_5 : decode cX9_worthOf 5 = .ok (.iconst 0, 1) := by decide +kernel
theorem dX9_worthOf_6 : decode cX9_worthOf 6 = .ok (.istore 5, 2) := by decide +kernel
theorem dX9_worthOf_8 : decode cX9_worthOf 8 = .ok (.iconst (-1), 1) := by decide +kernel
theorem dX9_worthOf_9 : decode cX9_worthOf 9 = .ok (.istore 6, 2) := by decide +kernel
theorem dX9_worthOf_11 : decode cX9_worthOf 11 = .ok (.iconst 0, 1) := by decide +kernel
theorem dX9_worthOf_12 : decode cX9_worthOf 12 = .ok (.istore 7, 2) := by decide +kernel
theorem dX9_worthOf_14 : decode cX9_worthOf 14 = .ok (.iload 7, 2) := by decide +kernel
theorem dX9_worthOf_16 : decode cX9_worthOf 16 = .ok (.aload_n 0, 1) := by decide +kernel
theorem dX9_worthOf_17 : decode cX9_worthOf 17 = .ok (.getfield 194, 3) := by decide +kernel
theorem dX9_worthOf_20 : decode cX9_worthOf 20 = .ok (.if_icmp .ge 143, 3) := by decide +kernel
theorem dX9_worthOf_23 : decode cX9_worthOf 23 = .ok (.aload_n 0, 1) := by decide +kernel
theorem dX9_worthOf_24 : decode cX9_worthOf 24 = .ok (.getfield 46, 3) := by decide +kernel
theorem dX9_worthOf_27 : decode cX9_worthOf 27 = .ok (.iconst 4, 1) := by decide +kernel
theorem dX9_worthOf_28 : decode cX9_worthOf 28 = .ok (.iload 7, 2) := by decide +kernel
theorem dX9_worthOf_30 : decode cX9_worthOf 30 = .ok (.imul, 1) := by decide +kernel
theorem dX9_worthOf_31 : decode cX9_worthOf 31 = .ok (.iconst 1, 1) := by decide +kernel
theorem dX9_worthOf_32 : decode cX9_worthOf 32 = .ok (.iadd, 1) := by decide +kernel
theorem dX9_worthOf_33 : decode cX9_worthOf 33 = .ok (.iaload, 1) := by decide +kernel
theorem dX9_worthOf_34 : decode cX9_worthOf 34 = .ok (.istore 8, 2) := by decide +kernel
theorem dX9_worthOf_36 : decode cX9_worthOf 36 = .ok (.aload_n 0, 1) := by decide +kernel
theorem dX9_worthOf_37 : decode cX9_worthOf 37 = .ok (.getfield 46, 3) := by decide +kernel
theorem dX9_worthOf_40 : decode cX9_worthOf 40 = .ok (.iconst 4, 1) := by decide +kernel
theorem dX9_worthOf_41 : decode cX9_worthOf 41 = .ok (.iload 7, 2) := by decide +kernel
theorem dX9_worthOf_43 : decode cX9_worthOf 43 = .ok (.imul, 1) := by decide +kernel
theorem dX9_worthOf_44 : decode cX9_worthOf 44 = .ok (.iconst 2, 1) := by decide +kernel
theorem dX9_worthOf_45 : decode cX9_worthOf 45 = .ok (.iadd, 1) := by decide +kernel
theorem dX9_worthOf_46 : decode cX9_worthOf 46 = .ok (.iaload, 1) := by decide +kernel
theorem dX9_worthOf_47 : decode cX9_worthOf 47 = .ok (.istore 9, 2) := by decide +kernel
theorem dX9_worthOf_49 : decode cX9_worthOf 49 = .ok (.aload_n 0, 1) := by decide +kernel
theorem dX9_worthOf_50 : decode cX9_worthOf 50 = .ok (.getfield 46, 3) := by decide +kernel
theorem dX9_worthOf_53 : decode cX9_worthOf 53 = .ok (.iconst 4, 1) := by decide +kernel
theorem dX9_worthOf_54 : decode cX9_worthOf 54 = .ok (.iload 7, 2) := by decide +kernel
theorem dX9_worthOf_56 : decode cX9_worthOf 56 = .ok (.imul, 1) := by decide +kernel
theorem dX9_worthOf_57 : decode cX9_worthOf 57 = .ok (.iaload, 1) := by decide +kernel
theorem dX9_worthOf_58 : decode cX9_worthOf 58 = .ok (.tableswitch 99 0 2 #[26, 52, 70], 26) := by decide +kernel
theorem dX9_worthOf_84 : decode cX9_worthOf 84 = .ok (.iload_n 2, 1) := by decide +kernel
theorem dX9_worthOf_85 : decode cX9_worthOf 85 = .ok (.iload 8, 2) := by decide +kernel
theorem dX9_worthOf_87 : decode cX9_worthOf 87 = .ok (.iload 9, 2) := by decide +kernel
theorem dX9_worthOf_89 : decode cX9_worthOf 89 = .ok (.invokestatic 100, 3) := by decide +kernel
theorem dX9_worthOf_92 : decode cX9_worthOf 92 = .ok (.ifCond .eq 65, 3) := by decide +kernel
theorem dX9_worthOf_95 : decode cX9_worthOf 95 = .ok (.aload_n 0, 1) := by decide +kernel
theorem dX9_worthOf_96 : decode cX9_worthOf 96 = .ok (.getfield 46, 3) := by decide +kernel
theorem dX9_worthOf_99 : decode cX9_worthOf 99 = .ok (.iconst 4, 1) := by decide +kernel
theorem dX9_worthOf_100 : decode cX9_worthOf 100 = .ok (.iload 7, 2) := by decide +kernel
theorem dX9_worthOf_102 : decode cX9_worthOf 102 = .ok (.imul, 1) := by decide +kernel
theorem dX9_worthOf_103 : decode cX9_worthOf 103 = .ok (.iconst 3, 1) := by decide +kernel
theorem dX9_worthOf_104 : decode cX9_worthOf 104 = .ok (.iadd, 1) := by decide +kernel
theorem dX9_worthOf_105 : decode cX9_worthOf 105 = .ok (.iaload, 1) := by decide +kernel
theorem dX9_worthOf_106 : decode cX9_worthOf 106 = .ok (.istore_n 3, 1) := by decide +kernel
theorem dX9_worthOf_107 : decode cX9_worthOf 107 = .ok (.goto 50, 3) := by decide +kernel
theorem dX9_worthOf_110 : decode cX9_worthOf 110 = .ok (.iload 8, 2) := by decide +kernel
theorem dX9_worthOf_112 : decode cX9_worthOf 112 = .ok (.aload_n 0, 1) := by decide +kernel
theorem dX9_worthOf_113 : decode cX9_worthOf 113 = .ok (.getfield 17, 3) := by decide +kernel
theorem dX9_worthOf_116 : decode cX9_worthOf 116 = .ok (.iload_n 1, 1) := by decide +kernel
theorem dX9_worthOf_117 : decode cX9_worthOf 117 = .ok (.iaload, 1) := by decide +kernel
theorem dX9_worthOf_118 : decode cX9_worthOf 118 = .ok (.if_icmp .ne 39, 3) := by decide +kernel
theorem dX9_worthOf_121 : decode cX9_worthOf 121 = .ok (.iload 9, 2) := by decide +kernel
theorem dX9_worthOf_123 : decode cX9_worthOf 123 = .ok (.istore 4, 2) := by decide +kernel
theorem dX9_worthOf_125 : decode cX9_worthOf 125 = .ok (.goto 32, 3) := by decide +kernel
theorem dX9_worthOf_128 : decode cX9_worthOf 128 = .ok (.iload 8, 2) := by decide +kernel
theorem dX9_worthOf_130 : decode cX9_worthOf 130 = .ok (.iload_n 2, 1) := by decide +kernel
theorem dX9_worthOf_131 : decode cX9_worthOf 131 = .ok (.aload_n 0, 1) := by decide +kernel
theorem dX9_worthOf_132 : decode cX9_worthOf 132 = .ok (.getfield 197, 3) := by decide +kernel
theorem dX9_worthOf_135 : decode cX9_worthOf 135 = .ok (.isub, 1) := by decide +kernel
theorem dX9_worthOf_136 : decode cX9_worthOf 136 = .ok (.if_icmp .gt 21, 3) := by decide +kernel
theorem dX9_worthOf_139 : decode cX9_worthOf 139 = .ok (.iload 8, 2) := by decide +kernel
theorem dX9_worthOf_141 : decode cX9_worthOf 141 = .ok (.iload 6, 2) := by decide +kernel
theorem dX9_worthOf_143 : decode cX9_worthOf 143 = .ok (.if_icmp .lt 14, 3) := by decide +kernel
theorem dX9_worthOf_146 : decode cX9_worthOf 146 = .ok (.iload 8, 2) := by decide +kernel
theorem dX9_worthOf_148 : decode cX9_worthOf 148 = .ok (.istore 6, 2) := by decide +kernel
theorem dX9_worthOf_150 : decode cX9_worthOf 150 = .ok (.iload 9, 2) := by decide +kernel
theorem dX9_worthOf_152 : decode cX9_worthOf 152 = .ok (.istore 5, 2) := by decide +kernel
theorem dX9_worthOf_154 : decode cX9_worthOf 154 = .ok (.goto 3, 3) := by decide +kernel
theorem dX9_worthOf_157 : decode cX9_worthOf 157 = .ok (.iinc 7 1, 3) := by decide +kernel
theorem dX9_worthOf_160 : decode cX9_worthOf 160 = .ok (.goto (-146), 3) := by decide +kernel
theorem dX9_worthOf_163 : decode cX9_worthOf 163 = .ok (.iload_n 3, 1) := by decide +kernel
theorem dX9_worthOf_164 : decode cX9_worthOf 164 = .ok (.iload 4, 2) := by decide +kernel
theorem dX9_worthOf_166 : decode cX9_worthOf 166 = .ok (.iadd, 1) := by decide +kernel
theorem dX9_worthOf_167 : decode cX9_worthOf 167 = .ok (.iload 5, 2) := by decide +kernel
theorem dX9_worthOf_169 : decode cX9_worthOf 169 = .ok (.iadd, 1) := by decide +kernel
theorem dX9_worthOf_170 : decode cX9_worthOf 170 = .ok (.ireturn, 1) := by decide +kernel
theorem dX9_worth_0 : decode cX9_worth 0 = .ok (.aload_n 0, 1) := by decide +kernel
theorem dX9_worth_1 : decode cX9_worth 1 = .ok (.iconst 0, 1) := by decide +kernel
theorem dX9_worth_2 : decode cX9_worth 2 = .ok (.putfield 1, 3) := by decide +kernel
theorem dX9_worth_5 : decode cX9_worth 5 = .ok (.aload_n 0, 1) := by decide +kernel
theorem dX9_worth_6 : decode cX9_worth 6 = .ok (.iload_n 1, 1) := by decide +kernel
theorem dX9_worth_7 : decode cX9_worth 7 = .ok (.iload_n 2, 1) := by decide +kernel
theorem dX9_worth_8 : decode cX9_worth 8 = .ok (.invokevirtual 110, 3) := by decide +kernel
theorem dX9_worth_11 : decode cX9_worth 11 = .ok (.ifCond .eq 12, 3) := by decide +kernel
theorem dX9_worth_14 : decode cX9_worth 14 = .ok (.aload_n 0, 1) := by decide +kernel
theorem dX9_worth_15 : decode cX9_worth 15 = .ok (.iload_n 1, 1) := by decide +kernel
theorem dX9_worth_16 : decode cX9_worth 16 = .ok (.iload_n 2, 1) := by decide +kernel
theorem dX9_worth_17 : decode cX9_worth 17 = .ok (.invokevirtual 200, 3) := by decide +kernel
theorem dX9_worth_20 : decode cX9_worth 20 = .ok (.goto 4, 3) := by decide +kernel
theorem dX9_worth_23 : decode cX9_worth 23 = .ok (.iconst (-1), 1) := by decide +kernel
theorem dX9_worth_24 : decode cX9_worth 24 = .ok (.ireturn, 1) := by decide +kernel
theorem dX9_givenAt_0 : decode cX9_givenAt 0 = .ok (.iconst (-1), 1) := by decide +kernel
theorem dX9_givenAt_1 : decode cX9_givenAt 1 = .ok (.istore_n 3, 1) := by decide +kernel
theorem dX9_givenAt_2 : decode cX9_givenAt 2 = .ok (.iconst 0, 1) := by decide +kernel
theorem dX9_givenAt_3 : decode cX9_givenAt 3 = .ok (.istore 4, 2) := by decide +kernel
theorem dX9_givenAt_5 : decode cX9_givenAt 5 = .ok (.iload 4, 2) := by decide +kernel
theorem dX9_givenAt_7 : decode cX9_givenAt 7 = .ok (.aload_n 0, 1) := by decide +kernel
theorem dX9_givenAt_8 : decode cX9_givenAt 8 = .ok (.getfield 203, 3) := by decide +kernel
theorem dX9_givenAt_11 : decode cX9_givenAt 11 = .ok (.if_icmp .ge 48, 3) := by decide +kernel
theorem dX9_givenAt_14 : decode cX9_givenAt 14 = .ok (.aload_n 0, 1) := by decide +kernel
theorem dX9_givenAt_15 : decode cX9_givenAt 15 = .ok (.getfield 61, 3) := by decide +kernel
theorem dX9_givenAt_18 : decode cX9_givenAt 18 = .ok (.iload 4, 2) := by decide +kernel
theorem dX9_givenAt_20 : decode cX9_givenAt 20 = .ok (.iaload, 1) := by decide +kernel
theorem dX9_givenAt_21 : decode cX9_givenAt 21 = .ok (.aload_n 0, 1) := by decide +kernel
theorem dX9_givenAt_22 : decode cX9_givenAt 22 = .ok (.getfield 206, 3) := by decide +kernel
theorem dX9_givenAt_25 : decode cX9_givenAt 25 = .ok (.if_icmp .ne 28, 3) := by decide +kernel
theorem dX9_givenAt_28 : decode cX9_givenAt 28 = .ok (.aload_n 0, 1) := by decide +kernel
theorem dX9_givenAt_29 : decode cX9_givenAt 29 = .ok (.getfield 55, 3) := by decide +kernel
theorem dX9_givenAt_32 : decode cX9_givenAt 32 = .ok (.iload 4, 2) := by decide +kernel
theorem dX9_givenAt_34 : decode cX9_givenAt 34 = .ok (.iaload, 1) := by decide +kernel
theorem dX9_givenAt_35 : decode cX9_givenAt 35 = .ok (.iload_n 1, 1) := by decide +kernel
theorem dX9_givenAt_36 : decode cX9_givenAt 36 = .ok (.if_icmp .ne 17, 3) := by decide +kernel
theorem dX9_givenAt_39 : decode cX9_givenAt 39 = .ok (.aload_n 0, 1) := by decide +kernel
theorem dX9_givenAt_40 : decode cX9_givenAt 40 = .ok (.getfield 58, 3) := by decide +kernel
theorem dX9_givenAt_43 : decode cX9_givenAt 43 = .ok (.iload 4, 2) := by decide +kernel
theorem dX9_givenAt_45 : decode cX9_givenAt 45 = .ok (.iaload, 1) := by decide +kernel
theorem dX9_givenAt_46 : decode cX9_givenAt 46 = .ok (.iload_n 2, 1) := by decide +kernel
theorem dX9_givenAt_47 : decode cX9_givenAt 47 = .ok (.if_icmp .ne 6, 3) := by decide +kernel
theorem dX9_givenAt_50 : decode cX9_givenAt 50 = .ok (.iload 4, 2) := by decide +kernel
theorem dX9_givenAt_52 : decode cX9_givenAt 52 = .ok (.istore_n 3, 1) := by decide +kernel
theorem dX9_givenAt_53 : decode cX9_givenAt 53 = .ok (.iinc 4 1, 3) := by decide +kernel
theorem dX9_givenAt_56 : decode cX9_givenAt 56 = .ok (.goto (-51), 3) := by decide +kernel
theorem dX9_givenAt_59 : decode cX9_givenAt 59 = .ok (.iload_n 3, 1) := by decide +kernel
theorem dX9_givenAt_60 : decode cX9_givenAt 60 = .ok (.ireturn, 1) := by decide +kernel
theorem dX9_many_0 : decode cX9_many 0 = .ok (.iconst 0, 1) := by decide +kernel
theorem dX9_many_1 : decode cX9_many 1 = .ok (.istore_n 2, 1) := by decide +kernel
theorem dX9_many_2 : decode cX9_many 2 = .ok (.iconst 0, 1) := by decide +kernel
theorem dX9_many_3 : decode cX9_many 3 = .ok (.istore_n 3, 1) := by decide +kernel
theorem dX9_many_4 : decode cX9_many 4 = .ok (.iload_n 3, 1) := by decide +kernel
theorem dX9_many_5 : decode cX9_many 5 = .ok (.aload_n 0, 1) := by decide +kernel
theorem dX9_many_6 : decode cX9_many 6 = .ok (.getfield 203, 3) := by decide +kernel
theorem dX9_many_9 : decode cX9_many 9 = .ok (.if_icmp .ge 22, 3) := by decide +kernel
theorem dX9_many_12 : decode cX9_many 12 = .ok (.aload_n 0, 1) := by decide +kernel
theorem dX9_many_13 : decode cX9_many 13 = .ok (.getfield 67, 3) := by decide +kernel
theorem dX9_many_16 : decode cX9_many 16 = .ok (.iload_n 3, 1) := by decide +kernel
theorem dX9_many_17 : decode cX9_many 17 = .ok (.iaload, 1) := by decide +kernel
theorem dX9_many_18 : decode cX9_many 18 = .ok (.iload_n 1, 1) := by decide +kernel
theorem dX9_many_19 : decode cX9_many 19 = .ok (.if_icmp .ne 6, 3) := by decide +kernel
theorem dX9_many_22 : decode cX9_many 22 = .ok (.iinc 2 1, 3) := by decide +kernel
theorem dX9_many_25 : decode cX9_many 25 = .ok (.iinc 3 1, 3) := by decide +kernel
theorem dX9_many_28 : decode cX9_many 28 = .ok (.goto (-24), 3) := by decide +kernel
theorem dX9_many_31 : decode cX9_many 31 = .ok (.iload_n 2, 1) := by decide +kernel
theorem dX9_many_32 : decode cX9_many 32 = .ok (.ireturn, 1) := by decide +kernel
theorem dX9_give_0 : decode cX9_give 0 = .ok (.aload_n 0, 1) := by decide +kernel
theorem dX9_give_1 : decode cX9_give 1 = .ok (.iconst 0, 1) := by decide +kernel
theorem dX9_give_2 : decode cX9_give 2 = .ok (.putfield 1, 3) := by decide +kernel
theorem dX9_give_5 : decode cX9_give 5 = .ok (.aload_n 0, 1) := by decide +kernel
theorem dX9_give_6 : decode cX9_give 6 = .ok (.iload_n 1, 1) := by decide +kernel
theorem dX9_give_7 : decode cX9_give 7 = .ok (.invokevirtual 114, 3) := by decide +kernel
theorem dX9_give_10 : decode cX9_give 10 = .ok (.ifCond .eq 12, 3) := by decide +kernel
theorem dX9_give_13 : decode cX9_give 13 = .ok (.aload_n 0, 1) := by decide +kernel
theorem dX9_give_14 : decode cX9_give 14 = .ok (.iload_n 2, 1) := by decide +kernel
theorem dX9_give_15 : decode cX9_give 15 = .ok (.iload_n 3, 1) := by decide +kernel
theorem dX9_give_16 : decode cX9_give 16 = .ok (.invokevirtual 110, 3) := by decide +kernel
theorem dX9_give_19 : decode cX9_give 19 = .ok (.ifCond .ne 5, 3) := by decide +kernel
theorem dX9_give_22 : decode cX9_give 22 = .ok (.iconst (-1), 1) := by decide +kernel
theorem dX9_give_23 : decode cX9_give 23 = .ok (.ireturn, 1) := by decide +kernel
theorem dX9_give_24 : decode cX9_give 24 = .ok (.aload_n 0, 1) := by decide +kernel
theorem dX9_give_25 : decode cX9_give 25 = .ok (.getfield 33, 3) := by decide +kernel
theorem dX9_give_28 : decode cX9_give 28 = .ok (.bipush 53, 2) := by decide +kernel
theorem dX9_give_30 : decode cX9_give 30 = .ok (.iload_n 2, 1) := by decide +kernel
theorem dX9_give_31 : decode cX9_give 31 = .ok (.imul, 1) := by decide +kernel
theorem dX9_give_32 : decode cX9_give 32 = .ok (.iload_n 3, 1) := by decide +kernel
theorem dX9_give_33 : decode cX9_give 33 = .ok (.iadd, 1) := by decide +kernel
theorem dX9_give_34 : decode cX9_give 34 = .ok (.iaload, 1) := by decide +kernel
theorem dX9_give_35 : decode cX9_give 35 = .ok (.iload_n 1, 1) := by decide +kernel
