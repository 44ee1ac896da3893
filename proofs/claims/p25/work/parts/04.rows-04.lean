theorem dX9_give_36 : decode cX9_give 36 = .ok (.if_icmp .eq 6, 3) := by decide +kernel
theorem dX9_give_39 : decode cX9_give 39 = .ok (.bipush (-2), 2) := by decide +kernel
theorem dX9_give_41 : decode cX9_give 41 = .ok (.ireturn, 1) := by decide +kernel
theorem dX9_give_42 : decode cX9_give 42 = .ok (.iload_n 3, 1) := by decide +kernel
theorem dX9_give_43 : decode cX9_give 43 = .ok (.aload_n 0, 1) := by decide +kernel
theorem dX9_give_44 : decode cX9_give 44 = .ok (.getfield 197, 3) := by decide +kernel
theorem dX9_give_47 : decode cX9_give 47 = .ok (.if_icmp .gt 6, 3) := by decide +kernel
theorem dX9_give_50 : decode cX9_give 50 = .ok (.bipush (-3), 2) := by decide +kernel
theorem dX9_give_52 : decode cX9_give 52 = .ok (.ireturn, 1) := by decide +kernel
theorem dX9_give_53 : decode cX9_give 53 = .ok (.aload_n 0, 1) := by decide +kernel
theorem dX9_give_54 : decode cX9_give 54 = .ok (.getfield 36, 3) := by decide +kernel
theorem dX9_give_57 : decode cX9_give 57 = .ok (.bipush 53, 2) := by decide +kernel
theorem dX9_give_59 : decode cX9_give 59 = .ok (.iload_n 2, 1) := by decide +kernel
theorem dX9_give_60 : decode cX9_give 60 = .ok (.imul, 1) := by decide +kernel
theorem dX9_give_61 : decode cX9_give 61 = .ok (.iload_n 3, 1) := by decide +kernel
theorem dX9_give_62 : decode cX9_give 62 = .ok (.iadd, 1) := by decide +kernel
theorem dX9_give_63 : decode cX9_give 63 = .ok (.baload, 1) := by decide +kernel
theorem dX9_give_64 : decode cX9_give 64 = .ok (.ifCond .eq 6, 3) := by decide +kernel
theorem dX9_give_67 : decode cX9_give 67 = .ok (.bipush (-4), 2) := by decide +kernel
theorem dX9_give_69 : decode cX9_give 69 = .ok (.ireturn, 1) := by decide +kernel
theorem dX9_give_70 : decode cX9_give 70 = .ok (.aload_n 0, 1) := by decide +kernel
theorem dX9_give_71 : decode cX9_give 71 = .ok (.iload_n 2, 1) := by decide +kernel
theorem dX9_give_72 : decode cX9_give 72 = .ok (.iload_n 3, 1) := by decide +kernel
theorem dX9_give_73 : decode cX9_give 73 = .ok (.invokevirtual 118, 3) := by decide +kernel
theorem dX9_give_76 : decode cX9_give 76 = .ok (.istore 4, 2) := by decide +kernel
theorem dX9_give_78 : decode cX9_give 78 = .ok (.iload 4, 2) := by decide +kernel
theorem dX9_give_80 : decode cX9_give 80 = .ok (.iconst (-1), 1) := by decide +kernel
theorem dX9_give_81 : decode cX9_give 81 = .ok (.if_icmp .eq 17, 3) := by decide +kernel
theorem dX9_give_84 : decode cX9_give 84 = .ok (.aload_n 0, 1) := by decide +kernel
theorem dX9_give_85 : decode cX9_give 85 = .ok (.getfield 67, 3) := by decide +kernel
theorem dX9_give_88 : decode cX9_give 88 = .ok (.iload 4, 2) := by decide +kernel
theorem dX9_give_90 : decode cX9_give 90 = .ok (.iaload, 1) := by decide +kernel
theorem dX9_give_91 : decode cX9_give 91 = .ok (.iconst 4, 1) := by decide +kernel
theorem dX9_give_92 : decode cX9_give 92 = .ok (.if_icmp .eq 6, 3) := by decide +kernel
theorem dX9_give_95 : decode cX9_give 95 = .ok (.bipush (-5), 2) := by decide +kernel
theorem dX9_give_97 : decode cX9_give 97 = .ok (.ireturn, 1) := by decide +kernel
theorem dX9_give_98 : decode cX9_give 98 = .ok (.aload_n 0, 1) := by decide +kernel
theorem dX9_give_99 : decode cX9_give 99 = .ok (.iconst 0, 1) := by decide +kernel
theorem dX9_give_100 : decode cX9_give 100 = .ok (.invokevirtual 209, 3) := by decide +kernel
theorem dX9_give_103 : decode cX9_give 103 = .ok (.bipush 9, 2) := by decide +kernel
theorem dX9_give_105 : decode cX9_give 105 = .ok (.if_icmp .eq 13, 3) := by decide +kernel
theorem dX9_give_108 : decode cX9_give 108 = .ok (.aload_n 0, 1) := by decide +kernel
theorem dX9_give_109 : decode cX9_give 109 = .ok (.getfield 203, 3) := by decide +kernel
theorem dX9_give_112 : decode cX9_give 112 = .ok (.sipush 200, 3) := by decide +kernel
theorem dX9_give_115 : decode cX9_give 115 = .ok (.if_icmp .ne 6, 3) := by decide +kernel
theorem dX9_give_118 : decode cX9_give 118 = .ok (.bipush (-6), 2) := by decide +kernel
theorem dX9_give_120 : decode cX9_give 120 = .ok (.ireturn, 1) := by decide +kernel
theorem dX9_give_121 : decode cX9_give 121 = .ok (.aload_n 0, 1) := by decide +kernel
theorem dX9_give_122 : decode cX9_give 122 = .ok (.getfield 52, 3) := by decide +kernel
theorem dX9_give_125 : decode cX9_give 125 = .ok (.aload_n 0, 1) := by decide +kernel
theorem dX9_give_126 : decode cX9_give 126 = .ok (.getfield 203, 3) := by decide +kernel
theorem dX9_give_129 : decode cX9_give 129 = .ok (.iload_n 1, 1) := by decide +kernel
theorem dX9_give_130 : decode cX9_give 130 = .ok (.iastore, 1) := by decide +kernel
theorem dX9_give_131 : decode cX9_give 131 = .ok (.aload_n 0, 1) := by decide +kernel
theorem dX9_give_132 : decode cX9_give 132 = .ok (.getfield 55, 3) := by decide +kernel
theorem dX9_give_135 : decode cX9_give 135 = .ok (.aload_n 0, 1) := by decide +kernel
theorem dX9_give_136 : decode cX9_give 136 = .ok (.getfield 203, 3) := by decide +kernel
theorem dX9_give_139 : decode cX9_give 139 = .ok (.iload_n 2, 1) := by decide +kernel
theorem dX9_give_140 : decode cX9_give 140 = .ok (.iastore, 1) := by decide +kernel
theorem dX9_give_141 : decode cX9_give 141 = .ok (.aload_n 0, 1) := by decide +kernel
theorem dX9_give_142 : decode cX9_give 142 = .ok (.getfield 58, 3) := by decide +kernel
theorem dX9_give_145 : decode cX9_give 145 = .ok (.aload_n 0, 1) := by decide +kernel
theorem dX9_give_146 : decode cX9_give 146 = .ok (.getfield 203, 3) := by decide +kernel
theorem dX9_give_149 : decode cX9_give 149 = .ok (.iload_n 3, 1) := by decide +kernel
theorem dX9_give_150 : decode cX9_give 150 = .ok (.iastore, 1) := by decide +kernel
theorem dX9_give_151 : decode cX9_give 151 = .ok (.aload_n 0, 1) := by decide +kernel
theorem dX9_give_152 : decode cX9_give 152 = .ok (.getfield 61, 3) := by decide +kernel
theorem dX9_give_155 : decode cX9_give 155 = .ok (.aload_n 0, 1) := by decide +kernel
theorem dX9_give_156 : decode cX9_give 156 = .ok (.getfield 203, 3) := by decide +kernel
theorem dX9_give_159 : decode cX9_give 159 = .ok (.aload_n 0, 1) := by decide +kernel
theorem dX9_give_160 : decode cX9_give 160 = .ok (.getfield 206, 3) := by decide +kernel
theorem dX9_give_163 : decode cX9_give 163 = .ok (.iastore, 1) := by decide +kernel
theorem dX9_give_164 : decode cX9_give 164 = .ok (.aload_n 0, 1) := by decide +kernel
theorem dX9_give_165 : decode cX9_give 165 = .ok (.getfield 64, 3) := by decide +kernel
theorem dX9_give_168 : decode cX9_give 168 = .ok (.aload_n 0, 1) := by decide +kernel
theorem dX9_give_169 : decode cX9_give 169 = .ok (.getfield 203, 3) := by decide +kernel
theorem dX9_give_172 : decode cX9_give 172 = .ok (.aload_n 0, 1) := by decide +kernel
theorem dX9_give_173 : decode cX9_give 173 = .ok (.iload_n 2, 1) := by decide +kernel
theorem dX9_give_174 : decode cX9_give 174 = .ok (.iload_n 3, 1) := by decide +kernel
theorem dX9_give_175 : decode cX9_give 175 = .ok (.invokevirtual 200, 3) := by decide +kernel
theorem dX9_give_178 : decode cX9_give 178 = .ok (.iastore, 1) := by decide +kernel
theorem dX9_give_179 : decode cX9_give 179 = .ok (.aload_n 0, 1) := by decide +kernel
theorem dX9_give_180 : decode cX9_give 180 = .ok (.getfield 67, 3) := by decide +kernel
theorem dX9_give_183 : decode cX9_give 183 = .ok (.aload_n 0, 1) := by decide +kernel
theorem dX9_give_184 : decode cX9_give 184 = .ok (.getfield 203, 3) := by decide +kernel
theorem dX9_give_187 : decode cX9_give 187 = .ok (.iconst 0, 1) := by decide +kernel
theorem dX9_give_188 : decode cX9_give 188 = .ok (.iastore, 1) := by decide +kernel
theorem dX9_give_189 : decode cX9_give 189 = .ok (.aload_n 0, 1) := by decide +kernel
theorem dX9_give_190 : decode cX9_give 190 = .ok (.getfield 70, 3) := by decide +kernel
theorem dX9_give_193 : decode cX9_give 193 = .ok (.aload_n 0, 1) := by decide +kernel
theorem dX9_give_194 : decode cX9_give 194 = .ok (.getfield 203, 3) := by decide +kernel
theorem dX9_give_197 : decode cX9_give 197 = .ok (.iconst (-1), 1) := by decide +kernel
theorem dX9_give_198 : decode cX9_give 198 = .ok (.iastore, 1) := by decide +kernel
theorem dX9_give_199 : decode cX9_give 199 = .ok (.aload_n 0, 1) := by decide +kernel
theorem dX9_give_200 : decode cX9_give 200 = .ok (.getfield 73, 3) := by decide +kernel
theorem dX9_give_203 : decode cX9_give 203 = .ok (.aload_n 0, 1) := by decide +kernel
theorem dX9_give_204 : decode cX9_give 204 = .ok (.getfield 203, 3) := by decide +kernel
theorem dX9_give_207 : decode cX9_give 207 = .ok (.iconst (-1), 1) := by decide +kernel
theorem dX9_give_208 : decode cX9_give 208 = .ok (.iastore, 1) := by decide +kernel
theorem dX9_give_209 : decode cX9_give 209 = .ok (.aload_n 0, 1) := by decide +kernel
theorem dX9_give_210 : decode cX9_give 210 = .ok (.getfield 76, 3) := by decide +kernel
theorem dX9_give_213 : decode cX9_give 213 = .ok (.iconst 4, 1) := by decide +kernel
theorem dX9_give_214 : decode cX9_give 214 = .ok (.aload_n 0, 1) := by decide +kernel
theorem dX9_give_215 : decode cX9_give 215 = .ok (.getfield 203, 3) := by decide +kernel
theorem dX9_give_218 : decode cX9_give 218 = .ok (.imul, 1) := by decide +kernel
theorem dX9_give_219 : decode cX9_give 219 = .ok (.iconst 3, 1) := by decide +kernel
theorem dX9_give_220 : decode cX9_give 220 = .ok (.iadd, 1) := by decide +kernel
theorem dX9_give_221 : decode cX9_give 221 = .ok (.iconst 0, 1) := by decide +kernel
theorem dX9_give_222 : decode cX9_give 222 = .ok (.iastore, 1) := by decide +kernel
theorem dX9_give_223 : decode cX9_give 223 = .ok (.aload_n 0, 1) := by decide +kernel
theorem dX9_give_224 : decode cX9_give 224 = .ok (.dup, 1) := by decide +kernel
theorem dX9_give_225 : decode cX9_give 225 = .ok (.getfield 203, 3) := by decide +kernel
theorem dX9_give_228 : decode cX9_give 228 = .ok (.iconst 1, 1) := by decide +kernel
theorem dX9_give_229 : decode cX9_give 229 = .ok (.iadd, 1) := by decide +kernel
theorem dX9_give_230 : decode cX9_give 230 = .ok (.putfield 203, 3) := by decide +kernel
theorem dX9_give_233 : decode cX9_give 233 = .ok (.aload_n 0, 1) := by decide +kernel
theorem dX9_give_234 : decode cX9_give 234 = .ok (.getfield 203, 3) := by decide +kernel
theorem dX9_give_237 : decode cX9_give 237 = .ok (.iconst 1, 1) := by decide +kernel
theorem dX9_give_238 : decode cX9_give 238 = .ok (.isub, 1) := by decide +kernel
theorem dX9_give_239 : decode cX9_give 239 = .ok (.ireturn, 1) := by decide +kernel
theorem dX9_isGift_0 : decode cX9_isGift 0 = .ok (.iload_n 1, 1) := by decide +kernel
theorem dX9_isGift_1 : decode cX9_isGift 1 = .ok (.ifCond .lt 25, 3) := by decide +kernel
theorem dX9_isGift_4 : decode cX9_isGift 4 = .ok (.iload_n 1, 1) := by decide +kernel
theorem dX9_isGift_5 : decode cX9_isGift 5 = .ok (.aload_n 0, 1) := by decide +kernel
theorem dX9_isGift_6 : decode cX9_isGift 6 = .ok (.getfield 203, 3) := by decide +kernel
theorem dX9_isGift_9 : decode cX9_isGift 9 = .ok (.if_icmp .ge 17, 3) := by decide +kernel
theorem dX9_isGift_12 : decode cX9_isGift 12 = .ok (.aload_n 0, 1) := by decide +kernel
theorem dX9_isGift_13 : decode cX9_isGift 13 = .ok (.getfield 67, 3) := by decide +kernel
theorem dX9_isGift_16 : decode cX9_isGift 16 = .ok (.iload_n 1, 1) := by decide +kernel
theorem dX9_isGift_17 : decode cX9_isGift 17 = .ok (.iaload, 1) := by decide +kernel
theorem dX9_isGift_18 : decode cX9_isGift 18 = .ok (.iload_n 2, 1) := by decide +kernel
theorem dX9_isGift_19 : decode cX9_isGift 19 = .ok (.if_icmp .ne 7, 3) := by decide +kernel
theorem dX9_isGift_22 : decode cX9_isGift 22 = .ok (.iconst 1, 1) := by decide +kernel
theorem dX9_isGift_23 : decode cX9_isGift 23 = .ok (.goto 4, 3) := by decide +kernel
theorem dX9_isGift_26 : decode cX9_isGift 26 = .ok (.iconst 0, 1) := by decide +kernel
theorem dX9_isGift_27 : decode cX9_isGift 27 = .ok (.ireturn, 1) := by decide +kernel
theorem dX9_wishes_0 : decode cX9_wishes 0 = .ok (.iload_n 2, 1) := by decide +kernel
theorem dX9_wishes_1 : decode cX9_wishes 1 = .ok (.iconst (-1), 1) := by decide +kernel
theorem dX9_wishes_2 : decode cX9_wishes 2 = .ok (.iconst 3, 1) := by decide +kernel
theorem dX9_wishes_3 : decode cX9_wishes 3 = .ok (.invokestatic 100, 3) := by decide +kernel
theorem dX9_wishes_6 : decode cX9_wishes 6 = .ok (.ifCond .eq 34, 3) := by decide +kernel
theorem dX9_wishes_9 : decode cX9_wishes 9 = .ok (.iload_n 3, 1) := by decide +kernel
theorem dX9_wishes_10 : decode cX9_wishes 10 = .ok (.iconst 0, 1) := by decide +kernel
theorem dX9_wishes_11 : decode cX9_wishes 11 = .ok (.bipush 52, 2) := by decide +kernel
theorem dX9_wishes_13 : decode cX9_wishes 13 = .ok (.invokestatic 100, 3) := by decide +kernel
theorem dX9_wishes_16 : decode cX9_wishes 16 = .ok (.ifCond .eq 24, 3) := by decide +kernel
theorem dX9_wishes_19 : decode cX9_wishes 19 = .ok (.iload 4, 2) := by decide +kernel
theorem dX9_wishes_21 : decode cX9_wishes 21 = .ok (.iload_n 3, 1) := by decide +kernel
theorem dX9_wishes_22 : decode cX9_wishes 22 = .ok (.bipush 52, 2) := by decide +kernel
theorem dX9_wishes_24 : decode cX9_wishes 24 = .ok (.invokestatic 100, 3) := by decide +kernel
theorem dX9_wishes_27 : decode cX9_wishes 27 = .ok (.ifCond .eq 13, 3) := by decide +kernel
theorem dX9_wishes_30 : decode cX9_wishes 30 = .ok (.iload 5, 2) := by decide +kernel
theorem dX9_wishes_32 : decode cX9_wishes 32 = .ok (.iconst 1, 1) := by decide +kernel
theorem dX9_wishes_33 : decode cX9_wishes 33 = .ok (.iconst 4, 1) := by decide +kernel
theorem dX9_wishes_34 : decode cX9_wishes 34 = .ok (.invokestatic 100, 3) := by decide +kernel
theorem dX9_wishes_37 : decode cX9_wishes 37 = .ok (.ifCond .ne 5, 3) := by decide +kernel
theorem dX9_wishes_40 : decode cX9_wishes 40 = .ok (.iconst 0, 1) := by decide +kernel
theorem dX9_wishes_41 : decode cX9_wishes 41 = .ok (.ireturn, 1) := by decide +kernel
theorem dX9_wishes_42 : decode cX9_wishes 42 = .ok (.aload_n 0, 1) := by decide +kernel
theorem dX9_wishes_43 : decode cX9_wishes 43 = .ok (.getfield 76, 3) := by decide +kernel
theorem dX9_wishes_46 : decode cX9_wishes 46 = .ok (.iconst 4, 1) := by decide +kernel
theorem dX9_wishes_47 : decode cX9_wishes 47 = .ok (.iload_n 1, 1) := by decide +kernel
theorem dX9_wishes_48 : decode cX9_wishes 48 = .ok (.imul, 1) := by decide +kernel
theorem dX9_wishes_49 : decode cX9_wishes 49 = .ok (.iload_n 2, 1) := by decide +kernel
theorem dX9_wishes_50 : decode cX9_wishes 50 = .ok (.iastore, 1) := by decide +kernel
theorem dX9_wishes_51 : decode cX9_wishes 51 = .ok (.aload_n 0, 1) := by decide +kernel
theorem dX9_wishes_52 : decode cX9_wishes 52 = .ok (.getfield 76, 3) := by decide +kernel
theorem dX9_wishes_55 : decode cX9_wishes 55 = .ok (.iconst 4, 1) := by decide +kernel
theorem dX9_wishes_56 : decode cX9_wishes 56 = .ok (.iload_n 1, 1) := by decide +kernel
theorem dX9_wishes_57 : decode cX9_wishes 57 = .ok (.imul, 1) := by decide +kernel
theorem dX9_wishes_58 : decode cX9_wishes 58 = .ok (.iconst 1, 1) := by decide +kernel
theorem dX9_wishes_59 : decode cX9_wishes 59 = .ok (.iadd, 1) := by decide +kernel
theorem dX9_wishes_60 : decode cX9_wishes 60 = .ok (.iload_n 3, 1) := by decide +kernel
theorem dX9_wishes_61 : decode cX9_wishes 61 = .ok (.iastore, 1) := by decide +kernel
theorem dX9_wishes_62 : decode cX9_wishes 62 = .ok (.aload_n 0, 1) := by decide +kernel
theorem dX9_wishes_63 : decode cX9_wishes 63 = .ok (.getfield 76, 3) := by decide +kernel
theorem dX9_wishes_66 : decode cX9_wishes 66 = .ok (.iconst 4, 1) := by decide +kernel
theorem dX9_wishes_67 : decode cX9_wishes 67 = .ok (.iload_n 1, 1) := by decide +kernel
theorem dX9_wishes_68 : decode cX9_wishes 68 = .ok (.imul, 1) := by decide +kernel
theorem dX9_wishes_69 : decode cX9_wishes 69 = .ok (.iconst 2, 1) := by decide +kernel
theorem dX9_wishes_70 : decode cX9_wishes 70 = .ok (.iadd, 1) := by decide +kernel
theorem dX9_wishes_71 : decode cX9_wishes 71 = .ok (.iload 4, 2) := by decide +kernel
theorem dX9_wishes_73 : decode cX9_wishes 73 = .ok (.iastore, 1) := by decide +kernel
theorem dX9_wishes_74 : decode cX9_wishes 74 = .ok (.aload_n 0, 1) := by decide +kernel
theorem dX9_wishes_75 : decode cX9_wishes 75 = .ok (.getfield 76, 3) := by decide +kernel
theorem dX9_wishes_78 : decode cX9_wishes 78 = .ok (.iconst 4, 1) := by decide +kernel
theorem dX9_wishes_79 : decode cX9_wishes 79 = .ok (.iload_n 1, 1) := by decide +kernel
theorem dX9_wishes_80 : decode cX9_wishes 80 = .ok (.imul, 1) := by decide +kernel
theorem dX9_wishes_81 : decode cX9_wishes 81 = .ok (.iconst 3, 1) := by decide +kernel
theorem dX9_wishes_82 : decode cX9_wishes 82 = .ok (.iadd, 1) := by decide +kernel
theorem dX9_wishes_83 : decode cX9_wishes 83 = .ok (.iload 5, 2) := by decide +kernel
theorem dX9_wishes_85 : decode cX9_wishes 85 = .ok (.iastore, 1) := by decide +kernel
theorem dX9_wishes_86 : decode cX9_wishes 86 = .ok (.iconst 1, 1) := by decide +kernel
theorem dX9_wishes_87 : decode cX9_wishes 87 = .ok (.ireturn, 1) := by decide +kernel
theorem dX9_wish_0 : decode cX9_wish 0 = .ok (.aload_n 0, 1) := by decide +kernel
theorem dX9_wish_1 : decode cX9_wish 1 = .ok (.iconst 0, 1) := by decide +kernel
theorem dX9_wish_2 : decode cX9_wish 2 = .ok (.putfield 1, 3) := by decide +kernel
theorem dX9_wish_5 : decode cX9_wish 5 = .ok (.aload_n 0, 1) := by decide +kernel
theorem dX9_wish_6 : decode cX9_wish 6 = .ok (.iload_n 1, 1) := by decide +kernel
theorem dX9_wish_7 : decode cX9_wish 7 = .ok (.iconst 0, 1) := by decide +kernel
theorem dX9_wish_8 : decode cX9_wish 8 = .ok (.invokevirtual 212, 3) := by decide +kernel
theorem dX9_wish_11 : decode cX9_wish 11 = .ok (.ifCond .eq 21, 3) := by decide +kernel
theorem dX9_wish_14 : decode cX9_wish 14 = .ok (.aload_n 0, 1) := by decide +kernel
theorem dX9_wish_15 : decode cX9_wish 15 = .ok (.iload_n 1, 1) := by decide +kernel
theorem dX9_wish_16 : decode cX9_wish 16 = .ok (.iload_n 2, 1) := by decide +kernel
theorem dX9_wish_17 : decode cX9_wish 17 = .ok (.iload_n 3, 1) := by decide +kernel
theorem dX9_wish_18 : decode cX9_wish 18 = .ok (.iload 4, 2) := by decide +kernel
theorem dX9_wish_20 : decode cX9_wish 20 = .ok (.iload 5, 2) := by decide +kernel
theorem dX9_wish_22 : decode cX9_wish 22 = .ok (.invokevirtual 215, 3) := by decide +kernel
theorem dX9_wish_25 : decode cX9_wish 25 = .ok (.ifCond .eq 7, 3) := by decide +kernel
theorem dX9_wish_28 : decode cX9_wish 28 = .ok (.iconst 1, 1) := by decide +kernel
theorem dX9_wish_29 : decode cX9_wish 29 = .ok (.goto 4, 3) := by decide +kernel
theorem dX9_wish_32 : decode cX9_wish 32 = .ok (.iconst 0, 1) := by decide +kernel
theorem dX9_wish_33 : decode cX9_wish 33 = .ok (.ireturn, 1) := by decide +kernel
theorem dX9_rushWish_0 : decode cX9_rushWish 0 = .ok (.aload_n 0, 1) := by decide +kernel
theorem dX9_rushWish_1 : decode cX9_rushWish 1 = .ok (.iconst 0, 1) := by decide +kernel
theorem dX9_rushWish_2 : decode cX9_rushWish 2 = .ok (.putfield 1, 3) := by decide +kernel
theorem dX9_rushWish_5 : decode cX9_rushWish 5 = .ok (.aload_n 0, 1) := by decide +kernel
theorem dX9_rushWish_6 : decode cX9_rushWish 6 = .ok (.iload_n 1, 1) := by decide +kernel
theorem dX9_rushWish_7 : decode cX9_rushWish 7 = .ok (.invokevirtual 114, 3) := by decide +kernel
theorem dX9_rushWish_10 : decode cX9_rushWish 10 = .ok (.ifCond .eq 25, 3) := by decide +kernel
theorem dX9_rushWish_13 : decode cX9_rushWish 13 = .ok (.aload_n 0, 1) := by decide +kernel
theorem dX9_rushWish_14 : decode cX9_rushWish 14 = .ok (.sipush 200, 3) := by decide +kernel
theorem dX9_rushWish_17 : decode cX9_rushWish 17 = .ok (.iload_n 1, 1) := by decide +kernel
theorem dX9_rushWish_18 : decode cX9_rushWish 18 = .ok (.iadd, 1) := by decide +kernel
theorem dX9_rushWish_19 : decode cX9_rushWish 19 = .ok (.iload_n 2, 1) := by decide +kernel
theorem dX9_rushWish_20 : decode cX9_rushWish 20 = .ok (.iload_n 3, 1) := by decide +kernel
theorem dX9_rushWish_21 : decode cX9_rushWish 21 = .ok (.iload 4, 2) := by decide +kernel
theorem dX9_rushWish_23 : decode cX9_rushWish 23 = .ok (.iload 5, 2) := by decide +kernel
theorem dX9_rushWish_25 : decode cX9_rushWish 25 = .ok (.invokevirtual 215, 3) := by decide +kernel
theorem dX9_rushWish_28 : decode cX9_rushWish 28 = .ok (.ifCond .eq 7, 3) := by decide +kernel
theorem dX9_rushWish_31 : decode cX9_rushWish 31 = .ok (.iconst 1, 1) := by decide +kernel
theorem dX9_rushWish_32 : decode cX9_rushWish 32 = .ok (.goto 4, 3) := by decide +kernel
theorem dX9_rushWish_35 : decode cX9_rushWish 35 = .ok (.iconst 0, 1) := by decide +kernel
theorem dX9_rushWish_36 : decode cX9_rushWish 36 = .ok (.ireturn, 1) := by decide +kernel
theorem dX9_meets_0 : decode cX9_meets 0 = .ok (.iconst 4, 1) := by decide +kernel
theorem dX9_meets_1 : decode cX9_meets 1 = .ok (.iload_n 2, 1) := by decide +kernel
theorem dX9_meets_2 : decode cX9_meets 2 = .ok (.imul, 1) := by decide +kernel
theorem dX9_meets_3 : decode cX9_meets 3 = .ok (.istore_n 3, 1) := by decide +kernel
theorem dX9_meets_4 : decode cX9_meets 4 = .ok (.aload_n 0, 1) := by decide +kernel
theorem dX9_meets_5 : decode cX9_meets 5 = .ok (.getfield 76, 3) := by decide +kernel
theorem dX9_meets_8 : decode cX9_meets 8 = .ok (.iload_n 3, 1) := by decide +kernel
theorem dX9_meets_9 : decode cX9_meets 9 = .ok (.iconst 3, 1) := by decide +kernel
theorem dX9_meets_10 : decode cX9_meets 10 = .ok (.iadd, 1) := by decide +kernel
theorem dX9_meets_11 : decode cX9_meets 11 = .ok (.iaload, 1) := by decide +kernel
theorem dX9_meets_12 : decode cX9_meets 12 = .ok (.ifCond .eq 25, 3) := by decide +kernel
theorem dX9_meets_15 : decode cX9_meets 15 = .ok (.aload_n 0, 1) := by decide +kernel
theorem dX9_meets_16 : decode cX9_meets 16 = .ok (.getfield 17, 3) := by decide +kernel
theorem dX9_meets_19 : decode cX9_meets 19 = .ok (.aload_n 0, 1) := by decide +kernel
theorem dX9_meets_20 : decode cX9_meets 20 = .ok (.getfield 55, 3) := by decide +kernel
theorem dX9_meets_23 : decode cX9_meets 23 = .ok (.iload_n 1, 1) := by decide +kernel
theorem dX9_meets_24 : decode cX9_meets 24 = .ok (.iaload, 1) := by decide +kernel
theorem dX9_meets_25 : decode cX9_meets 25 = .ok (.iaload, 1) := by decide +kernel
theorem dX9_meets_26 : decode cX9_meets 26 = .ok (.aload_n 0, 1) := by decide +kernel
theorem dX9_meets_27 : decode cX9_meets 27 = .ok (.getfield 76, 3) := by decide +kernel
theorem dX9_meets_30 : decode cX9_meets 30 = .ok (.iload_n 3, 1) := by decide +kernel
theorem dX9_meets_31 : decode cX9_meets 31 = .ok (.iconst 3, 1) := by decide +kernel
theorem dX9_meets_32 : decode cX9_meets 32 = .ok (.iadd, 1) := by decide +kernel
theorem dX9_meets_33 : decode cX9_meets 33 = .ok (.iaload, 1) := by decide +kernel
theorem dX9_meets_34 : decode cX9_meets 34 = .ok (.if_icmp .ge 5, 3) := by decide +kernel
theorem dX9_meets_37 : decode cX9_meets 37 = .ok (.iconst 0, 1) := by decide +kernel
theorem dX9_meets_38 : decode cX9_meets 38 = .ok (.ireturn, 1) := by decide +kernel
theorem dX9_meets_39 : decode cX9_meets 39 = .ok (.aload_n 0, 1) := by decide +kernel
theorem dX9_meets_40 : decode cX9_meets 40 = .ok (.getfield 76, 3) := by decide +kernel
theorem dX9_meets_43 : decode cX9_meets 43 = .ok (.iload_n 3, 1) := by decide +kernel
theorem dX9_meets_44 : decode cX9_meets 44 = .ok (.iaload, 1) := by decide +kernel
theorem dX9_meets_45 : decode cX9_meets 45 = .ok (.iconst (-1), 1) := by decide +kernel
theorem dX9_meets_46 : decode cX9_meets 46 = .ok (.if_icmp .eq 25, 3) := by decide +kernel
theorem dX9_meets_49 : decode cX9_meets 49 = .ok (.aload_n 0, 1) := by decide +kernel
theorem dX9_meets_50 : decode cX9_meets 50 = .ok (.getfield 76, 3) := by decide +kernel
theorem dX9_meets_53 : decode cX9_meets 53 = .ok (.iload_n 3, 1) := by decide +kernel
theorem dX9_meets_54 : decode cX9_meets 54 = .ok (.iaload, 1) := by decide +kernel
theorem dX9_meets_55 : decode cX9_meets 55 = .ok (.aload_n 0, 1) := by decide +kernel
theorem dX9_meets_56 : decode cX9_meets 56 = .ok (.getfield 13, 3) := by decide +kernel
theorem dX9_meets_59 : decode cX9_meets 59 = .ok (.aload_n 0, 1) := by decide +kernel
theorem dX9_meets_60 : decode cX9_meets 60 = .ok (.getfield 55, 3) := by decide +kernel
theorem dX9_meets_63 : decode cX9_meets 63 = .ok (.iload_n 1, 1) := by decide +kernel
theorem dX9_meets_64 : decode cX9_meets 64 = .ok (.iaload, 1) := by decide +kernel
theorem dX9_meets_65 : decode cX9_meets 65 = .ok (.iaload, 1) := by decide +kernel
theorem dX9_meets_66 : decode cX9_meets 66 = .ok (.if_icmp .eq 5, 3) := by decide +kernel
theorem dX9_meets_69 : decode cX9_meets 69 = .ok (.iconst 0, 1) := by decide +kernel
theorem dX9_meets_70 : decode cX9_meets 70 = .ok (.ireturn, 1) := by decide +kernel
theorem dX9_meets_71 : decode cX9_meets 71 = .ok (.aload_n 0, 1) := by decide +kernel
theorem dX9_meets_72 : decode cX9_meets 72 = .ok (.getfield 58, 3) := by decide +kernel
theorem dX9_meets_75 : decode cX9_meets 75 = .ok (.iload_n 1, 1) := by decide +kernel
theorem dX9_meets_76 : decode cX9_meets 76 = .ok (.iaload, 1) := by decide +kernel
theorem dX9_meets_77 : decode cX9_meets 77 = .ok (.aload_n 0, 1) := by decide +kernel
theorem dX9_meets_78 : decode cX9_meets 78 = .ok (.getfield 76, 3) := by decide +kernel
theorem dX9_meets_81 : decode cX9_meets 81 = .ok (.iload_n 3, 1) := by decide +kernel
theorem dX9_meets_82 : decode cX9_meets 82 = .ok (.iconst 1, 1) := by decide +kernel
theorem dX9_meets_83 : decode cX9_meets 83 = .ok (.iadd, 1) := by decide +kernel
theorem dX9_meets_84 : decode cX9_meets 84 = .ok (.iaload, 1) := by decide +kernel
theorem dX9_meets_85 : decode cX9_meets 85 = .ok (.aload_n 0, 1) := by decide +kernel
theorem dX9_meets_86 : decode cX9_meets 86 = .ok (.getfield 76, 3) := by decide +kernel
theorem dX9_meets_89 : decode cX9_meets 89 = .ok (.iload_n 3, 1) := by decide +kernel
theorem dX9_meets_90 : decode cX9_meets 90 = .ok (.iconst 2, 1) := by decide +kernel
theorem dX9_meets_91 : decode cX9_meets 91 = .ok (.iadd, 1) := by decide +kernel
theorem dX9_meets_92 : decode cX9_meets 92 = .ok (.iaload, 1) := by decide +kernel
theorem dX9_meets_93 : decode cX9_meets 93 = .ok (.invokestatic 100, 3) := by decide +kernel
theorem dX9_meets_96 : decode cX9_meets 96 = .ok (.ireturn, 1) := by decide +kernel
theorem dX9_isShort_0 : decode cX9_isShort 0 = .ok (.iconst 1, 1) := by decide +kernel
theorem dX9_isShort_1 : decode cX9_isShort 1 = .ok (.istore_n 2, 1) := by decide +kernel
theorem dX9_isShort_2 : decode cX9_isShort 2 = .ok (.aload_n 0, 1) := by decide +kernel
theorem dX9_isShort_3 : decode cX9_isShort 3 = .ok (.getfield 82, 3) := by decide +kernel
theorem dX9_isShort_6 : decode cX9_isShort 6 = .ok (.iload_n 1, 1) := by decide +kernel
theorem dX9_isShort_7 : decode cX9_isShort 7 = .ok (.iaload, 1) := by decide +kernel
theorem dX9_isShort_8 : decode cX9_isShort 8 = .ok (.istore_n 3, 1) := by decide +kernel
theorem dX9_isShort_9 : decode cX9_isShort 9 = .ok (.iload_n 3, 1) := by decide +kernel
theorem dX9_isShort_10 : decode cX9_isShort 10 = .ok (.iload_n 1, 1) := by decide +kernel
theorem dX9_isShort_11 : decode cX9_isShort 11 = .ok (.if_icmp .eq 20, 3) := by decide +kernel
theorem dX9_isShort_14 : decode cX9_isShort 14 = .ok (.iload_n 3, 1) := by decide +kernel
theorem dX9_isShort_15 : decode cX9_isShort 15 = .ok (.ifCond .lt 16, 3) := by decide +kernel
theorem dX9_isShort_18 : decode cX9_isShort 18 = .ok (.iinc 2 1, 3) := by decide +kernel
theorem dX9_isShort_21 : decode cX9_isShort 21 = .ok (.aload_n 0, 1) := by decide +kernel
theorem dX9_isShort_22 : decode cX9_isShort 22 = .ok (.getfield 82, 3) := by decide +kernel
theorem dX9_isShort_25 : decode cX9_isShort 25 = .ok (.iload_n 3, 1) := by decide +kernel
theorem dX9_isShort_26 : decode cX9_isShort 26 = .ok (.iaload, 1) := by decide +kernel
theorem dX9_isShort_27 : decode cX9_isShort 27 = .ok (.istore_n 3, 1) := by decide +kernel
theorem dX9_isShort_28 : decode cX9_isShort 28 = .ok (.goto (-19), 3) := by decide +kernel
theorem dX9_isShort_31 : decode cX9_isShort 31 = .ok (.iload_n 2, 1) := by decide +kernel
theorem dX9_isShort_32 : decode cX9_isShort 32 = .ok (.aload_n 0, 1) := by decide +kernel
theorem dX9_isShort_33 : decode cX9_isShort 33 = .ok (.getfield 219, 3) := by decide +kernel
theorem dX9_isShort_36 : decode cX9_isShort 36 = .ok (.if_icmp .gt 7, 3) := by decide +kernel
theorem dX9_isShort_39 : decode cX9_isShort 39 = .ok (.iconst 1, 1) := by decide +kernel
theorem dX9_isShort_40 : decode cX9_isShort 40 = .ok (.goto 4, 3) := by decide +kernel
theorem dX9_isShort_43 : decode cX9_isShort 43 = .ok (.iconst 0, 1) := by decide +kernel
theorem dX9_isShort_44 : decode cX9_isShort 44 = .ok (.ireturn, 1) := by decide +kernel
theorem dX9_chooses_0 : decode cX9_chooses 0 = .ok (.iload_n 2, 1) := by decide +kernel
theorem dX9_chooses_1 : decode cX9_chooses 1 = .ok (.aload_n 0, 1) := by decide +kernel
theorem dX9_chooses_2 : decode cX9_chooses 2 = .ok (.getfield 222, 3) := by decide +kernel
theorem dX9_chooses_5 : decode cX9_chooses 5 = .ok (.iadd, 1) := by decide +kernel
theorem dX9_chooses_6 : decode cX9_chooses 6 = .ok (.iload_n 1, 1) := by decide +kernel
theorem dX9_chooses_7 : decode cX9_chooses 7 = .ok (.isub, 1) := by decide +kernel
theorem dX9_chooses_8 : decode cX9_chooses 8 = .ok (.istore 5, 2) := by decide +kernel
theorem dX9_chooses_10 : decode cX9_chooses 10 = .ok (.iload 5, 2) := by decide +kernel
theorem dX9_chooses_12 : decode cX9_chooses 12 = .ok (.aload_n 0, 1) := by decide +kernel
theorem dX9_chooses_13 : decode cX9_chooses 13 = .ok (.getfield 225, 3) := by decide +kernel
theorem dX9_chooses_16 : decode cX9_chooses 16 = .ok (.if_icmp .lt 23, 3) := by decide +kernel
theorem dX9_chooses_19 : decode cX9_chooses 19 = .ok (.iload 5, 2) := by decide +kernel
theorem dX9_chooses_21 : decode cX9_chooses 21 = .ok (.aload_n 0, 1) := by decide +kernel
theorem dX9_chooses_22 : decode cX9_chooses 22 = .ok (.getfield 225, 3) := by decide +kernel
theorem dX9_chooses_25 : decode cX9_chooses 25 = .ok (.if_icmp .ne 15, 3) := by decide +kernel
theorem dX9_chooses_28 : decode cX9_chooses 28 = .ok (.iload 4, 2) := by decide +kernel
theorem dX9_chooses_30 : decode cX9_chooses 30 = .ok (.iload_n 3, 1) := by decide +kernel
theorem dX9_chooses_31 : decode cX9_chooses 31 = .ok (.isub, 1) := by decide +kernel
theorem dX9_chooses_32 : decode cX9_chooses 32 = .ok (.aload_n 0, 1) := by decide +kernel
theorem dX9_chooses_33 : decode cX9_chooses 33 = .ok (.getfield 228, 3) := by decide +kernel
theorem dX9_chooses_36 : decode cX9_chooses 36 = .ok (.if_icmp .gt 4, 3) := by decide +kernel
theorem dX9_chooses_39 : decode cX9_chooses 39 = .ok (.return_, 1) := by decide +kernel
theorem dX9_chooses_40 : decode cX9_chooses 40 = .ok (.iload_n 1, 1) := by decide +kernel
theorem dX9_chooses_41 : decode cX9_chooses 41 = .ok (.aload_n 0, 1) := by decide +kernel
theorem dX9_chooses_42 : decode cX9_chooses 42 = .ok (.getfield 222, 3) := by decide +kernel
theorem dX9_chooses_45 : decode cX9_chooses 45 = .ok (.if_icmp .ne 49, 3) := by decide +kernel
theorem dX9_chooses_48 : decode cX9_chooses 48 = .ok (.aload_n 0, 1) := by decide +kernel
theorem dX9_chooses_49 : decode cX9_chooses 49 = .ok (.iload_n 2, 1) := by decide +kernel
theorem dX9_chooses_50 : decode cX9_chooses 50 = .ok (.putfield 225, 3) := by decide +kernel
theorem dX9_chooses_53 : decode cX9_chooses 53 = .ok (.aload_n 0, 1) := by decide +kernel
theorem dX9_chooses_54 : decode cX9_chooses 54 = .ok (.iload 4, 2) := by decide +kernel
theorem dX9_chooses_56 : decode cX9_chooses 56 = .ok (.iload_n 3, 1) := by decide +kernel
theorem dX9_chooses_57 : decode cX9_chooses 57 = .ok (.isub, 1) := by decide +kernel
theorem dX9_chooses_58 : decode cX9_chooses 58 = .ok (.putfield 228, 3) := by decide +kernel
theorem dX9_chooses_61 : decode cX9_chooses 61 = .ok (.iconst 0, 1) := by decide +kernel
theorem dX9_chooses_62 : decode cX9_chooses 62 = .ok (.istore 6, 2) := by decide +kernel
theorem dX9_chooses_64 : decode cX9_chooses 64 = .ok (.iload 6, 2) := by decide +kernel
theorem dX9_chooses_66 : decode cX9_chooses 66 = .ok (.aload_n 0, 1) := by decide +kernel
theorem dX9_chooses_67 : decode cX9_chooses 67 = .ok (.getfield 222, 3) := by decide +kernel
theorem dX9_chooses_70 : decode cX9_chooses 70 = .ok (.if_icmp .ge 23, 3) := by decide +kernel
theorem dX9_chooses_73 : decode cX9_chooses 73 = .ok (.aload_n 0, 1) := by decide +kernel
theorem dX9_chooses_74 : decode cX9_chooses 74 = .ok (.getfield 85, 3) := by decide +kernel
theorem dX9_chooses_77 : decode cX9_chooses 77 = .ok (.iload 6, 2) := by decide +kernel
theorem dX9_chooses_79 : decode cX9_chooses 79 = .ok (.aload_n 0, 1) := by decide +kernel
theorem dX9_chooses_80 : decode cX9_chooses 80 = .ok (.getfield 82, 3) := by decide +kernel
theorem dX9_chooses_83 : decode cX9_chooses 83 = .ok (.iload 6, 2) := by decide +kernel
theorem dX9_chooses_85 : decode cX9_chooses 85 = .ok (.iaload, 1) := by decide +kernel
theorem dX9_chooses_86 : decode cX9_chooses 86 = .ok (.iastore, 1) := by decide +kernel
theorem dX9_chooses_87 : decode cX9_chooses 87 = .ok (.iinc 6 1, 3) := by decide +kernel
theorem dX9_chooses_90 : decode cX9_chooses 90 = .ok (.goto (-26), 3) := by decide +kernel
theorem dX9_chooses_93 : decode cX9_chooses 93 = .ok (.return_, 1) := by decide +kernel
theorem dX9_chooses_94 : decode cX9_chooses 94 = .ok (.iconst 0, 1) := by decide +kernel
theorem dX9_chooses_95 : decode cX9_chooses 95 = .ok (.istore 6, 2) := by decide +kernel
theorem dX9_chooses_97 : decode cX9_chooses 97 = .ok (.iload 6, 2) := by decide +kernel
theorem dX9_chooses_99 : decode cX9_chooses 99 = .ok (.aload_n 0, 1) := by decide +kernel
theorem dX9_chooses_100 : decode cX9_chooses 100 = .ok (.getfield 222, 3) := by decide +kernel
theorem dX9_chooses_103 : decode cX9_chooses 103 = .ok (.if_icmp .ge 130, 3) := by decide +kernel
theorem dX9_chooses_106 : decode cX9_chooses 106 = .ok (.iload 6, 2) := by decide +kernel
theorem dX9_chooses_108 : decode cX9_chooses 108 = .ok (.iload_n 1, 1) := by decide +kernel
theorem dX9_chooses_109 : decode cX9_chooses 109 = .ok (.if_icmp .eq 54, 3) := by decide +kernel
theorem dX9_chooses_112 : decode cX9_chooses 112 = .ok (.aload_n 0, 1) := by decide +kernel
theorem dX9_chooses_113 : decode cX9_chooses 113 = .ok (.getfield 88, 3) := by decide +kernel
theorem dX9_chooses_116 : decode cX9_chooses 116 = .ok (.iload 6, 2) := by decide +kernel
theorem dX9_chooses_118 : decode cX9_chooses 118 = .ok (.baload, 1) := by decide +kernel
theorem dX9_chooses_119 : decode cX9_chooses 119 = .ok (.ifCond .ne 44, 3) := by decide +kernel
theorem dX9_chooses_122 : decode cX9_chooses 122 = .ok (.iload 6, 2) := by decide +kernel
theorem dX9_chooses_124 : decode cX9_chooses 124 = .ok (.iload_n 1, 1) := by decide +kernel
theorem dX9_chooses_125 : decode cX9_chooses 125 = .ok (.if_icmp .gt 14, 3) := by decide +kernel
theorem dX9_chooses_128 : decode cX9_chooses 128 = .ok (.aload_n 0, 1) := by decide +kernel
theorem dX9_chooses_129 : decode cX9_chooses 129 = .ok (.getfield 82, 3) := by decide +kernel
theorem dX9_chooses_132 : decode cX9_chooses 132 = .ok (.iload 6, 2) := by decide +kernel
theorem dX9_chooses_134 : decode cX9_chooses 134 = .ok (.iaload, 1) := by decide +kernel
theorem dX9_chooses_135 : decode cX9_chooses 135 = .ok (.iconst (-1), 1) := by decide +kernel
theorem dX9_chooses_136 : decode cX9_chooses 136 = .ok (.if_icmp .eq 27, 3) := by decide +kernel
theorem dX9_chooses_139 : decode cX9_chooses 139 = .ok (.aload_n 0, 1) := by decide +kernel
theorem dX9_chooses_140 : decode cX9_chooses 140 = .ok (.aload_n 0, 1) := by decide +kernel
theorem dX9_chooses_141 : decode cX9_chooses 141 = .ok (.getfield 79, 3) := by decide +kernel
theorem dX9_chooses_144 : decode cX9_chooses 144 = .ok (.iload 6, 2) := by decide +kernel
theorem dX9_chooses_146 : decode cX9_chooses 146 = .ok (.iaload, 1) := by decide +kernel
theorem dX9_chooses_147 : decode cX9_chooses 147 = .ok (.aload_n 0, 1) := by decide +kernel
theorem dX9_chooses_148 : decode cX9_chooses 148 = .ok (.getfield 79, 3) := by decide +kernel
theorem dX9_chooses_151 : decode cX9_chooses 151 = .ok (.iload_n 1, 1) := by decide +kernel
theorem dX9_chooses_152 : decode cX9_chooses 152 = .ok (.iaload, 1) := by decide +kernel
theorem dX9_chooses_153 : decode cX9_chooses 153 = .ok (.invokevirtual 231, 3) := by decide +kernel
theorem dX9_chooses_156 : decode cX9_chooses 156 = .ok (.ifCond .eq 7, 3) := by decide +kernel
theorem dX9_chooses_159 : decode cX9_chooses 159 = .ok (.iconst 1, 1) := by decide +kernel
theorem dX9_chooses_160 : decode cX9_chooses 160 = .ok (.goto 4, 3) := by decide +kernel
theorem dX9_chooses_163 : decode cX9_chooses 163 = .ok (.iconst 0, 1) := by decide +kernel
theorem dX9_chooses_164 : decode cX9_chooses 164 = .ok (.istore 7, 2) := by decide +kernel
theorem dX9_chooses_166 : decode cX9_chooses 166 = .ok (.iload 7, 2) := by decide +kernel
theorem dX9_chooses_168 : decode cX9_chooses 168 = .ok (.ifCond .ne 6, 3) := by decide +kernel
theorem dX9_chooses_171 : decode cX9_chooses 171 = .ok (.goto 56, 3) := by decide +kernel
theorem dX9_chooses_174 : decode cX9_chooses 174 = .ok (.aload_n 0, 1) := by decide +kernel
theorem dX9_chooses_175 : decode cX9_chooses 175 = .ok (.getfield 82, 3) := by decide +kernel
theorem dX9_chooses_178 : decode cX9_chooses 178 = .ok (.iload_n 1, 1) := by decide +kernel
theorem dX9_chooses_179 : decode cX9_chooses 179 = .ok (.iload 6, 2) := by decide +kernel
theorem dX9_chooses_181 : decode cX9_chooses 181 = .ok (.iastore, 1) := by decide +kernel
theorem dX9_chooses_182 : decode cX9_chooses 182 = .ok (.aload_n 0, 1) := by decide +kernel
theorem dX9_chooses_183 : decode cX9_chooses 183 = .ok (.getfield 88, 3) := by decide +kernel
theorem dX9_chooses_186 : decode cX9_chooses 186 = .ok (.iload 6, 2) := by decide +kernel
theorem dX9_chooses_188 : decode cX9_chooses 188 = .ok (.iconst 1, 1) := by decide +kernel
theorem dX9_chooses_189 : decode cX9_chooses 189 = .ok (.bastore, 1) := by decide +kernel
theorem dX9_chooses_190 : decode cX9_chooses 190 = .ok (.aload_n 0, 1) := by decide +kernel
theorem dX9_chooses_191 : decode cX9_chooses 191 = .ok (.iload_n 1, 1) := by decide +kernel
theorem dX9_chooses_192 : decode cX9_chooses 192 = .ok (.invokevirtual 234, 3) := by decide +kernel
theorem dX9_chooses_195 : decode cX9_chooses 195 = .ok (.ifCond .eq 24, 3) := by decide +kernel
theorem dX9_chooses_198 : decode cX9_chooses 198 = .ok (.aload_n 0, 1) := by decide +kernel
theorem dX9_chooses_199 : decode cX9_chooses 199 = .ok (.iload_n 1, 1) := by decide +kernel
theorem dX9_chooses_200 : decode cX9_chooses 200 = .ok (.invokevirtual 237, 3) := by decide +kernel
theorem dX9_chooses_203 : decode cX9_chooses 203 = .ok (.ifCond .eq 16, 3) := by decide +kernel
theorem dX9_chooses_206 : decode cX9_chooses 206 = .ok (.aload_n 0, 1) := by decide +kernel
theorem dX9_chooses_207 : decode cX9_chooses 207 = .ok (.iload_n 1, 1) := by decide +kernel
theorem dX9_chooses_208 : decode cX9_chooses 208 = .ok (.iconst 1, 1) := by decide +kernel
theorem dX9_chooses_209 : decode cX9_chooses 209 = .ok (.iadd, 1) := by decide +kernel
theorem dX9_chooses_210 : decode cX9_chooses 210 = .ok (.iload_n 2, 1) := by decide +kernel
theorem dX9_chooses_211 : decode cX9_chooses 211 = .ok (.iconst 1, 1) := by decide +kernel
theorem dX9_chooses_212 : decode cX9_chooses 212 = .ok (.iadd, 1) := by decide +kernel
theorem dX9_chooses_213 : decode cX9_chooses 213 = .ok (.iload_n 3, 1) := by decide +kernel
theorem dX9_chooses_214 : decode cX9_chooses 214 = .ok (.iload 4, 2) := by decide +kernel
theorem dX9_chooses_216 : decode cX9_chooses 216 = .ok (.invokevirtual 240, 3) := by decide +kernel
theorem dX9_chooses_219 : decode cX9_chooses 219 = .ok (.aload_n 0, 1) := by decide +kernel
theorem dX9_chooses_220 : decode cX9_chooses 220 = .ok (.getfield 88, 3) := by decide +kernel
theorem dX9_chooses_223 : decode cX9_chooses 223 = .ok (.iload 6, 2) := by decide +kernel
theorem dX9_chooses_225 : decode cX9_chooses 225 = .ok (.iconst 0, 1) := by decide +kernel
theorem dX9_chooses_226 : decode cX9_chooses 226 = .ok (.bastore, 1) := by decide +kernel
theorem dX9_chooses_227 : decode cX9_chooses 227 = .ok (.iinc 6 1, 3) := by decide +kernel
theorem dX9_chooses_230 : decode cX9_chooses 230 = .ok (.goto (-133), 3) := by decide +kernel
theorem dX9_chooses_233 : decode cX9_chooses 233 = .ok (.aload_n 0, 1) := by decide +kernel
theorem dX9_chooses_234 : decode cX9_chooses 234 = .ok (.getfield 82, 3) := by decide +kernel
theorem dX9_chooses_237 : decode cX9_chooses 237 = .ok (.iload_n 1, 1) := by decide +kernel
theorem dX9_chooses_238 : decode cX9_chooses 238 = .ok (.iconst (-1), 1) := by decide +kernel
theorem dX9_chooses_239 : decode cX9_chooses 239 = .ok (.iastore, 1) := by decide +kernel
theorem dX9_chooses_240 : decode cX9_chooses 240 = .ok (.aload_n 0, 1) := by decide +kernel
theorem dX9_chooses_241 : decode cX9_chooses 241 = .ok (.getfield 88, 3) := by decide +kernel
theorem dX9_chooses_244 : decode cX9_chooses 244 = .ok (.iload_n 1, 1) := by decide +kernel
theorem dX9_chooses_245 : decode cX9_chooses 245 = .ok (.baload, 1) := by decide +kernel
theorem dX9_chooses_246 : decode cX9_chooses 246 = .ok (.ifCond .ne 26, 3) := by decide +kernel
theorem dX9_chooses_249 : decode cX9_chooses 249 = .ok (.aload_n 0, 1) := by decide +kernel
theorem dX9_chooses_250 : decode cX9_chooses 250 = .ok (.iload_n 1, 1) := by decide +kernel
theorem dX9_chooses_251 : decode cX9_chooses 251 = .ok (.iconst 1, 1) := by decide +kernel
theorem dX9_chooses_252 : decode cX9_chooses 252 = .ok (.iadd, 1) := by decide +kernel
theorem dX9_chooses_253 : decode cX9_chooses 253 = .ok (.iload_n 2, 1) := by decide +kernel
theorem dX9_chooses_254 : decode cX9_chooses 254 = .ok (.iload_n 3, 1) := by decide +kernel
theorem dX9_chooses_255 : decode cX9_chooses 255 = .ok (.aload_n 0, 1) := by decide +kernel
theorem dX9_chooses_256 : decode cX9_chooses 256 = .ok (.getfield 64, 3) := by decide +kernel
theorem dX9_chooses_259 : decode cX9_chooses 259 = .ok (.aload_n 0, 1) := by decide +kernel
theorem dX9_chooses_260 : decode cX9_chooses 260 = .ok (.getfield 79, 3) := by decide +kernel
theorem dX9_chooses_263 : decode cX9_chooses 263 = .ok (.iload_n 1, 1) := by decide +kernel
theorem dX9_chooses_264 : decode cX9_chooses 264 = .ok (.iaload, 1) := by decide +kernel
theorem dX9_chooses_265 : decode cX9_chooses 265 = .ok (.iaload, 1) := by decide +kernel
theorem dX9_chooses_266 : decode cX9_chooses 266 = .ok (.iadd, 1) := by decide +kernel
theorem dX9_chooses_267 : decode cX9_chooses 267 = .ok (.iload 4, 2) := by decide +kernel
theorem dX9_chooses_269 : decode cX9_chooses 269 = .ok (.invokevirtual 240, 3) := by decide +kernel
theorem dX9_chooses_272 : decode cX9_chooses 272 = .ok (.aload_n 0, 1) := by decide +kernel
theorem dX9_chooses_273 : decode cX9_chooses 273 = .ok (.getfield 82, 3) := by decide +kernel
theorem dX9_chooses_276 : decode cX9_chooses 276 = .ok (.iload_n 1, 1) := by decide +kernel
theorem dX9_chooses_277 : decode cX9_chooses 277 = .ok (.bipush (-2), 2) := by decide +kernel
theorem dX9_chooses_279 : decode cX9_chooses 279 = .ok (.iastore, 1) := by decide +kernel
theorem dX9_chooses_280 : decode cX9_chooses 280 = .ok (.return_, 1) := by decide +kernel
theorem dX9_isEven_0 : decode cX9_isEven 0 = .ok (.iconst 0, 1) := by decide +kernel
theorem dX9_isEven_1 : decode cX9_isEven 1 = .ok (.istore_n 2, 1) := by decide +kernel
theorem dX9_isEven_2 : decode cX9_isEven 2 = .ok (.iload_n 1, 1) := by decide +kernel
theorem dX9_isEven_3 : decode cX9_isEven 3 = .ok (.istore_n 3, 1) := by decide +kernel
theorem dX9_isEven_4 : decode cX9_isEven 4 = .ok (.iconst 1, 1) := by decide +kernel
theorem dX9_isEven_5 : decode cX9_isEven 5 = .ok (.istore 4, 2) := by decide +kernel
theorem dX9_isEven_7 : decode cX9_isEven 7 = .ok (.iload 4, 2) := by decide +kernel
theorem dX9_isEven_9 : decode cX9_isEven 9 = .ok (.ifCond .eq 80, 3) := by decide +kernel
theorem dX9_isEven_12 : decode cX9_isEven 12 = .ok (.iconst (-1), 1) := by decide +kernel
theorem dX9_isEven_13 : decode cX9_isEven 13 = .ok (.istore 5, 2) := by decide +kernel
theorem dX9_isEven_15 : decode cX9_isEven 15 = .ok (.iconst 0, 1) := by decide +kernel
theorem dX9_isEven_16 : decode cX9_isEven 16 = .ok (.istore 6, 2) := by decide +kernel
theorem dX9_isEven_18 : decode cX9_isEven 18 = .ok (.iload 6, 2) := by decide +kernel
theorem dX9_isEven_20 : decode cX9_isEven 20 = .ok (.aload_n 0, 1) := by decide +kernel
theorem dX9_isEven_21 : decode cX9_isEven 21 = .ok (.getfield 222, 3) := by decide +kernel
theorem dX9_isEven_24 : decode cX9_isEven 24 = .ok (.if_icmp .ge 24, 3) := by decide +kernel
theorem dX9_isEven_27 : decode cX9_isEven 27 = .ok (.aload_n 0, 1) := by decide +kernel
theorem dX9_isEven_28 : decode cX9_isEven 28 = .ok (.getfield 82, 3) := by decide +kernel
theorem dX9_isEven_31 : decode cX9_isEven 31 = .ok (.iload 6, 2) := by decide +kernel
theorem dX9_isEven_33 : decode cX9_isEven 33 = .ok (.iaload, 1) := by decide +kernel
theorem dX9_isEven_34 : decode cX9_isEven 34 = .ok (.iload_n 3, 1) := by decide +kernel
theorem dX9_isEven_35 : decode cX9_isEven 35 = .ok (.if_icmp .ne 7, 3) := by decide +kernel
theorem dX9_isEven_38 : decode cX9_isEven 38 = .ok (.iload 6, 2) := by decide +kernel
theorem dX9_isEven_40 : decode cX9_isEven 40 = .ok (.istore 5, 2) := by decide +kernel
theorem dX9_isEven_42 : decode cX9_isEven 42 = .ok (.iinc 6 1, 3) := by decide +kernel
theorem dX9_isEven_45 : decode cX9_isEven 45 = .ok (.goto (-27), 3) := by decide +kernel
theorem dX9_isEven_48 : decode cX9_isEven 48 = .ok (.iload 5, 2) := by decide +kernel
theorem dX9_isEven_50 : decode cX9_isEven 50 = .ok (.iconst (-1), 1) := by decide +kernel
theorem dX9_isEven_51 : decode cX9_isEven 51 = .ok (.if_icmp .eq 13, 3) := by decide +kernel
theorem dX9_isEven_54 : decode cX9_isEven 54 = .ok (.iload 5, 2) := by decide +kernel
theorem dX9_isEven_56 : decode cX9_isEven 56 = .ok (.iload_n 1, 1) := by decide +kernel
theorem dX9_isEven_57 : decode cX9_isEven 57 = .ok (.if_icmp .eq 7, 3) := by decide +kernel
theorem dX9_isEven_60 : decode cX9_isEven 60 = .ok (.iconst 1, 1) := by decide +kernel
theorem dX9_isEven_61 : decode cX9_isEven 61 = .ok (.goto 4, 3) := by decide +kernel
theorem dX9_isEven_64 : decode cX9_isEven 64 = .ok (.iconst 0, 1) := by decide +kernel
theorem dX9_isEven_65 : decode cX9_isEven 65 = .ok (.istore 4, 2) := by decide +kernel
theorem dX9_isEven_67 : decode cX9_isEven 67 = .ok (.iload 4, 2) := by decide +kernel
theorem dX9_isEven_69 : decode cX9_isEven 69 = .ok (.ifCond .eq 9, 3) := by decide +kernel
theorem dX9_isEven_72 : decode cX9_isEven 72 = .ok (.iload 5, 2) := by decide +kernel
theorem dX9_isEven_74 : decode cX9_isEven 74 = .ok (.istore_n 3, 1) := by decide +kernel
theorem dX9_isEven_75 : decode cX9_isEven 75 = .ok (.iinc 2 1, 3) := by decide +kernel
theorem dX9_isEven_78 : decode cX9_isEven 78 = .ok (.iload 5, 2) := by decide +kernel
theorem dX9_isEven_80 : decode cX9_isEven 80 = .ok (.iload_n 1, 1) := by decide +kernel
theorem dX9_isEven_81 : decode cX9_isEven 81 = .ok (.if_icmp .ne 5, 3) := by decide +kernel
theorem dX9_isEven_84 : decode cX9_isEven 84 = .ok (.iconst 1, 1) := by decide +kernel
theorem dX9_isEven_85 : decode cX9_isEven 85 = .ok (.ireturn, 1) := by decide +kernel
theorem dX9_isEven_86 : decode cX9_isEven 86 = .ok (.goto (-79), 3) := by decide +kernel
theorem dX9_isEven_89 : decode cX9_isEven 89 = .ok (.iconst 0, 1) := by decide +kernel
theorem dX9_isEven_90 : decode cX9_isEven 90 = .ok (.istore 5, 2) := by decide +kernel
theorem dX9_isEven_92 : decode cX9_isEven 92 = .ok (.iload_n 3, 1) := by decide +kernel
theorem dX9_isEven_93 : decode cX9_isEven 93 = .ok (.istore 6, 2) := by decide +kernel
theorem dX9_isEven_95 : decode cX9_isEven 95 = .ok (.iload 6, 2) := by decide +kernel
theorem dX9_isEven_97 : decode cX9_isEven 97 = .ok (.ifCond .lt 25, 3) := by decide +kernel
theorem dX9_isEven_100 : decode cX9_isEven 100 = .ok (.iload 5, 2) := by decide +kernel
theorem dX9_isEven_102 : decode cX9_isEven 102 = .ok (.bipush 9, 2) := by decide +kernel
theorem dX9_isEven_104 : decode cX9_isEven 104 = .ok (.if_icmp .gt 18, 3) := by decide +kernel
theorem dX9_isEven_107 : decode cX9_isEven 107 = .ok (.iinc 5 1, 3) := by decide +kernel
theorem dX9_isEven_110 : decode cX9_isEven 110 = .ok (.aload_n 0, 1) := by decide +kernel
theorem dX9_isEven_111 : decode cX9_isEven 111 = .ok (.getfield 82, 3) := by decide +kernel
theorem dX9_isEven_114 : decode cX9_isEven 114 = .ok (.iload 6, 2) := by decide +kernel
theorem dX9_isEven_116 : decode cX9_isEven 116 = .ok (.iaload, 1) := by decide +kernel
theorem dX9_isEven_117 : decode cX9_isEven 117 = .ok (.istore 6, 2) := by decide +kernel
theorem dX9_isEven_119 : decode cX9_isEven 119 = .ok (.goto (-24), 3) := by decide +kernel
theorem dX9_isEven_122 : decode cX9_isEven 122 = .ok (.iload 5, 2) := by decide +kernel
theorem dX9_isEven_124 : decode cX9_isEven 124 = .ok (.aload_n 0, 1) := by decide +kernel
theorem dX9_isEven_125 : decode cX9_isEven 125 = .ok (.getfield 219, 3) := by decide +kernel
theorem dX9_isEven_128 : decode cX9_isEven 128 = .ok (.if_icmp .gt 7, 3) := by decide +kernel
theorem dX9_isEven_131 : decode cX9_isEven 131 = .ok (.iconst 1, 1) := by decide +kernel
theorem dX9_isEven_132 : decode cX9_isEven 132 = .ok (.goto 4, 3) := by decide +kernel
theorem dX9_isEven_135 : decode cX9_isEven 135 = .ok (.iconst 0, 1) := by decide +kernel
theorem dX9_isEven_136 : decode cX9_isEven 136 = .ok (.ireturn, 1) := by decide +kernel
theorem dX9_rings_0 : decode cX9_rings 0 = .ok (.aload_n 0, 1) := by decide +kernel
theorem dX9_rings_1 : decode cX9_rings 1 = .ok (.iconst 0, 1) := by decide +kernel
theorem dX9_rings_2 : decode cX9_rings 2 = .ok (.putfield 1, 3) := by decide +kernel
theorem dX9_rings_5 : decode cX9_rings 5 = .ok (.iload_n 1, 1) := by decide +kernel
theorem dX9_rings_6 : decode cX9_rings 6 = .ok (.iconst 2, 1) := by decide +kernel
theorem dX9_rings_7 : decode cX9_rings 7 = .ok (.bipush 9, 2) := by decide +kernel
theorem dX9_rings_9 : decode cX9_rings 9 = .ok (.invokestatic 100, 3) := by decide +kernel
theorem dX9_rings_12 : decode cX9_rings 12 = .ok (.ifCond .ne 5, 3) := by decide +kernel
theorem dX9_rings_15 : decode cX9_rings 15 = .ok (.iconst (-1), 1) := by decide +kernel
theorem dX9_rings_16 : decode cX9_rings 16 = .ok (.ireturn, 1) := by decide +kernel
theorem dX9_rings_17 : decode cX9_rings 17 = .ok (.aload_n 0, 1) := by decide +kernel
theorem dX9_rings_18 : decode cX9_rings 18 = .ok (.iconst 0, 1) := by decide +kernel
theorem dX9_rings_19 : decode cX9_rings 19 = .ok (.putfield 222, 3) := by decide +kernel
theorem dX9_rings_22 : decode cX9_rings 22 = .ok (.aload_n 0, 1) := by decide +kernel
theorem dX9_rings_23 : decode cX9_rings 23 = .ok (.iload_n 1, 1) := by decide +kernel
theorem dX9_rings_24 : decode cX9_rings 24 = .ok (.putfield 219, 3) := by decide +kernel
theorem dX9_rings_27 : decode cX9_rings 27 = .ok (.iconst 0, 1) := by decide +kernel
theorem dX9_rings_28 : decode cX9_rings 28 = .ok (.istore_n 2, 1) := by decide +kernel
theorem dX9_rings_29 : decode cX9_rings 29 = .ok (.iconst 0, 1) := by decide +kernel
theorem dX9_rings_30 : decode cX9_rings 30 = .ok (.istore_n 3, 1) := by decide +kernel
theorem dX9_rings_31 : decode cX9_rings 31 = .ok (.iload_n 3, 1) := by decide +kernel
theorem dX9_rings_32 : decode cX9_rings 32 = .ok (.aload_n 0, 1) := by decide +kernel
theorem dX9_rings_33 : decode cX9_rings 33 = .ok (.getfield 203, 3) := by decide +kernel
theorem dX9_rings_36 : decode cX9_rings 36 = .ok (.if_icmp .ge 71, 3) := by decide +kernel
theorem dX9_rings_39 : decode cX9_rings 39 = .ok (.aload_n 0, 1) := by decide +kernel
theorem dX9_rings_40 : decode cX9_rings 40 = .ok (.getfield 67, 3) := by decide +kernel
theorem dX9_rings_43 : decode cX9_rings 43 = .ok (.iload_n 3, 1) := by decide +kernel
theorem dX9_rings_44 : decode cX9_rings 44 = .ok (.iaload, 1) := by decide +kernel
theorem dX9_rings_45 : decode cX9_rings 45 = .ok (.ifCond .eq 6, 3) := by decide +kernel
theorem dX9_rings_48 : decode cX9_rings 48 = .ok (.goto 53, 3) := by decide +kernel
theorem dX9_rings_51 : decode cX9_rings 51 = .ok (.aload_n 0, 1) := by decide +kernel
theorem dX9_rings_52 : decode cX9_rings 52 = .ok (.getfield 79, 3) := by decide +kernel
theorem dX9_rings_55 : decode cX9_rings 55 = .ok (.aload_n 0, 1) := by decide +kernel
theorem dX9_rings_56 : decode cX9_rings 56 = .ok (.getfield 222, 3) := by decide +kernel
theorem dX9_rings_59 : decode cX9_rings 59 = .ok (.iload_n 3, 1) := by decide +kernel
theorem dX9_rings_60 : decode cX9_rings 60 = .ok (.iastore, 1) := by decide +kernel
theorem dX9_rings_61 : decode cX9_rings 61 = .ok (.aload_n 0, 1) := by decide +kernel
theorem dX9_rings_62 : decode cX9_rings 62 = .ok (.getfield 82, 3) := by decide +kernel
theorem dX9_rings_65 : decode cX9_rings 65 = .ok (.aload_n 0, 1) := by decide +kernel
theorem dX9_rings_66 : decode cX9_rings 66 = .ok (.getfield 222, 3) := by decide +kernel
theorem dX9_rings_69 : decode cX9_rings 69 = .ok (.bipush (-2), 2) := by decide +kernel
theorem dX9_rings_71 : decode cX9_rings 71 = .ok (.iastore, 1) := by decide +kernel
theorem dX9_rings_72 : decode cX9_rings 72 = .ok (.aload_n 0, 1) := by decide +kernel
theorem dX9_rings_73 : decode cX9_rings 73 = .ok (.getfield 88, 3) := by decide +kernel
theorem dX9_rings_76 : decode cX9_rings 76 = .ok (.aload_n 0, 1) := by decide +kernel
theorem dX9_rings_77 : decode cX9_rings 77 = .ok (.getfield 222, 3) := by decide +kernel
theorem dX9_rings_80 : decode cX9_rings 80 = .ok (.iconst 0, 1) := by decide +kernel
theorem dX9_rings_81 : decode cX9_rings 81 = .ok (.bastore, 1) := by decide +kernel
theorem dX9_rings_82 : decode cX9_rings 82 = .ok (.iload_n 2, 1) := by decide +kernel
theorem dX9_rings_83 : decode cX9_rings 83 = .ok (.aload_n 0, 1) := by decide +kernel
theorem dX9_rings_84 : decode cX9_rings 84 = .ok (.getfield 64, 3) := by decide +kernel
theorem dX9_rings_87 : decode cX9_rings 87 = .ok (.iload_n 3, 1) := by decide +kernel
theorem dX9_rings_88 : decode cX9_rings 88 = .ok (.iaload, 1) := by decide +kernel
theorem dX9_rings_89 : decode cX9_rings 89 = .ok (.iadd, 1) := by decide +kernel
theorem dX9_rings_90 : decode cX9_rings 90 = .ok (.istore_n 2, 1) := by decide +kernel
theorem dX9_rings_91 : decode cX9_rings 91 = .ok (.aload_n 0, 1) := by decide +kernel
theorem dX9_rings_92 : decode cX9_rings 92 = .ok (.dup, 1) := by decide +kernel
theorem dX9_rings_93 : decode cX9_rings 93 = .ok (.getfield 222, 3) := by decide +kernel
theorem dX9_rings_96 : decode cX9_rings 96 = .ok (.iconst 1, 1) := by decide +kernel
theorem dX9_rings_97 : decode cX9_rings 97 = .ok (.iadd, 1) := by decide +kernel
theorem dX9_rings_98 : decode cX9_rings 98 = .ok (.putfield 222, 3) := by decide +kernel
theorem dX9_rings_101 : decode cX9_rings 101 = .ok (.iinc 3 1, 3) := by decide +kernel
theorem dX9_rings_104 : decode cX9_rings 104 = .ok (.goto (-73), 3) := by decide +kernel
theorem dX9_rings_107 : decode cX9_rings 107 = .ok (.aload_n 0, 1) := by decide +kernel
theorem dX9_rings_108 : decode cX9_rings 108 = .ok (.iconst (-1), 1) := by decide +kernel
theorem dX9_rings_109 : decode cX9_rings 109 = .ok (.putfield 225, 3) := by decide +kernel
theorem dX9_rings_112 : decode cX9_rings 112 = .ok (.aload_n 0, 1) := by decide +kernel
theorem dX9_rings_113 : decode cX9_rings 113 = .ok (.iconst (-1), 1) := by decide +kernel
theorem dX9_rings_114 : decode cX9_rings 114 = .ok (.putfield 228, 3) := by decide +kernel
theorem dX9_rings_117 : decode cX9_rings 117 = .ok (.aload_n 0, 1) := by decide +kernel
theorem dX9_rings_118 : decode cX9_rings 118 = .ok (.iconst 0, 1) := by decide +kernel
theorem dX9_rings_119 : decode cX9_rings 119 = .ok (.iconst 0, 1) := by decide +kernel
theorem dX9_rings_120 : decode cX9_rings 120 = .ok (.iconst 0, 1) := by decide +kernel
theorem dX9_rings_121 : decode cX9_rings 121 = .ok (.iload_n 2, 1) := by decide +kernel
theorem dX9_rings_122 : decode cX9_rings 122 = .ok (.invokevirtual 240, 3) := by decide +kernel
theorem dX9_rings_125 : decode cX9_rings 125 = .ok (.iconst 0, 1) := by decide +kernel
theorem dX9_rings_126 : decode cX9_rings 126 = .ok (.istore_n 3, 1) := by decide +kernel
theorem dX9_rings_127 : decode cX9_rings 127 = .ok (.iconst 0, 1) := by decide +kernel
theorem dX9_rings_128 : decode cX9_rings 128 = .ok (.istore 4, 2) := by decide +kernel
theorem dX9_rings_130 : decode cX9_rings 130 = .ok (.iload 4, 2) := by decide +kernel
theorem dX9_rings_132 : decode cX9_rings 132 = .ok (.aload_n 0, 1) := by decide +kernel
theorem dX9_rings_133 : decode cX9_rings 133 = .ok (.getfield 222, 3) := by decide +kernel
theorem dX9_rings_136 : decode cX9_rings 136 = .ok (.if_icmp .ge 80, 3) := by decide +kernel
theorem dX9_rings_139 : decode cX9_rings 139 = .ok (.aload_n 0, 1) := by decide +kernel
theorem dX9_rings_140 : decode cX9_rings 140 = .ok (.getfield 85, 3) := by decide +kernel
theorem dX9_rings_143 : decode cX9_rings 143 = .ok (.iload 4, 2) := by decide +kernel
theorem dX9_rings_145 : decode cX9_rings 145 = .ok (.iaload, 1) := by decide +kernel
theorem dX9_rings_146 : decode cX9_rings 146 = .ok (.iconst (-1), 1) := by decide +kernel
theorem dX9_rings_147 : decode cX9_rings 147 = .ok (.if_icmp .ne 6, 3) := by decide +kernel
theorem dX9_rings_150 : decode cX9_rings 150 = .ok (.goto 60, 3) := by decide +kernel
theorem dX9_rings_153 : decode cX9_rings 153 = .ok (.aload_n 0, 1) := by decide +kernel
theorem dX9_rings_154 : decode cX9_rings 154 = .ok (.getfield 79, 3) := by decide +kernel
theorem dX9_rings_157 : decode cX9_rings 157 = .ok (.iload 4, 2) := by decide +kernel
theorem dX9_rings_159 : decode cX9_rings 159 = .ok (.iaload, 1) := by decide +kernel
theorem dX9_rings_160 : decode cX9_rings 160 = .ok (.istore 5, 2) := by decide +kernel
theorem dX9_rings_162 : decode cX9_rings 162 = .ok (.aload_n 0, 1) := by decide +kernel
theorem dX9_rings_163 : decode cX9_rings 163 = .ok (.getfield 79, 3) := by decide +kernel
theorem dX9_rings_166 : decode cX9_rings 166 = .ok (.aload_n 0, 1) := by decide +kernel
theorem dX9_rings_167 : decode cX9_rings 167 = .ok (.getfield 85, 3) := by decide +kernel
theorem dX9_rings_170 : decode cX9_rings 170 = .ok (.iload 4, 2) := by decide +kernel
theorem dX9_rings_172 : decode cX9_rings 172 = .ok (.iaload, 1) := by decide +kernel
theorem dX9_rings_173 : decode cX9_rings 173 = .ok (.iaload, 1) := by decide +kernel
theorem dX9_rings_174 : decode cX9_rings 174 = .ok (.istore 6, 2) := by decide +kernel
theorem dX9_rings_176 : decode cX9_rings 176 = .ok (.aload_n 0, 1) := by decide +kernel
theorem dX9_rings_177 : decode cX9_rings 177 = .ok (.getfield 70, 3) := by decide +kernel
theorem dX9_rings_180 : decode cX9_rings 180 = .ok (.iload 5, 2) := by decide +kernel
theorem dX9_rings_182 : decode cX9_rings 182 = .ok (.iload 6, 2) := by decide +kernel
theorem dX9_rings_184 : decode cX9_rings 184 = .ok (.iastore, 1) := by decide +kernel
theorem dX9_rings_185 : decode cX9_rings 185 = .ok (.aload_n 0, 1) := by decide +kernel
theorem dX9_rings_186 : decode cX9_rings 186 = .ok (.getfield 73, 3) := by decide +kernel
theorem dX9_rings_189 : decode cX9_rings 189 = .ok (.iload 6, 2) := by decide +kernel
theorem dX9_rings_191 : decode cX9_rings 191 = .ok (.aload_n 0, 1) := by decide +kernel
theorem dX9_rings_192 : decode cX9_rings 192 = .ok (.getfield 52, 3) := by decide +kernel
theorem dX9_rings_195 : decode cX9_rings 195 = .ok (.iload 5, 2) := by decide +kernel
theorem dX9_rings_197 : decode cX9_rings 197 = .ok (.iaload, 1) := by decide +kernel
theorem dX9_rings_198 : decode cX9_rings 198 = .ok (.iastore, 1) := by decide +kernel
theorem dX9_rings_199 : decode cX9_rings 199 = .ok (.aload_n 0, 1) := by decide +kernel
theorem dX9_rings_200 : decode cX9_rings 200 = .ok (.getfield 67, 3) := by decide +kernel
theorem dX9_rings_203 : decode cX9_rings 203 = .ok (.iload 5, 2) := by decide +kernel
theorem dX9_rings_205 : decode cX9_rings 205 = .ok (.iconst 1, 1) := by decide +kernel
theorem dX9_rings_206 : decode cX9_rings 206 = .ok (.iastore, 1) := by decide +kernel
theorem dX9_rings_207 : decode cX9_rings 207 = .ok (.iinc 3 1, 3) := by decide +kernel
theorem dX9_rings_210 : decode cX9_rings 210 = .ok (.iinc 4 1, 3) := by decide +kernel
theorem dX9_rings_213 : decode cX9_rings 213 = .ok (.goto (-83), 3) := by decide +kernel
theorem dX9_rings_216 : decode cX9_rings 216 = .ok (.iload_n 3, 1) := by decide +kernel
theorem dX9_rings_217 : decode cX9_rings 217 = .ok (.ireturn, 1) := by decide +kernel
theorem dX9_bank_0 : decode cX9_bank 0 = .ok (.aload_n 0, 1) := by decide +kernel
theorem dX9_bank_1 : decode cX9_bank 1 = .ok (.iconst 0, 1) := by decide +kernel
theorem dX9_bank_2 : decode cX9_bank 2 = .ok (.putfield 1, 3) := by decide +kernel
theorem dX9_bank_5 : decode cX9_bank 5 = .ok (.aload_n 0, 1) := by decide +kernel
theorem dX9_bank_6 : decode cX9_bank 6 = .ok (.iload_n 1, 1) := by decide +kernel
theorem dX9_bank_7 : decode cX9_bank 7 = .ok (.iconst 0, 1) := by decide +kernel
theorem dX9_bank_8 : decode cX9_bank 8 = .ok (.invokevirtual 212, 3) := by decide +kernel
theorem dX9_bank_11 : decode cX9_bank 11 = .ok (.ifCond .ne 5, 3) := by decide +kernel
theorem dX9_bank_14 : decode cX9_bank 14 = .ok (.iconst (-1), 1) := by decide +kernel
theorem dX9_bank_15 : decode cX9_bank 15 = .ok (.ireturn, 1) := by decide +kernel
theorem dX9_bank_16 : decode cX9_bank 16 = .ok (.aload_n 0, 1) := by decide +kernel
theorem dX9_bank_17 : decode cX9_bank 17 = .ok (.getfield 67, 3) := by decide +kernel
theorem dX9_bank_20 : decode cX9_bank 20 = .ok (.iload_n 1, 1) := by decide +kernel
theorem dX9_bank_21 : decode cX9_bank 21 = .ok (.iconst 2, 1) := by decide +kernel
theorem dX9_bank_22 : decode cX9_bank 22 = .ok (.iastore, 1) := by decide +kernel
theorem dX9_bank_23 : decode cX9_bank 23 = .ok (.aload_n 0, 1) := by decide +kernel
theorem dX9_bank_24 : decode cX9_bank 24 = .ok (.getfield 23, 3) := by decide +kernel
theorem dX9_bank_27 : decode cX9_bank 27 = .ok (.aload_n 0, 1) := by decide +kernel
theorem dX9_bank_28 : decode cX9_bank 28 = .ok (.getfield 52, 3) := by decide +kernel
theorem dX9_bank_31 : decode cX9_bank 31 = .ok (.iload_n 1, 1) := by decide +kernel
theorem dX9_bank_32 : decode cX9_bank 32 = .ok (.iaload, 1) := by decide +kernel
theorem dX9_bank_33 : decode cX9_bank 33 = .ok (.dup2, 1) := by decide +kernel
theorem dX9_bank_34 : decode cX9_bank 34 = .ok (.iaload, 1) := by decide +kernel
theorem dX9_bank_35 : decode cX9_bank 35 = .ok (.aload_n 0, 1) := by decide +kernel
theorem dX9_bank_36 : decode cX9_bank 36 = .ok (.getfield 64, 3) := by decide +kernel
theorem dX9_bank_39 : decode cX9_bank 39 = .ok (.iload_n 1, 1) := by decide +kernel
theorem dX9_bank_40 : decode cX9_bank 40 = .ok (.iaload, 1) := by decide +kernel
theorem dX9_bank_41 : decode cX9_bank 41 = .ok (.iadd, 1) := by decide +kernel
theorem dX9_bank_42 : decode cX9_bank 42 = .ok (.iastore, 1) := by decide +kernel
theorem dX9_bank_43 : decode cX9_bank 43 = .ok (.aload_n 0, 1) := by decide +kernel
theorem dX9_bank_44 : decode cX9_bank 44 = .ok (.getfield 23, 3) := by decide +kernel
theorem dX9_bank_47 : decode cX9_bank 47 = .ok (.aload_n 0, 1) := by decide +kernel
theorem dX9_bank_48 : decode cX9_bank 48 = .ok (.getfield 52, 3) := by decide +kernel
theorem dX9_bank_51 : decode cX9_bank 51 = .ok (.iload_n 1, 1) := by decide +kernel
theorem dX9_bank_52 : decode cX9_bank 52 = .ok (.iaload, 1) := by decide +kernel
theorem dX9_bank_53 : decode cX9_bank 53 = .ok (.iaload, 1) := by decide +kernel
theorem dX9_bank_54 : decode cX9_bank 54 = .ok (.ireturn, 1) := by decide +kernel
theorem dX9_goesTo_0 : decode cX9_goesTo 0 = .ok (.aload_n 0, 1) := by decide +kernel
theorem dX9_goesTo_1 : decode cX9_goesTo 1 = .ok (.getfield 67, 3) := by decide +kernel
theorem dX9_goesTo_4 : decode cX9_goesTo 4 = .ok (.iload_n 1, 1) := by decide +kernel
theorem dX9_goesTo_5 : decode cX9_goesTo 5 = .ok (.iconst 3, 1) := by decide +kernel
theorem dX9_goesTo_6 : decode cX9_goesTo 6 = .ok (.iastore, 1) := by decide +kernel
theorem dX9_goesTo_7 : decode cX9_goesTo 7 = .ok (.aload_n 0, 1) := by decide +kernel
theorem dX9_goesTo_8 : decode cX9_goesTo 8 = .ok (.getfield 73, 3) := by decide +kernel
theorem dX9_goesTo_11 : decode cX9_goesTo 11 = .ok (.iload_n 1, 1) := by decide +kernel
theorem dX9_goesTo_12 : decode cX9_goesTo 12 = .ok (.iload_n 2, 1) := by decide +kernel
theorem dX9_goesTo_13 : decode cX9_goesTo 13 = .ok (.iastore, 1) := by decide +kernel
theorem dX9_goesTo_14 : decode cX9_goesTo 14 = .ok (.aload_n 0, 1) := by decide +kernel
theorem dX9_goesTo_15 : decode cX9_goesTo 15 = .ok (.getfield 23, 3) := by decide +kernel
theorem dX9_goesTo_18 : decode cX9_goesTo 18 = .ok (.iload_n 2, 1) := by decide +kernel
theorem dX9_goesTo_19 : decode cX9_goesTo 19 = .ok (.dup2, 1) := by decide +kernel
theorem dX9_goesTo_20 : decode cX9_goesTo 20 = .ok (.iaload, 1) := by decide +kernel
theorem dX9_goesTo_21 : decode cX9_goesTo 21 = .ok (.aload_n 0, 1) := by decide +kernel
theorem dX9_goesTo_22 : decode cX9_goesTo 22 = .ok (.getfield 64, 3) := by decide +kernel
theorem dX9_goesTo_25 : decode cX9_goesTo 25 = .ok (.iload_n 1, 1) := by decide +kernel
theorem dX9_goesTo_26 : decode cX9_goesTo 26 = .ok (.iaload, 1) := by decide +kernel
theorem dX9_goesTo_27 : decode cX9_goesTo 27 = .ok (.isub, 1) := by decide +kernel
theorem dX9_goesTo_28 : decode cX9_goesTo 28 = .ok (.iastore, 1) := by decide +kernel
theorem dX9_goesTo_29 : decode cX9_goesTo 29 = .ok (.return_, 1) := by decide +kernel
theorem dX9_take_0 : decode cX9_take 0 = .ok (.aload_n 0, 1) := by decide +kernel
theorem dX9_take_1 : decode cX9_take 1 = .ok (.iconst 0, 1) := by decide +kernel
theorem dX9_take_2 : decode cX9_take 2 = .ok (.putfield 1, 3) := by decide +kernel
theorem dX9_take_5 : decode cX9_take 5 = .ok (.aload_n 0, 1) := by decide +kernel
theorem dX9_take_6 : decode cX9_take 6 = .ok (.iload_n 1, 1) := by decide +kernel
theorem dX9_take_7 : decode cX9_take 7 = .ok (.invokevirtual 114, 3) := by decide +kernel
theorem dX9_take_10 : decode cX9_take 10 = .ok (.ifCond .eq 12, 3) := by decide +kernel
theorem dX9_take_13 : decode cX9_take 13 = .ok (.aload_n 0, 1) := by decide +kernel
theorem dX9_take_14 : decode cX9_take 14 = .ok (.iload_n 2, 1) := by decide +kernel
theorem dX9_take_15 : decode cX9_take 15 = .ok (.iconst 2, 1) := by decide +kernel
theorem dX9_take_16 : decode cX9_take 16 = .ok (.invokevirtual 212, 3) := by decide +kernel
theorem dX9_take_19 : decode cX9_take 19 = .ok (.ifCond .ne 5, 3) := by decide +kernel
theorem dX9_take_22 : decode cX9_take 22 = .ok (.iconst (-1), 1) := by decide +kernel
theorem dX9_take_23 : decode cX9_take 23 = .ok (.ireturn, 1) := by decide +kernel
theorem dX9_take_24 : decode cX9_take 24 = .ok (.aload_n 0, 1) := by decide +kernel
theorem dX9_take_25 : decode cX9_take 25 = .ok (.getfield 23, 3) := by decide +kernel
theorem dX9_take_28 : decode cX9_take 28 = .ok (.iload_n 1, 1) := by decide +kernel
theorem dX9_take_29 : decode cX9_take 29 = .ok (.iaload, 1) := by decide +kernel
theorem dX9_take_30 : decode cX9_take 30 = .ok (.aload_n 0, 1) := by decide +kernel
theorem dX9_take_31 : decode cX9_take 31 = .ok (.getfield 64, 3) := by decide +kernel
theorem dX9_take_34 : decode cX9_take 34 = .ok (.iload_n 2, 1) := by decide +kernel
theorem dX9_take_35 : decode cX9_take 35 = .ok (.iaload, 1) := by decide +kernel
theorem dX9_take_36 : decode cX9_take 36 = .ok (.if_icmp .ge 6, 3) := by decide +kernel
theorem dX9_take_39 : decode cX9_take 39 = .ok (.bipush (-2), 2) := by decide +kernel
theorem dX9_take_41 : decode cX9_take 41 = .ok (.ireturn, 1) := by decide +kernel
theorem dX9_take_42 : decode cX9_take 42 = .ok (.aload_n 0, 1) := by decide +kernel
theorem dX9_take_43 : decode cX9_take 43 = .ok (.iload_n 2, 1) := by decide +kernel
theorem dX9_take_44 : decode cX9_take 44 = .ok (.iload_n 1, 1) := by decide +kernel
theorem dX9_take_45 : decode cX9_take 45 = .ok (.invokevirtual 244, 3) := by decide +kernel
theorem dX9_take_48 : decode cX9_take 48 = .ok (.aload_n 0, 1) := by decide +kernel
theorem dX9_take_49 : decode cX9_take 49 = .ok (.getfield 23, 3) := by decide +kernel
theorem dX9_take_52 : decode cX9_take 52 = .ok (.iload_n 1, 1) := by decide +kernel
theorem dX9_take_53 : decode cX9_take 53 = .ok (.iaload, 1) := by decide +kernel
theorem dX9_take_54 : decode cX9_take 54 = .ok (.ireturn, 1) := by decide +kernel
theorem dX9_nextInRush_0 : decode cX9_nextInRush 0 = .ok (.iconst (-1), 1) := by decide +kernel
theorem dX9_nextInRush_1 : decode cX9_nextInRush 1 = .ok (.istore_n 1, 1) := by decide +kernel
theorem dX9_nextInRush_2 : decode cX9_nextInRush 2 = .ok (.iconst 0, 1) := by decide +kernel
theorem dX9_nextInRush_3 : decode cX9_nextInRush 3 = .ok (.istore_n 2, 1) := by decide +kernel
theorem dX9_nextInRush_4 : decode cX9_nextInRush 4 = .ok (.iload_n 2, 1) := by decide +kernel
theorem dX9_nextInRush_5 : decode cX9_nextInRush 5 = .ok (.aload_n 0, 1) := by decide +kernel
theorem dX9_nextInRush_6 : decode cX9_nextInRush 6 = .ok (.getfield 107, 3) := by decide +kernel
theorem dX9_nextInRush_9 : decode cX9_nextInRush 9 = .ok (.if_icmp .ge 69, 3) := by decide +kernel
theorem dX9_nextInRush_12 : decode cX9_nextInRush 12 = .ok (.aload_n 0, 1) := by decide +kernel
theorem dX9_nextInRush_13 : decode cX9_nextInRush 13 = .ok (.getfield 91, 3) := by decide +kernel
theorem dX9_nextInRush_16 : decode cX9_nextInRush 16 = .ok (.iload_n 2, 1) := by decide +kernel
theorem dX9_nextInRush_17 : decode cX9_nextInRush 17 = .ok (.baload, 1) := by decide +kernel
theorem dX9_nextInRush_18 : decode cX9_nextInRush 18 = .ok (.ifCond .ne 54, 3) := by decide +kernel
theorem dX9_nextInRush_21 : decode cX9_nextInRush 21 = .ok (.aload_n 0, 1) := by decide +kernel
theorem dX9_nextInRush_22 : decode cX9_nextInRush 22 = .ok (.getfield 29, 3) := by decide +kernel
theorem dX9_nextInRush_25 : decode cX9_nextInRush 25 = .ok (.iload_n 2, 1) := by decide +kernel
theorem dX9_nextInRush_26 : decode cX9_nextInRush 26 = .ok (.baload, 1) := by decide +kernel
theorem dX9_nextInRush_27 : decode cX9_nextInRush 27 = .ok (.ifCond .ne 45, 3) := by decide +kernel
theorem dX9_nextInRush_30 : decode cX9_nextInRush 30 = .ok (.aload_n 0, 1) := by decide +kernel
theorem dX9_nextInRush_31 : decode cX9_nextInRush 31 = .ok (.getfield 76, 3) := by decide +kernel
theorem dX9_nextInRush_34 : decode cX9_nextInRush 34 = .ok (.iconst 4, 1) := by decide +kernel
theorem dX9_nextInRush_35 : decode cX9_nextInRush 35 = .ok (.sipush 200, 3) := by decide +kernel
theorem dX9_nextInRush_38 : decode cX9_nextInRush 38 = .ok (.iload_n 2, 1) := by decide +kernel
theorem dX9_nextInRush_39 : decode cX9_nextInRush 39 = .ok (.iadd, 1) := by decide +kernel
theorem dX9_nextInRush_40 : decode cX9_nextInRush 40 = .ok (.imul, 1) := by decide +kernel
theorem dX9_nextInRush_41 : decode cX9_nextInRush 41 = .ok (.iconst 3, 1) := by decide +kernel
theorem dX9_nextInRush_42 : decode cX9_nextInRush 42 = .ok (.iadd, 1) := by decide +kernel
theorem dX9_nextInRush_43 : decode cX9_nextInRush 43 = .ok (.iaload, 1) := by decide +kernel
theorem dX9_nextInRush_44 : decode cX9_nextInRush 44 = .ok (.ifCond .ne 6, 3) := by decide +kernel
theorem dX9_nextInRush_47 : decode cX9_nextInRush 47 = .ok (.goto 25, 3) := by decide +kernel
theorem dX9_nextInRush_50 : decode cX9_nextInRush 50 = .ok (.iload_n 1, 1) := by decide +kernel
theorem dX9_nextInRush_51 : decode cX9_nextInRush 51 = .ok (.iconst (-1), 1) := by decide +kernel
theorem dX9_nextInRush_52 : decode cX9_nextInRush 52 = .ok (.if_icmp .eq 18, 3) := by decide +kernel
theorem dX9_nextInRush_55 : decode cX9_nextInRush 55 = .ok (.aload_n 0, 1) := by decide +kernel
theorem dX9_nextInRush_56 : decode cX9_nextInRush 56 = .ok (.getfield 94, 3) := by decide +kernel
theorem dX9_nextInRush_59 : decode cX9_nextInRush 59 = .ok (.iload_n 2, 1) := by decide +kernel
theorem dX9_nextInRush_60 : decode cX9_nextInRush 60 = .ok (.iaload, 1) := by decide +kernel
theorem dX9_nextInRush_61 : decode cX9_nextInRush 61 = .ok (.aload_n 0, 1) := by decide +kernel
theorem dX9_nextInRush_62 : decode cX9_nextInRush 62 = .ok (.getfield 94, 3) := by decide +kernel
theorem dX9_nextInRush_65 : decode cX9_nextInRush 65 = .ok (.iload_n 1, 1) := by decide +kernel
theorem dX9_nextInRush_66 : decode cX9_nextInRush 66 = .ok (.iaload, 1) := by decide +kernel
theorem dX9_nextInRush_67 : decode cX9_nextInRush 67 = .ok (.if_icmp .ge 5, 3) := by decide +kernel
theorem dX9_nextInRush_70 : decode cX9_nextInRush 70 = .ok (.iload_n 2, 1) := by decide +kernel
theorem dX9_nextInRush_71 : decode cX9_nextInRush 71 = .ok (.istore_n 1, 1) := by decide +kernel
theorem dX9_nextInRush_72 : decode cX9_nextInRush 72 = .ok (.iinc 2 1, 3) := by decide +kernel
theorem dX9_nextInRush_75 : decode cX9_nextInRush 75 = .ok (.goto (-71), 3) := by decide +kernel
theorem dX9_nextInRush_78 : decode cX9_nextInRush 78 = .ok (.iload_n 1, 1) := by decide +kernel
theorem dX9_nextInRush_79 : decode cX9_nextInRush 79 = .ok (.ireturn, 1) := by decide +kernel
theorem dX9_rush_0 : decode cX9_rush 0 = .ok (.aload_n 0, 1) := by decide +kernel
theorem dX9_rush_1 : decode cX9_rush 1 = .ok (.iconst 0, 1) := by decide +kernel
theorem dX9_rush_2 : decode cX9_rush 2 = .ok (.putfield 1, 3) := by decide +kernel
theorem dX9_rush_5 : decode cX9_rush 5 = .ok (.iconst 0, 1) := by decide +kernel
theorem dX9_rush_6 : decode cX9_rush 6 = .ok (.istore_n 1, 1) := by decide +kernel
theorem dX9_rush_7 : decode cX9_rush 7 = .ok (.iload_n 1, 1) := by decide +kernel
theorem dX9_rush_8 : decode cX9_rush 8 = .ok (.aload_n 0, 1) := by decide +kernel
theorem dX9_rush_9 : decode cX9_rush 9 = .ok (.getfield 107, 3) := by decide +kernel
theorem dX9_rush_12 : decode cX9_rush 12 = .ok (.if_icmp .ge 28, 3) := by decide +kernel
theorem dX9_rush_15 : decode cX9_rush 15 = .ok (.aload_n 0, 1) := by decide +kernel
theorem dX9_rush_16 : decode cX9_rush 16 = .ok (.getfield 91, 3) := by decide +kernel
theorem dX9_rush_19 : decode cX9_rush 19 = .ok (.iload_n 1, 1) := by decide +kernel
theorem dX9_rush_20 : decode cX9_rush 20 = .ok (.iconst 0, 1) := by decide +kernel
theorem dX9_rush_21 : decode cX9_rush 21 = .ok (.bastore, 1) := by decide +kernel
theorem dX9_rush_22 : decode cX9_rush 22 = .ok (.aload_n 0, 1) := by decide +kernel
theorem dX9_rush_23 : decode cX9_rush 23 = .ok (.getfield 94, 3) := by decide +kernel
theorem dX9_rush_26 : decode cX9_rush 26 = .ok (.iload_n 1, 1) := by decide +kernel
theorem dX9_rush_27 : decode cX9_rush 27 = .ok (.aload_n 0, 1) := by decide +kernel
theorem dX9_rush_28 : decode cX9_rush 28 = .ok (.getfield 26, 3) := by decide +kernel
theorem dX9_rush_31 : decode cX9_rush 31 = .ok (.iload_n 1, 1) := by decide +kernel
theorem dX9_rush_32 : decode cX9_rush 32 = .ok (.iaload, 1) := by decide +kernel
theorem dX9_rush_33 : decode cX9_rush 33 = .ok (.iastore, 1) := by decide +kernel
theorem dX9_rush_34 : decode cX9_rush 34 = .ok (.iinc 1 1, 3) := by decide +kernel
theorem dX9_rush_37 : decode cX9_rush 37 = .ok (.goto (-30), 3) := by decide +kernel
theorem dX9_rush_40 : decode cX9_rush 40 = .ok (.iconst 0, 1) := by decide +kernel
theorem dX9_rush_41 : decode cX9_rush 41 = .ok (.istore_n 1, 1) := by decide +kernel
theorem dX9_rush_42 : decode cX9_rush 42 = .ok (.aload_n 0, 1) := by decide +kernel
theorem dX9_rush_43 : decode cX9_rush 43 = .ok (.invokevirtual 248, 3) := by decide +kernel
theorem dX9_rush_46 : decode cX9_rush 46 = .ok (.istore_n 2, 1) := by decide +kernel
theorem dX9_rush_47 : decode cX9_rush 47 = .ok (.iload_n 2, 1) := by decide +kernel
theorem dX9_rush_48 : decode cX9_rush 48 = .ok (.iconst (-1), 1) := by decide +kernel
theorem dX9_rush_49 : decode cX9_rush 49 = .ok (.if_icmp .eq 150, 3) := by decide +kernel
theorem dX9_rush_52 : decode cX9_rush 52 = .ok (.aload_n 0, 1) := by decide +kernel
theorem dX9_rush_53 : decode cX9_rush 53 = .ok (.getfield 91, 3) := by decide +kernel
theorem dX9_rush_56 : decode cX9_rush 56 = .ok (.iload_n 2, 1) := by decide +kernel
theorem dX9_rush_57 : decode cX9_rush 57 = .ok (.iconst 1, 1) := by decide +kernel
theorem dX9_rush_58 : decode cX9_rush 58 = .ok (.bastore, 1) := by decide +kernel
theorem dX9_rush_59 : decode cX9_rush 59 = .ok (.iconst (-1), 1) := by decide +kernel
theorem dX9_rush_60 : decode cX9_rush 60 = .ok (.istore_n 3, 1) := by decide +kernel
theorem dX9_rush_61 : decode cX9_rush 61 = .ok (.iconst 0, 1) := by decide +kernel
theorem dX9_rush_62 : decode cX9_rush 62 = .ok (.istore 4, 2) := by decide +kernel
theorem dX9_rush_64 : decode cX9_rush 64 = .ok (.iload 4, 2) := by decide +kernel
theorem dX9_rush_66 : decode cX9_rush 66 = .ok (.aload_n 0, 1) := by decide +kernel
theorem dX9_rush_67 : decode cX9_rush 67 = .ok (.getfield 203, 3) := by decide +kernel
theorem dX9_rush_70 : decode cX9_rush 70 = .ok (.if_icmp .ge 77, 3) := by decide +kernel
theorem dX9_rush_73 : decode cX9_rush 73 = .ok (.aload_n 0, 1) := by decide +kernel
theorem dX9_rush_74 : decode cX9_rush 74 = .ok (.getfield 67, 3) := by decide +kernel
theorem dX9_rush_77 : decode cX9_rush 77 = .ok (.iload 4, 2) := by decide +kernel
theorem dX9_rush_79 : decode cX9_rush 79 = .ok (.iaload, 1) := by decide +kernel
theorem dX9_rush_80 : decode cX9_rush 80 = .ok (.iconst 2, 1) := by decide +kernel
theorem dX9_rush_81 : decode cX9_rush 81 = .ok (.if_icmp .ne 60, 3) := by decide +kernel
theorem dX9_rush_84 : decode cX9_rush 84 = .ok (.aload_n 0, 1) := by decide +kernel
theorem dX9_rush_85 : decode cX9_rush 85 = .ok (.iload 4, 2) := by decide +kernel
theorem dX9_rush_87 : decode cX9_rush 87 = .ok (.sipush 200, 3) := by decide +kernel
theorem dX9_rush_90 : decode cX9_rush 90 = .ok (.iload_n 2, 1) := by decide +kernel
theorem dX9_rush_91 : decode cX9_rush 91 = .ok (.iadd, 1) := by decide +kernel
theorem dX9_rush_92 : decode cX9_rush 92 = .ok (.invokevirtual 231, 3) := by decide +kernel
theorem dX9_rush_95 : decode cX9_rush 95 = .ok (.ifCond .eq 46, 3) := by decide +kernel
theorem dX9_rush_98 : decode cX9_rush 98 = .ok (.aload_n 0, 1) := by decide +kernel
theorem dX9_rush_99 : decode cX9_rush 99 = .ok (.getfield 64, 3) := by decide +kernel
theorem dX9_rush_102 : decode cX9_rush 102 = .ok (.iload 4, 2) := by decide +kernel
theorem dX9_rush_104 : decode cX9_rush 104 = .ok (.iaload, 1) := by decide +kernel
theorem dX9_rush_105 : decode cX9_rush 105 = .ok (.aload_n 0, 1) := by decide +kernel
theorem dX9_rush_106 : decode cX9_rush 106 = .ok (.getfield 23, 3) := by decide +kernel
theorem dX9_rush_109 : decode cX9_rush 109 = .ok (.iload_n 2, 1) := by decide +kernel
theorem dX9_rush_110 : decode cX9_rush 110 = .ok (.iaload, 1) := by decide +kernel
theorem dX9_rush_111 : decode cX9_rush 111 = .ok (.if_icmp .le 6, 3) := by decide +kernel
theorem dX9_rush_114 : decode cX9_rush 114 = .ok (.goto 27, 3) := by decide +kernel
theorem dX9_rush_117 : decode cX9_rush 117 = .ok (.iload_n 3, 1) := by decide +kernel
theorem dX9_rush_118 : decode cX9_rush 118 = .ok (.iconst (-1), 1) := by decide +kernel
theorem dX9_rush_119 : decode cX9_rush 119 = .ok (.if_icmp .eq 19, 3) := by decide +kernel
theorem dX9_rush_122 : decode cX9_rush 122 = .ok (.aload_n 0, 1) := by decide +kernel
theorem dX9_rush_123 : decode cX9_rush 123 = .ok (.getfield 64, 3) := by decide +kernel
theorem dX9_rush_126 : decode cX9_rush 126 = .ok (.iload 4, 2) := by decide +kernel
theorem dX9_rush_128 : decode cX9_rush 128 = .ok (.iaload, 1) := by decide +kernel
theorem dX9_rush_129 : decode cX9_rush 129 = .ok (.aload_n 0, 1) := by decide +kernel
theorem dX9_rush_130 : decode cX9_rush 130 = .ok (.getfield 64, 3) := by decide +kernel
theorem dX9_rush_133 : decode cX9_rush 133 = .ok (.iload_n 3, 1) := by decide +kernel
theorem dX9_rush_134 : decode cX9_rush 134 = .ok (.iaload, 1) := by decide +kernel
theorem dX9_rush_135 : decode cX9_rush 135 = .ok (.if_icmp .le 6, 3) := by decide +kernel
theorem dX9_rush_138 : decode cX9_rush 138 = .ok (.iload 4, 2) := by decide +kernel
theorem dX9_rush_140 : decode cX9_rush 140 = .ok (.istore_n 3, 1) := by decide +kernel
theorem dX9_rush_141 : decode cX9_rush 141 = .ok (.iinc 4 1, 3) := by decide +kernel
theorem dX9_rush_144 : decode cX9_rush 144 = .ok (.goto (-80), 3) := by decide +kernel
theorem dX9_rush_147 : decode cX9_rush 147 = .ok (.iload_n 3, 1) := by decide +kernel
theorem dX9_rush_148 : decode cX9_rush 148 = .ok (.iconst (-1), 1) := by decide +kernel
theorem dX9_rush_149 : decode cX9_rush 149 = .ok (.if_icmp .eq 42, 3) := by decide +kernel
theorem dX9_rush_152 : decode cX9_rush 152 = .ok (.aload_n 0, 1) := by decide +kernel
theorem dX9_rush_153 : decode cX9_rush 153 = .ok (.iload_n 3, 1) := by decide +kernel
theorem dX9_rush_154 : decode cX9_rush 154 = .ok (.iload_n 2, 1) := by decide +kernel
theorem dX9_rush_155 : decode cX9_rush 155 = .ok (.invokevirtual 244, 3) := by decide +kernel
theorem dX9_rush_158 : decode cX9_rush 158 = .ok (.aload_n 0, 1) := by decide +kernel
theorem dX9_rush_159 : decode cX9_rush 159 = .ok (.getfield 26, 3) := by decide +kernel
theorem dX9_rush_162 : decode cX9_rush 162 = .ok (.iload_n 2, 1) := by decide +kernel
theorem dX9_rush_163 : decode cX9_rush 163 = .ok (.dup2, 1) := by decide +kernel
theorem dX9_rush_164 : decode cX9_rush 164 = .ok (.iaload, 1) := by decide +kernel
theorem dX9_rush_165 : decode cX9_rush 165 = .ok (.aload_n 0, 1) := by decide +kernel
theorem dX9_rush_166 : decode cX9_rush 166 = .ok (.getfield 64, 3) := by decide +kernel
theorem dX9_rush_169 : decode cX9_rush 169 = .ok (.iload_n 3, 1) := by decide +kernel
theorem dX9_rush_170 : decode cX9_rush 170 = .ok (.iaload, 1) := by decide +kernel
theorem dX9_rush_171 : decode cX9_rush 171 = .ok (.iadd, 1) := by decide +kernel
theorem dX9_rush_172 : decode cX9_rush 172 = .ok (.iastore, 1) := by decide +kernel
theorem dX9_rush_173 : decode cX9_rush 173 = .ok (.aload_n 0, 1) := by decide +kernel
theorem dX9_rush_174 : decode cX9_rush 174 = .ok (.getfield 76, 3) := by decide +kernel
theorem dX9_rush_177 : decode cX9_rush 177 = .ok (.iconst 4, 1) := by decide +kernel
theorem dX9_rush_178 : decode cX9_rush 178 = .ok (.sipush 200, 3) := by decide +kernel
theorem dX9_rush_181 : decode cX9_rush 181 = .ok (.iload_n 2, 1) := by decide +kernel
theorem dX9_rush_182 : decode cX9_rush 182 = .ok (.iadd, 1) := by decide +kernel
theorem dX9_rush_183 : decode cX9_rush 183 = .ok (.imul, 1) := by decide +kernel
theorem dX9_rush_184 : decode cX9_rush 184 = .ok (.iconst 3, 1) := by decide +kernel
theorem dX9_rush_185 : decode cX9_rush 185 = .ok (.iadd, 1) := by decide +kernel
theorem dX9_rush_186 : decode cX9_rush 186 = .ok (.iconst 0, 1) := by decide +kernel
theorem dX9_rush_187 : decode cX9_rush 187 = .ok (.iastore, 1) := by decide +kernel
theorem dX9_rush_188 : decode cX9_rush 188 = .ok (.iinc 1 1, 3) := by decide +kernel
theorem dX9_rush_191 : decode cX9_rush 191 = .ok (.aload_n 0, 1) := by decide +kernel
theorem dX9_rush_192 : decode cX9_rush 192 = .ok (.invokevirtual 248, 3) := by decide +kernel
theorem dX9_rush_195 : decode cX9_rush 195 = .ok (.istore_n 2, 1) := by decide +kernel
theorem dX9_rush_196 : decode cX9_rush 196 = .ok (.goto (-149), 3) := by decide +kernel
theorem dX9_rush_199 : decode cX9_rush 199 = .ok (.iload_n 1, 1) := by decide +kernel
theorem dX9_rush_200 : decode cX9_rush 200 = .ok (.ireturn, 1) := by decide +kernel
theorem dX9_shut_0 : decode cX9_shut 0 = .ok (.aload_n 0, 1) := by decide +kernel
theorem dX9_shut_1 : decode cX9_shut 1 = .ok (.iconst 0, 1) := by decide +kernel
theorem dX9_shut_2 : decode cX9_shut 2 = .ok (.putfield 1, 3) := by decide +kernel
theorem dX9_shut_5 : decode cX9_shut 5 = .ok (.aload_n 0, 1) := by decide +kernel
theorem dX9_shut_6 : decode cX9_shut 6 = .ok (.iload_n 1, 1) := by decide +kernel
theorem dX9_shut_7 : decode cX9_shut 7 = .ok (.iload_n 2, 1) := by decide +kernel
theorem dX9_shut_8 : decode cX9_shut 8 = .ok (.invokevirtual 110, 3) := by decide +kernel
theorem dX9_shut_11 : decode cX9_shut 11 = .ok (.ifCond .eq 25, 3) := by decide +kernel
theorem dX9_shut_14 : decode cX9_shut 14 = .ok (.aload_n 0, 1) := by decide +kernel
theorem dX9_shut_15 : decode cX9_shut 15 = .ok (.iload_n 1, 1) := by decide +kernel
theorem dX9_shut_16 : decode cX9_shut 16 = .ok (.iload_n 3, 1) := by decide +kernel
theorem dX9_shut_17 : decode cX9_shut 17 = .ok (.invokevirtual 110, 3) := by decide +kernel
theorem dX9_shut_20 : decode cX9_shut 20 = .ok (.ifCond .eq 16, 3) := by decide +kernel
theorem dX9_shut_23 : decode cX9_shut 23 = .ok (.iload_n 2, 1) := by decide +kernel
theorem dX9_shut_24 : decode cX9_shut 24 = .ok (.iload_n 3, 1) := by decide +kernel
theorem dX9_shut_25 : decode cX9_shut 25 = .ok (.if_icmp .gt 11, 3) := by decide +kernel
theorem dX9_shut_28 : decode cX9_shut 28 = .ok (.iload_n 2, 1) := by decide +kernel
theorem dX9_shut_29 : decode cX9_shut 29 = .ok (.aload_n 0, 1) := by decide +kernel
theorem dX9_shut_30 : decode cX9_shut 30 = .ok (.getfield 197, 3) := by decide +kernel
theorem dX9_shut_33 : decode cX9_shut 33 = .ok (.if_icmp .ge 5, 3) := by decide +kernel
theorem dX9_shut_36 : decode cX9_shut 36 = .ok (.iconst (-1), 1) := by decide +kernel
theorem dX9_shut_37 : decode cX9_shut 37 = .ok (.ireturn, 1) := by decide +kernel
theorem dX9_shut_38 : decode cX9_shut 38 = .ok (.iload_n 2, 1) := by decide +kernel
theorem dX9_shut_39 : decode cX9_shut 39 = .ok (.istore 4, 2) := by decide +kernel
theorem dX9_shut_41 : decode cX9_shut 41 = .ok (.iload 4, 2) := by decide +kernel
theorem dX9_shut_43 : decode cX9_shut 43 = .ok (.iload_n 3, 1) := by decide +kernel
theorem dX9_shut_44 : decode cX9_shut 44 = .ok (.if_icmp .gt 22, 3) := by decide +kernel
theorem dX9_shut_47 : decode cX9_shut 47 = .ok (.aload_n 0, 1) := by decide +kernel
theorem dX9_shut_48 : decode cX9_shut 48 = .ok (.getfield 36, 3) := by decide +kernel
theorem dX9_shut_51 : decode cX9_shut 51 = .ok (.bipush 53, 2) := by decide +kernel
theorem dX9_shut_53 : decode cX9_shut 53 = .ok (.iload_n 1, 1) := by decide +kernel
theorem dX9_shut_54 : decode cX9_shut 54 = .ok (.imul, 1) := by decide +kernel
theorem dX9_shut_55 : decode cX9_shut 55 = .ok (.iload 4, 2) := by decide +kernel
theorem dX9_shut_57 : decode cX9_shut 57 = .ok (.iadd, 1) := by decide +kernel
theorem dX9_shut_58 : decode cX9_shut 58 = .ok (.iconst 1, 1) := by decide +kernel
theorem dX9_shut_59 : decode cX9_shut 59 = .ok (.bastore, 1) := by decide +kernel
theorem dX9_shut_60 : decode cX9_shut 60 = .ok (.iinc 4 1, 3) := by decide +kernel
theorem dX9_shut_63 : decode cX9_shut 63 = .ok (.goto (-22), 3) := by decide +kernel
theorem dX9_shut_66 : decode cX9_shut 66 = .ok (.iconst 0, 1) := by decide +kernel
theorem dX9_shut_67 : decode cX9_shut 67 = .ok (.istore 4, 2) := by decide +kernel
theorem dX9_shut_69 : decode cX9_shut 69 = .ok (.iconst 0, 1) := by decide +kernel
theorem dX9_shut_70 : decode cX9_shut 70 = .ok (.istore 5, 2) := by decide +kernel
theorem dX9_shut_72 : decode cX9_shut 72 = .ok (.iload 5, 2) := by decide +kernel
theorem dX9_shut_74 : decode cX9_shut 74 = .ok (.aload_n 0, 1) := by decide +kernel
theorem dX9_shut_75 : decode cX9_shut 75 = .ok (.getfield 203, 3) := by decide +kernel
theorem dX9_shut_78 : decode cX9_shut 78 = .ok (.if_icmp .ge 176, 3) := by decide +kernel
theorem dX9_shut_81 : decode cX9_shut 81 = .ok (.aload_n 0, 1) := by decide +kernel
theorem dX9_shut_82 : decode cX9_shut 82 = .ok (.getfield 61, 3) := by decide +kernel
theorem dX9_shut_85 : decode cX9_shut 85 = .ok (.iload 5, 2) := by decide +kernel
theorem dX9_shut_87 : decode cX9_shut 87 = .ok (.iaload, 1) := by decide +kernel
theorem dX9_shut_88 : decode cX9_shut 88 = .ok (.aload_n 0, 1) := by decide +kernel
theorem dX9_shut_89 : decode cX9_shut 89 = .ok (.getfield 206, 3) := by decide +kernel
theorem dX9_shut_92 : decode cX9_shut 92 = .ok (.if_icmp .ne 156, 3) := by decide +kernel
theorem dX9_shut_95 : decode cX9_shut 95 = .ok (.aload_n 0, 1) := by decide +kernel
theorem dX9_shut_96 : decode cX9_shut 96 = .ok (.getfield 55, 3) := by decide +kernel
theorem dX9_shut_99 : decode cX9_shut 99 = .ok (.iload 5, 2) := by decide +kernel
