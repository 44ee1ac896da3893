theorem dX9_shut_101 : decode cX9_shut 101 = .ok (.iaload, 1) := by decide +kernel
theorem dX9_shut_102 : decode cX9_shut 102 = .ok (.iload_n 1, 1) := by decide +kernel
theorem dX9_shut_103 : decode cX9_shut 103 = .ok (.if_icmp .ne 145, 3) := by decide +kernel
theorem dX9_shut_106 : decode cX9_shut 106 = .ok (.aload_n 0, 1) := by decide +kernel
theorem dX9_shut_107 : decode cX9_shut 107 = .ok (.getfield 58, 3) := by decide +kernel
theorem dX9_shut_110 : decode cX9_shut 110 = .ok (.iload 5, 2) := by decide +kernel
theorem dX9_shut_112 : decode cX9_shut 112 = .ok (.iaload, 1) := by decide +kernel
theorem dX9_shut_113 : decode cX9_shut 113 = .ok (.iload_n 2, 1) := by decide +kernel
theorem dX9_shut_114 : decode cX9_shut 114 = .ok (.iload_n 3, 1) := by decide +kernel
theorem dX9_shut_115 : decode cX9_shut 115 = .ok (.invokestatic 100, 3) := by decide +kernel
theorem dX9_shut_118 : decode cX9_shut 118 = .ok (.ifCond .eq 130, 3) := by decide +kernel
theorem dX9_shut_121 : decode cX9_shut 121 = .ok (.aload_n 0, 1) := by decide +kernel
theorem dX9_shut_122 : decode cX9_shut 122 = .ok (.getfield 67, 3) := by decide +kernel
theorem dX9_shut_125 : decode cX9_shut 125 = .ok (.iload 5, 2) := by decide +kernel
theorem dX9_shut_127 : decode cX9_shut 127 = .ok (.iaload, 1) := by decide +kernel
theorem dX9_shut_128 : decode cX9_shut 128 = .ok (.iconst 4, 1) := by decide +kernel
theorem dX9_shut_129 : decode cX9_shut 129 = .ok (.if_icmp .lt 6, 3) := by decide +kernel
theorem dX9_shut_132 : decode cX9_shut 132 = .ok (.goto 116, 3) := by decide +kernel
theorem dX9_shut_135 : decode cX9_shut 135 = .ok (.iinc 4 1, 3) := by decide +kernel
theorem dX9_shut_138 : decode cX9_shut 138 = .ok (.aload_n 0, 1) := by decide +kernel
theorem dX9_shut_139 : decode cX9_shut 139 = .ok (.getfield 67, 3) := by decide +kernel
theorem dX9_shut_142 : decode cX9_shut 142 = .ok (.iload 5, 2) := by decide +kernel
theorem dX9_shut_144 : decode cX9_shut 144 = .ok (.iaload, 1) := by decide +kernel
theorem dX9_shut_145 : decode cX9_shut 145 = .ok (.iconst 2, 1) := by decide +kernel
theorem dX9_shut_146 : decode cX9_shut 146 = .ok (.if_icmp .ne 39, 3) := by decide +kernel
theorem dX9_shut_149 : decode cX9_shut 149 = .ok (.aload_n 0, 1) := by decide +kernel
theorem dX9_shut_150 : decode cX9_shut 150 = .ok (.getfield 23, 3) := by decide +kernel
theorem dX9_shut_153 : decode cX9_shut 153 = .ok (.aload_n 0, 1) := by decide +kernel
theorem dX9_shut_154 : decode cX9_shut 154 = .ok (.getfield 52, 3) := by decide +kernel
theorem dX9_shut_157 : decode cX9_shut 157 = .ok (.iload 5, 2) := by decide +kernel
theorem dX9_shut_159 : decode cX9_shut 159 = .ok (.iaload, 1) := by decide +kernel
theorem dX9_shut_160 : decode cX9_shut 160 = .ok (.iconst 0, 1) := by decide +kernel
theorem dX9_shut_161 : decode cX9_shut 161 = .ok (.aload_n 0, 1) := by decide +kernel
theorem dX9_shut_162 : decode cX9_shut 162 = .ok (.getfield 23, 3) := by decide +kernel
theorem dX9_shut_165 : decode cX9_shut 165 = .ok (.aload_n 0, 1) := by decide +kernel
theorem dX9_shut_166 : decode cX9_shut 166 = .ok (.getfield 52, 3) := by decide +kernel
theorem dX9_shut_169 : decode cX9_shut 169 = .ok (.iload 5, 2) := by decide +kernel
theorem dX9_shut_171 : decode cX9_shut 171 = .ok (.iaload, 1) := by decide +kernel
theorem dX9_shut_172 : decode cX9_shut 172 = .ok (.iaload, 1) := by decide +kernel
theorem dX9_shut_173 : decode cX9_shut 173 = .ok (.aload_n 0, 1) := by decide +kernel
theorem dX9_shut_174 : decode cX9_shut 174 = .ok (.getfield 64, 3) := by decide +kernel
theorem dX9_shut_177 : decode cX9_shut 177 = .ok (.iload 5, 2) := by decide +kernel
theorem dX9_shut_179 : decode cX9_shut 179 = .ok (.iaload, 1) := by decide +kernel
theorem dX9_shut_180 : decode cX9_shut 180 = .ok (.isub, 1) := by decide +kernel
theorem dX9_shut_181 : decode cX9_shut 181 = .ok (.invokestatic 251, 3) := by decide +kernel
theorem dX9_shut_184 : decode cX9_shut 184 = .ok (.iastore, 1) := by decide +kernel
theorem dX9_shut_185 : decode cX9_shut 185 = .ok (.aload_n 0, 1) := by decide +kernel
theorem dX9_shut_186 : decode cX9_shut 186 = .ok (.getfield 67, 3) := by decide +kernel
theorem dX9_shut_189 : decode cX9_shut 189 = .ok (.iload 5, 2) := by decide +kernel
theorem dX9_shut_191 : decode cX9_shut 191 = .ok (.iaload, 1) := by decide +kernel
theorem dX9_shut_192 : decode cX9_shut 192 = .ok (.iconst 1, 1) := by decide +kernel
theorem dX9_shut_193 : decode cX9_shut 193 = .ok (.if_icmp .eq 14, 3) := by decide +kernel
theorem dX9_shut_196 : decode cX9_shut 196 = .ok (.aload_n 0, 1) := by decide +kernel
theorem dX9_shut_197 : decode cX9_shut 197 = .ok (.getfield 67, 3) := by decide +kernel
theorem dX9_shut_200 : decode cX9_shut 200 = .ok (.iload 5, 2) := by decide +kernel
theorem dX9_shut_202 : decode cX9_shut 202 = .ok (.iaload, 1) := by decide +kernel
theorem dX9_shut_203 : decode cX9_shut 203 = .ok (.iconst 3, 1) := by decide +kernel
theorem dX9_shut_204 : decode cX9_shut 204 = .ok (.if_icmp .ne 36, 3) := by decide +kernel
theorem dX9_shut_207 : decode cX9_shut 207 = .ok (.aload_n 0, 1) := by decide +kernel
theorem dX9_shut_208 : decode cX9_shut 208 = .ok (.getfield 23, 3) := by decide +kernel
theorem dX9_shut_211 : decode cX9_shut 211 = .ok (.aload_n 0, 1) := by decide +kernel
theorem dX9_shut_212 : decode cX9_shut 212 = .ok (.getfield 73, 3) := by decide +kernel
theorem dX9_shut_215 : decode cX9_shut 215 = .ok (.iload 5, 2) := by decide +kernel
theorem dX9_shut_217 : decode cX9_shut 217 = .ok (.iaload, 1) := by decide +kernel
theorem dX9_shut_218 : decode cX9_shut 218 = .ok (.dup2, 1) := by decide +kernel
theorem dX9_shut_219 : decode cX9_shut 219 = .ok (.iaload, 1) := by decide +kernel
theorem dX9_shut_220 : decode cX9_shut 220 = .ok (.aload_n 0, 1) := by decide +kernel
theorem dX9_shut_221 : decode cX9_shut 221 = .ok (.getfield 64, 3) := by decide +kernel
theorem dX9_shut_224 : decode cX9_shut 224 = .ok (.iload 5, 2) := by decide +kernel
theorem dX9_shut_226 : decode cX9_shut 226 = .ok (.iaload, 1) := by decide +kernel
theorem dX9_shut_227 : decode cX9_shut 227 = .ok (.iadd, 1) := by decide +kernel
theorem dX9_shut_228 : decode cX9_shut 228 = .ok (.iastore, 1) := by decide +kernel
theorem dX9_shut_229 : decode cX9_shut 229 = .ok (.aload_n 0, 1) := by decide +kernel
theorem dX9_shut_230 : decode cX9_shut 230 = .ok (.getfield 67, 3) := by decide +kernel
theorem dX9_shut_233 : decode cX9_shut 233 = .ok (.iload 5, 2) := by decide +kernel
theorem dX9_shut_235 : decode cX9_shut 235 = .ok (.iconst 5, 1) := by decide +kernel
theorem dX9_shut_236 : decode cX9_shut 236 = .ok (.iastore, 1) := by decide +kernel
theorem dX9_shut_237 : decode cX9_shut 237 = .ok (.goto 11, 3) := by decide +kernel
theorem dX9_shut_240 : decode cX9_shut 240 = .ok (.aload_n 0, 1) := by decide +kernel
theorem dX9_shut_241 : decode cX9_shut 241 = .ok (.getfield 67, 3) := by decide +kernel
theorem dX9_shut_244 : decode cX9_shut 244 = .ok (.iload 5, 2) := by decide +kernel
theorem dX9_shut_246 : decode cX9_shut 246 = .ok (.iconst 4, 1) := by decide +kernel
theorem dX9_shut_247 : decode cX9_shut 247 = .ok (.iastore, 1) := by decide +kernel
theorem dX9_shut_248 : decode cX9_shut 248 = .ok (.iinc 5 1, 3) := by decide +kernel
theorem dX9_shut_251 : decode cX9_shut 251 = .ok (.goto (-179), 3) := by decide +kernel
theorem dX9_shut_254 : decode cX9_shut 254 = .ok (.iload 4, 2) := by decide +kernel
theorem dX9_shut_256 : decode cX9_shut 256 = .ok (.ireturn, 1) := by decide +kernel
theorem dX9_passes_0 : decode cX9_passes 0 = .ok (.iconst 0, 1) := by decide +kernel
theorem dX9_passes_1 : decode cX9_passes 1 = .ok (.istore_n 2, 1) := by decide +kernel
theorem dX9_passes_2 : decode cX9_passes 2 = .ok (.iload_n 2, 1) := by decide +kernel
theorem dX9_passes_3 : decode cX9_passes 3 = .ok (.aload_n 0, 1) := by decide +kernel
theorem dX9_passes_4 : decode cX9_passes 4 = .ok (.getfield 203, 3) := by decide +kernel
theorem dX9_passes_7 : decode cX9_passes 7 = .ok (.if_icmp .ge 45, 3) := by decide +kernel
theorem dX9_passes_10 : decode cX9_passes 10 = .ok (.aload_n 0, 1) := by decide +kernel
theorem dX9_passes_11 : decode cX9_passes 11 = .ok (.getfield 67, 3) := by decide +kernel
theorem dX9_passes_14 : decode cX9_passes 14 = .ok (.iload_n 2, 1) := by decide +kernel
theorem dX9_passes_15 : decode cX9_passes 15 = .ok (.iaload, 1) := by decide +kernel
theorem dX9_passes_16 : decode cX9_passes 16 = .ok (.ifCond .eq 13, 3) := by decide +kernel
theorem dX9_passes_19 : decode cX9_passes 19 = .ok (.aload_n 0, 1) := by decide +kernel
theorem dX9_passes_20 : decode cX9_passes 20 = .ok (.getfield 67, 3) := by decide +kernel
theorem dX9_passes_23 : decode cX9_passes 23 = .ok (.iload_n 2, 1) := by decide +kernel
theorem dX9_passes_24 : decode cX9_passes 24 = .ok (.iaload, 1) := by decide +kernel
theorem dX9_passes_25 : decode cX9_passes 25 = .ok (.iconst 2, 1) := by decide +kernel
theorem dX9_passes_26 : decode cX9_passes 26 = .ok (.if_icmp .ne 20, 3) := by decide +kernel
theorem dX9_passes_29 : decode cX9_passes 29 = .ok (.aload_n 0, 1) := by decide +kernel
theorem dX9_passes_30 : decode cX9_passes 30 = .ok (.getfield 58, 3) := by decide +kernel
theorem dX9_passes_33 : decode cX9_passes 33 = .ok (.iload_n 2, 1) := by decide +kernel
theorem dX9_passes_34 : decode cX9_passes 34 = .ok (.iaload, 1) := by decide +kernel
theorem dX9_passes_35 : decode cX9_passes 35 = .ok (.iload_n 1, 1) := by decide +kernel
theorem dX9_passes_36 : decode cX9_passes 36 = .ok (.if_icmp .gt 10, 3) := by decide +kernel
theorem dX9_passes_39 : decode cX9_passes 39 = .ok (.aload_n 0, 1) := by decide +kernel
theorem dX9_passes_40 : decode cX9_passes 40 = .ok (.getfield 67, 3) := by decide +kernel
theorem dX9_passes_43 : decode cX9_passes 43 = .ok (.iload_n 2, 1) := by decide +kernel
theorem dX9_passes_44 : decode cX9_passes 44 = .ok (.iconst 5, 1) := by decide +kernel
theorem dX9_passes_45 : decode cX9_passes 45 = .ok (.iastore, 1) := by decide +kernel
theorem dX9_passes_46 : decode cX9_passes 46 = .ok (.iinc 2 1, 3) := by decide +kernel
theorem dX9_passes_49 : decode cX9_passes 49 = .ok (.goto (-47), 3) := by decide +kernel
theorem dX9_passes_52 : decode cX9_passes 52 = .ok (.return_, 1) := by decide +kernel
theorem dX9_weeks_0 : decode cX9_weeks 0 = .ok (.aload_n 0, 1) := by decide +kernel
theorem dX9_weeks_1 : decode cX9_weeks 1 = .ok (.iconst 0, 1) := by decide +kernel
theorem dX9_weeks_2 : decode cX9_weeks 2 = .ok (.putfield 1, 3) := by decide +kernel
theorem dX9_weeks_5 : decode cX9_weeks 5 = .ok (.iload_n 1, 1) := by decide +kernel
theorem dX9_weeks_6 : decode cX9_weeks 6 = .ok (.iconst 1, 1) := by decide +kernel
theorem dX9_weeks_7 : decode cX9_weeks 7 = .ok (.bipush 52, 2) := by decide +kernel
theorem dX9_weeks_9 : decode cX9_weeks 9 = .ok (.invokestatic 100, 3) := by decide +kernel
theorem dX9_weeks_12 : decode cX9_weeks 12 = .ok (.ifCond .eq 14, 3) := by decide +kernel
theorem dX9_weeks_15 : decode cX9_weeks 15 = .ok (.aload_n 0, 1) := by decide +kernel
theorem dX9_weeks_16 : decode cX9_weeks 16 = .ok (.getfield 197, 3) := by decide +kernel
theorem dX9_weeks_19 : decode cX9_weeks 19 = .ok (.iload_n 1, 1) := by decide +kernel
theorem dX9_weeks_20 : decode cX9_weeks 20 = .ok (.iadd, 1) := by decide +kernel
theorem dX9_weeks_21 : decode cX9_weeks 21 = .ok (.bipush 52, 2) := by decide +kernel
theorem dX9_weeks_23 : decode cX9_weeks 23 = .ok (.if_icmp .le 5, 3) := by decide +kernel
theorem dX9_weeks_26 : decode cX9_weeks 26 = .ok (.iconst (-1), 1) := by decide +kernel
theorem dX9_weeks_27 : decode cX9_weeks 27 = .ok (.ireturn, 1) := by decide +kernel
theorem dX9_weeks_28 : decode cX9_weeks 28 = .ok (.aload_n 0, 1) := by decide +kernel
theorem dX9_weeks_29 : decode cX9_weeks 29 = .ok (.dup, 1) := by decide +kernel
theorem dX9_weeks_30 : decode cX9_weeks 30 = .ok (.getfield 197, 3) := by decide +kernel
theorem dX9_weeks_33 : decode cX9_weeks 33 = .ok (.iload_n 1, 1) := by decide +kernel
theorem dX9_weeks_34 : decode cX9_weeks 34 = .ok (.iadd, 1) := by decide +kernel
theorem dX9_weeks_35 : decode cX9_weeks 35 = .ok (.putfield 197, 3) := by decide +kernel
theorem dX9_weeks_38 : decode cX9_weeks 38 = .ok (.aload_n 0, 1) := by decide +kernel
theorem dX9_weeks_39 : decode cX9_weeks 39 = .ok (.aload_n 0, 1) := by decide +kernel
theorem dX9_weeks_40 : decode cX9_weeks 40 = .ok (.getfield 197, 3) := by decide +kernel
theorem dX9_weeks_43 : decode cX9_weeks 43 = .ok (.invokevirtual 256, 3) := by decide +kernel
theorem dX9_weeks_46 : decode cX9_weeks 46 = .ok (.aload_n 0, 1) := by decide +kernel
theorem dX9_weeks_47 : decode cX9_weeks 47 = .ok (.getfield 197, 3) := by decide +kernel
theorem dX9_weeks_50 : decode cX9_weeks 50 = .ok (.ireturn, 1) := by decide +kernel
theorem dX9_year_0 : decode cX9_year 0 = .ok (.aload_n 0, 1) := by decide +kernel
theorem dX9_year_1 : decode cX9_year 1 = .ok (.iconst 0, 1) := by decide +kernel
theorem dX9_year_2 : decode cX9_year 2 = .ok (.putfield 1, 3) := by decide +kernel
theorem dX9_year_5 : decode cX9_year 5 = .ok (.aload_n 0, 1) := by decide +kernel
theorem dX9_year_6 : decode cX9_year 6 = .ok (.bipush 52, 2) := by decide +kernel
theorem dX9_year_8 : decode cX9_year 8 = .ok (.invokevirtual 256, 3) := by decide +kernel
theorem dX9_year_11 : decode cX9_year 11 = .ok (.aload_n 0, 1) := by decide +kernel
theorem dX9_year_12 : decode cX9_year 12 = .ok (.dup, 1) := by decide +kernel
theorem dX9_year_13 : decode cX9_year 13 = .ok (.getfield 206, 3) := by decide +kernel
theorem dX9_year_16 : decode cX9_year 16 = .ok (.iconst 1, 1) := by decide +kernel
theorem dX9_year_17 : decode cX9_year 17 = .ok (.iadd, 1) := by decide +kernel
theorem dX9_year_18 : decode cX9_year 18 = .ok (.putfield 206, 3) := by decide +kernel
theorem dX9_year_21 : decode cX9_year 21 = .ok (.aload_n 0, 1) := by decide +kernel
theorem dX9_year_22 : decode cX9_year 22 = .ok (.iconst 0, 1) := by decide +kernel
theorem dX9_year_23 : decode cX9_year 23 = .ok (.putfield 197, 3) := by decide +kernel
theorem dX9_year_26 : decode cX9_year 26 = .ok (.iconst 0, 1) := by decide +kernel
theorem dX9_year_27 : decode cX9_year 27 = .ok (.istore_n 1, 1) := by decide +kernel
theorem dX9_year_28 : decode cX9_year 28 = .ok (.iload_n 1, 1) := by decide +kernel
theorem dX9_year_29 : decode cX9_year 29 = .ok (.sipush 318, 3) := by decide +kernel
theorem dX9_year_32 : decode cX9_year 32 = .ok (.if_icmp .ge 16, 3) := by decide +kernel
theorem dX9_year_35 : decode cX9_year 35 = .ok (.aload_n 0, 1) := by decide +kernel
theorem dX9_year_36 : decode cX9_year 36 = .ok (.getfield 36, 3) := by decide +kernel
theorem dX9_year_39 : decode cX9_year 39 = .ok (.iload_n 1, 1) := by decide +kernel
theorem dX9_year_40 : decode cX9_year 40 = .ok (.iconst 0, 1) := by decide +kernel
theorem dX9_year_41 : decode cX9_year 41 = .ok (.bastore, 1) := by decide +kernel
theorem dX9_year_42 : decode cX9_year 42 = .ok (.iinc 1 1, 3) := by decide +kernel
theorem dX9_year_45 : decode cX9_year 45 = .ok (.goto (-17), 3) := by decide +kernel
theorem dX9_year_48 : decode cX9_year 48 = .ok (.aload_n 0, 1) := by decide +kernel
theorem dX9_year_49 : decode cX9_year 49 = .ok (.getfield 206, 3) := by decide +kernel
theorem dX9_year_52 : decode cX9_year 52 = .ok (.ireturn, 1) := by decide +kernel
theorem dX9_owned_0 : decode cX9_owned 0 = .ok (.iconst 0, 1) := by decide +kernel
theorem dX9_owned_1 : decode cX9_owned 1 = .ok (.istore_n 2, 1) := by decide +kernel
theorem dX9_owned_2 : decode cX9_owned 2 = .ok (.iconst 0, 1) := by decide +kernel
theorem dX9_owned_3 : decode cX9_owned 3 = .ok (.istore_n 3, 1) := by decide +kernel
theorem dX9_owned_4 : decode cX9_owned 4 = .ok (.iload_n 3, 1) := by decide +kernel
theorem dX9_owned_5 : decode cX9_owned 5 = .ok (.sipush 318, 3) := by decide +kernel
theorem dX9_owned_8 : decode cX9_owned 8 = .ok (.if_icmp .ge 22, 3) := by decide +kernel
theorem dX9_owned_11 : decode cX9_owned 11 = .ok (.aload_n 0, 1) := by decide +kernel
theorem dX9_owned_12 : decode cX9_owned 12 = .ok (.getfield 33, 3) := by decide +kernel
theorem dX9_owned_15 : decode cX9_owned 15 = .ok (.iload_n 3, 1) := by decide +kernel
theorem dX9_owned_16 : decode cX9_owned 16 = .ok (.iaload, 1) := by decide +kernel
theorem dX9_owned_17 : decode cX9_owned 17 = .ok (.iload_n 1, 1) := by decide +kernel
theorem dX9_owned_18 : decode cX9_owned 18 = .ok (.if_icmp .ne 6, 3) := by decide +kernel
theorem dX9_owned_21 : decode cX9_owned 21 = .ok (.iinc 2 1, 3) := by decide +kernel
theorem dX9_owned_24 : decode cX9_owned 24 = .ok (.iinc 3 1, 3) := by decide +kernel
theorem dX9_owned_27 : decode cX9_owned 27 = .ok (.goto (-23), 3) := by decide +kernel
theorem dX9_owned_30 : decode cX9_owned 30 = .ok (.iload_n 2, 1) := by decide +kernel
theorem dX9_owned_31 : decode cX9_owned 31 = .ok (.ireturn, 1) := by decide +kernel
theorem dX9_dies_0 : decode cX9_dies 0 = .ok (.aload_n 0, 1) := by decide +kernel
theorem dX9_dies_1 : decode cX9_dies 1 = .ok (.iconst 0, 1) := by decide +kernel
theorem dX9_dies_2 : decode cX9_dies 2 = .ok (.putfield 1, 3) := by decide +kernel
theorem dX9_dies_5 : decode cX9_dies 5 = .ok (.aload_n 0, 1) := by decide +kernel
theorem dX9_dies_6 : decode cX9_dies 6 = .ok (.iload_n 1, 1) := by decide +kernel
theorem dX9_dies_7 : decode cX9_dies 7 = .ok (.invokevirtual 114, 3) := by decide +kernel
theorem dX9_dies_10 : decode cX9_dies 10 = .ok (.ifCond .eq 16, 3) := by decide +kernel
theorem dX9_dies_13 : decode cX9_dies 13 = .ok (.aload_n 0, 1) := by decide +kernel
theorem dX9_dies_14 : decode cX9_dies 14 = .ok (.iload_n 2, 1) := by decide +kernel
theorem dX9_dies_15 : decode cX9_dies 15 = .ok (.invokevirtual 114, 3) := by decide +kernel
theorem dX9_dies_18 : decode cX9_dies 18 = .ok (.ifCond .eq 8, 3) := by decide +kernel
theorem dX9_dies_21 : decode cX9_dies 21 = .ok (.iload_n 1, 1) := by decide +kernel
theorem dX9_dies_22 : decode cX9_dies 22 = .ok (.iload_n 2, 1) := by decide +kernel
theorem dX9_dies_23 : decode cX9_dies 23 = .ok (.if_icmp .ne 5, 3) := by decide +kernel
theorem dX9_dies_26 : decode cX9_dies 26 = .ok (.iconst (-1), 1) := by decide +kernel
theorem dX9_dies_27 : decode cX9_dies 27 = .ok (.ireturn, 1) := by decide +kernel
theorem dX9_dies_28 : decode cX9_dies 28 = .ok (.iload_n 3, 1) := by decide +kernel
theorem dX9_dies_29 : decode cX9_dies 29 = .ok (.ifCond .ne 10, 3) := by decide +kernel
theorem dX9_dies_32 : decode cX9_dies 32 = .ok (.aload_n 0, 1) := by decide +kernel
theorem dX9_dies_33 : decode cX9_dies 33 = .ok (.invokevirtual 259, 3) := by decide +kernel
theorem dX9_dies_36 : decode cX9_dies 36 = .ok (.ifCond .eq 7, 3) := by decide +kernel
theorem dX9_dies_39 : decode cX9_dies 39 = .ok (.iconst 1, 1) := by decide +kernel
theorem dX9_dies_40 : decode cX9_dies 40 = .ok (.goto 4, 3) := by decide +kernel
theorem dX9_dies_43 : decode cX9_dies 43 = .ok (.iconst 0, 1) := by decide +kernel
theorem dX9_dies_44 : decode cX9_dies 44 = .ok (.istore 4, 2) := by decide +kernel
theorem dX9_dies_46 : decode cX9_dies 46 = .ok (.iconst 0, 1) := by decide +kernel
theorem dX9_dies_47 : decode cX9_dies 47 = .ok (.istore 5, 2) := by decide +kernel
theorem dX9_dies_49 : decode cX9_dies 49 = .ok (.iconst 0, 1) := by decide +kernel
theorem dX9_dies_50 : decode cX9_dies 50 = .ok (.istore 6, 2) := by decide +kernel
theorem dX9_dies_52 : decode cX9_dies 52 = .ok (.iload 6, 2) := by decide +kernel
theorem dX9_dies_54 : decode cX9_dies 54 = .ok (.sipush 318, 3) := by decide +kernel
theorem dX9_dies_57 : decode cX9_dies 57 = .ok (.if_icmp .ge 48, 3) := by decide +kernel
theorem dX9_dies_60 : decode cX9_dies 60 = .ok (.aload_n 0, 1) := by decide +kernel
theorem dX9_dies_61 : decode cX9_dies 61 = .ok (.getfield 33, 3) := by decide +kernel
theorem dX9_dies_64 : decode cX9_dies 64 = .ok (.iload 6, 2) := by decide +kernel
theorem dX9_dies_66 : decode cX9_dies 66 = .ok (.iaload, 1) := by decide +kernel
theorem dX9_dies_67 : decode cX9_dies 67 = .ok (.iload_n 1, 1) := by decide +kernel
theorem dX9_dies_68 : decode cX9_dies 68 = .ok (.if_icmp .eq 6, 3) := by decide +kernel
theorem dX9_dies_71 : decode cX9_dies 71 = .ok (.goto 28, 3) := by decide +kernel
theorem dX9_dies_74 : decode cX9_dies 74 = .ok (.aload_n 0, 1) := by decide +kernel
theorem dX9_dies_75 : decode cX9_dies 75 = .ok (.getfield 33, 3) := by decide +kernel
theorem dX9_dies_78 : decode cX9_dies 78 = .ok (.iload 6, 2) := by decide +kernel
theorem dX9_dies_80 : decode cX9_dies 80 = .ok (.iload 4, 2) := by decide +kernel
theorem dX9_dies_82 : decode cX9_dies 82 = .ok (.ifCond .eq 7, 3) := by decide +kernel
theorem dX9_dies_85 : decode cX9_dies 85 = .ok (.iload_n 2, 1) := by decide +kernel
theorem dX9_dies_86 : decode cX9_dies 86 = .ok (.goto 4, 3) := by decide +kernel
theorem dX9_dies_89 : decode cX9_dies 89 = .ok (.iconst (-1), 1) := by decide +kernel
theorem dX9_dies_90 : decode cX9_dies 90 = .ok (.iastore, 1) := by decide +kernel
theorem dX9_dies_91 : decode cX9_dies 91 = .ok (.iload 4, 2) := by decide +kernel
theorem dX9_dies_93 : decode cX9_dies 93 = .ok (.ifCond .eq 6, 3) := by decide +kernel
theorem dX9_dies_96 : decode cX9_dies 96 = .ok (.iinc 5 1, 3) := by decide +kernel
theorem dX9_dies_99 : decode cX9_dies 99 = .ok (.iinc 6 1, 3) := by decide +kernel
theorem dX9_dies_102 : decode cX9_dies 102 = .ok (.goto (-50), 3) := by decide +kernel
theorem dX9_dies_105 : decode cX9_dies 105 = .ok (.iload 4, 2) := by decide +kernel
theorem dX9_dies_107 : decode cX9_dies 107 = .ok (.ifCond .eq 18, 3) := by decide +kernel
theorem dX9_dies_110 : decode cX9_dies 110 = .ok (.aload_n 0, 1) := by decide +kernel
theorem dX9_dies_111 : decode cX9_dies 111 = .ok (.getfield 23, 3) := by decide +kernel
theorem dX9_dies_114 : decode cX9_dies 114 = .ok (.iload_n 2, 1) := by decide +kernel
theorem dX9_dies_115 : decode cX9_dies 115 = .ok (.dup2, 1) := by decide +kernel
theorem dX9_dies_116 : decode cX9_dies 116 = .ok (.iaload, 1) := by decide +kernel
theorem dX9_dies_117 : decode cX9_dies 117 = .ok (.aload_n 0, 1) := by decide +kernel
theorem dX9_dies_118 : decode cX9_dies 118 = .ok (.getfield 23, 3) := by decide +kernel
theorem dX9_dies_121 : decode cX9_dies 121 = .ok (.iload_n 1, 1) := by decide +kernel
theorem dX9_dies_122 : decode cX9_dies 122 = .ok (.iaload, 1) := by decide +kernel
theorem dX9_dies_123 : decode cX9_dies 123 = .ok (.iadd, 1) := by decide +kernel
theorem dX9_dies_124 : decode cX9_dies 124 = .ok (.iastore, 1) := by decide +kernel
theorem dX9_dies_125 : decode cX9_dies 125 = .ok (.aload_n 0, 1) := by decide +kernel
theorem dX9_dies_126 : decode cX9_dies 126 = .ok (.getfield 23, 3) := by decide +kernel
theorem dX9_dies_129 : decode cX9_dies 129 = .ok (.iload_n 1, 1) := by decide +kernel
theorem dX9_dies_130 : decode cX9_dies 130 = .ok (.iconst 0, 1) := by decide +kernel
theorem dX9_dies_131 : decode cX9_dies 131 = .ok (.iastore, 1) := by decide +kernel
theorem dX9_dies_132 : decode cX9_dies 132 = .ok (.aload_n 0, 1) := by decide +kernel
theorem dX9_dies_133 : decode cX9_dies 133 = .ok (.getfield 29, 3) := by decide +kernel
theorem dX9_dies_136 : decode cX9_dies 136 = .ok (.iload_n 1, 1) := by decide +kernel
theorem dX9_dies_137 : decode cX9_dies 137 = .ok (.iconst 1, 1) := by decide +kernel
theorem dX9_dies_138 : decode cX9_dies 138 = .ok (.bastore, 1) := by decide +kernel
theorem dX9_dies_139 : decode cX9_dies 139 = .ok (.aload_n 0, 1) := by decide +kernel
theorem dX9_dies_140 : decode cX9_dies 140 = .ok (.getfield 76, 3) := by decide +kernel
theorem dX9_dies_143 : decode cX9_dies 143 = .ok (.iconst 4, 1) := by decide +kernel
theorem dX9_dies_144 : decode cX9_dies 144 = .ok (.sipush 200, 3) := by decide +kernel
theorem dX9_dies_147 : decode cX9_dies 147 = .ok (.iload_n 1, 1) := by decide +kernel
theorem dX9_dies_148 : decode cX9_dies 148 = .ok (.iadd, 1) := by decide +kernel
theorem dX9_dies_149 : decode cX9_dies 149 = .ok (.imul, 1) := by decide +kernel
theorem dX9_dies_150 : decode cX9_dies 150 = .ok (.iconst 3, 1) := by decide +kernel
theorem dX9_dies_151 : decode cX9_dies 151 = .ok (.iadd, 1) := by decide +kernel
theorem dX9_dies_152 : decode cX9_dies 152 = .ok (.iconst 0, 1) := by decide +kernel
theorem dX9_dies_153 : decode cX9_dies 153 = .ok (.iastore, 1) := by decide +kernel
theorem dX9_dies_154 : decode cX9_dies 154 = .ok (.iconst 0, 1) := by decide +kernel
theorem dX9_dies_155 : decode cX9_dies 155 = .ok (.istore 6, 2) := by decide +kernel
theorem dX9_dies_157 : decode cX9_dies 157 = .ok (.iload 6, 2) := by decide +kernel
theorem dX9_dies_159 : decode cX9_dies 159 = .ok (.aload_n 0, 1) := by decide +kernel
theorem dX9_dies_160 : decode cX9_dies 160 = .ok (.getfield 203, 3) := by decide +kernel
theorem dX9_dies_163 : decode cX9_dies 163 = .ok (.if_icmp .ge 38, 3) := by decide +kernel
theorem dX9_dies_166 : decode cX9_dies 166 = .ok (.aload_n 0, 1) := by decide +kernel
theorem dX9_dies_167 : decode cX9_dies 167 = .ok (.getfield 52, 3) := by decide +kernel
theorem dX9_dies_170 : decode cX9_dies 170 = .ok (.iload 6, 2) := by decide +kernel
theorem dX9_dies_172 : decode cX9_dies 172 = .ok (.iaload, 1) := by decide +kernel
theorem dX9_dies_173 : decode cX9_dies 173 = .ok (.iload_n 1, 1) := by decide +kernel
theorem dX9_dies_174 : decode cX9_dies 174 = .ok (.if_icmp .ne 21, 3) := by decide +kernel
theorem dX9_dies_177 : decode cX9_dies 177 = .ok (.aload_n 0, 1) := by decide +kernel
theorem dX9_dies_178 : decode cX9_dies 178 = .ok (.getfield 67, 3) := by decide +kernel
theorem dX9_dies_181 : decode cX9_dies 181 = .ok (.iload 6, 2) := by decide +kernel
theorem dX9_dies_183 : decode cX9_dies 183 = .ok (.iaload, 1) := by decide +kernel
theorem dX9_dies_184 : decode cX9_dies 184 = .ok (.ifCond .ne 11, 3) := by decide +kernel
theorem dX9_dies_187 : decode cX9_dies 187 = .ok (.aload_n 0, 1) := by decide +kernel
theorem dX9_dies_188 : decode cX9_dies 188 = .ok (.getfield 67, 3) := by decide +kernel
theorem dX9_dies_191 : decode cX9_dies 191 = .ok (.iload 6, 2) := by decide +kernel
theorem dX9_dies_193 : decode cX9_dies 193 = .ok (.iconst 4, 1) := by decide +kernel
theorem dX9_dies_194 : decode cX9_dies 194 = .ok (.iastore, 1) := by decide +kernel
theorem dX9_dies_195 : decode cX9_dies 195 = .ok (.iinc 6 1, 3) := by decide +kernel
theorem dX9_dies_198 : decode cX9_dies 198 = .ok (.goto (-41), 3) := by decide +kernel
theorem dX9_dies_201 : decode cX9_dies 201 = .ok (.iload 5, 2) := by decide +kernel
theorem dX9_dies_203 : decode cX9_dies 203 = .ok (.ireturn, 1) := by decide +kernel
theorem dX9_weeksThatStay_0 : decode cX9_weeksThatStay 0 = .ok (.iconst 0, 1) := by decide +kernel
theorem dX9_weeksThatStay_1 : decode cX9_weeksThatStay 1 = .ok (.istore_n 1, 1) := by decide +kernel
theorem dX9_weeksThatStay_2 : decode cX9_weeksThatStay 2 = .ok (.iconst 0, 1) := by decide +kernel
theorem dX9_weeksThatStay_3 : decode cX9_weeksThatStay 3 = .ok (.istore_n 2, 1) := by decide +kernel
theorem dX9_weeksThatStay_4 : decode cX9_weeksThatStay 4 = .ok (.iload_n 2, 1) := by decide +kernel
theorem dX9_weeksThatStay_5 : decode cX9_weeksThatStay 5 = .ok (.aload_n 0, 1) := by decide +kernel
theorem dX9_weeksThatStay_6 : decode cX9_weeksThatStay 6 = .ok (.getfield 107, 3) := by decide +kernel
theorem dX9_weeksThatStay_9 : decode cX9_weeksThatStay 9 = .ok (.if_icmp .ge 26, 3) := by decide +kernel
theorem dX9_weeksThatStay_12 : decode cX9_weeksThatStay 12 = .ok (.aload_n 0, 1) := by decide +kernel
theorem dX9_weeksThatStay_13 : decode cX9_weeksThatStay 13 = .ok (.getfield 97, 3) := by decide +kernel
theorem dX9_weeksThatStay_16 : decode cX9_weeksThatStay 16 = .ok (.iload_n 2, 1) := by decide +kernel
theorem dX9_weeksThatStay_17 : decode cX9_weeksThatStay 17 = .ok (.baload, 1) := by decide +kernel
theorem dX9_weeksThatStay_18 : decode cX9_weeksThatStay 18 = .ok (.ifCond .eq 11, 3) := by decide +kernel
theorem dX9_weeksThatStay_21 : decode cX9_weeksThatStay 21 = .ok (.iload_n 1, 1) := by decide +kernel
theorem dX9_weeksThatStay_22 : decode cX9_weeksThatStay 22 = .ok (.aload_n 0, 1) := by decide +kernel
theorem dX9_weeksThatStay_23 : decode cX9_weeksThatStay 23 = .ok (.iload_n 2, 1) := by decide +kernel
theorem dX9_weeksThatStay_24 : decode cX9_weeksThatStay 24 = .ok (.invokevirtual 263, 3) := by decide +kernel
theorem dX9_weeksThatStay_27 : decode cX9_weeksThatStay 27 = .ok (.iadd, 1) := by decide +kernel
theorem dX9_weeksThatStay_28 : decode cX9_weeksThatStay 28 = .ok (.istore_n 1, 1) := by decide +kernel
theorem dX9_weeksThatStay_29 : decode cX9_weeksThatStay 29 = .ok (.iinc 2 1, 3) := by decide +kernel
theorem dX9_weeksThatStay_32 : decode cX9_weeksThatStay 32 = .ok (.goto (-28), 3) := by decide +kernel
theorem dX9_weeksThatStay_35 : decode cX9_weeksThatStay 35 = .ok (.iload_n 1, 1) := by decide +kernel
theorem dX9_weeksThatStay_36 : decode cX9_weeksThatStay 36 = .ok (.ireturn, 1) := by decide +kernel
theorem dX9_fees_0 : decode cX9_fees 0 = .ok (.aload_n 0, 1) := by decide +kernel
theorem dX9_fees_1 : decode cX9_fees 1 = .ok (.iconst 0, 1) := by decide +kernel
theorem dX9_fees_2 : decode cX9_fees 2 = .ok (.putfield 1, 3) := by decide +kernel
theorem dX9_fees_5 : decode cX9_fees 5 = .ok (.iload_n 1, 1) := by decide +kernel
theorem dX9_fees_6 : decode cX9_fees 6 = .ok (.iconst 1, 1) := by decide +kernel
theorem dX9_fees_7 : decode cX9_fees 7 = .ok (.ldc_w 266, 3) := by decide +kernel
theorem dX9_fees_10 : decode cX9_fees 10 = .ok (.invokestatic 100, 3) := by decide +kernel
theorem dX9_fees_13 : decode cX9_fees 13 = .ok (.ifCond .eq 12, 3) := by decide +kernel
theorem dX9_fees_16 : decode cX9_fees 16 = .ok (.iload_n 2, 1) := by decide +kernel
theorem dX9_fees_17 : decode cX9_fees 17 = .ok (.iconst 0, 1) := by decide +kernel
theorem dX9_fees_18 : decode cX9_fees 18 = .ok (.iconst 2, 1) := by decide +kernel
theorem dX9_fees_19 : decode cX9_fees 19 = .ok (.invokestatic 100, 3) := by decide +kernel
theorem dX9_fees_22 : decode cX9_fees 22 = .ok (.ifCond .ne 5, 3) := by decide +kernel
theorem dX9_fees_25 : decode cX9_fees 25 = .ok (.iconst (-1), 1) := by decide +kernel
theorem dX9_fees_26 : decode cX9_fees 26 = .ok (.ireturn, 1) := by decide +kernel
theorem dX9_fees_27 : decode cX9_fees 27 = .ok (.iconst 0, 1) := by decide +kernel
theorem dX9_fees_28 : decode cX9_fees 28 = .ok (.istore_n 3, 1) := by decide +kernel
theorem dX9_fees_29 : decode cX9_fees 29 = .ok (.iload_n 3, 1) := by decide +kernel
theorem dX9_fees_30 : decode cX9_fees 30 = .ok (.aload_n 0, 1) := by decide +kernel
theorem dX9_fees_31 : decode cX9_fees 31 = .ok (.getfield 107, 3) := by decide +kernel
theorem dX9_fees_34 : decode cX9_fees 34 = .ok (.if_icmp .ge 28, 3) := by decide +kernel
theorem dX9_fees_37 : decode cX9_fees 37 = .ok (.aload_n 0, 1) := by decide +kernel
theorem dX9_fees_38 : decode cX9_fees 38 = .ok (.getfield 97, 3) := by decide +kernel
theorem dX9_fees_41 : decode cX9_fees 41 = .ok (.iload_n 3, 1) := by decide +kernel
theorem dX9_fees_42 : decode cX9_fees 42 = .ok (.aload_n 0, 1) := by decide +kernel
theorem dX9_fees_43 : decode cX9_fees 43 = .ok (.iload_n 3, 1) := by decide +kernel
theorem dX9_fees_44 : decode cX9_fees 44 = .ok (.invokevirtual 263, 3) := by decide +kernel
theorem dX9_fees_47 : decode cX9_fees 47 = .ok (.ifCond .le 7, 3) := by decide +kernel
theorem dX9_fees_50 : decode cX9_fees 50 = .ok (.iconst 1, 1) := by decide +kernel
theorem dX9_fees_51 : decode cX9_fees 51 = .ok (.goto 4, 3) := by decide +kernel
theorem dX9_fees_54 : decode cX9_fees 54 = .ok (.iconst 0, 1) := by decide +kernel
theorem dX9_fees_55 : decode cX9_fees 55 = .ok (.bastore, 1) := by decide +kernel
theorem dX9_fees_56 : decode cX9_fees 56 = .ok (.iinc 3 1, 3) := by decide +kernel
theorem dX9_fees_59 : decode cX9_fees 59 = .ok (.goto (-30), 3) := by decide +kernel
theorem dX9_fees_62 : decode cX9_fees 62 = .ok (.iconst 0, 1) := by decide +kernel
theorem dX9_fees_63 : decode cX9_fees 63 = .ok (.istore_n 3, 1) := by decide +kernel
theorem dX9_fees_64 : decode cX9_fees 64 = .ok (.iconst 0, 1) := by decide +kernel
theorem dX9_fees_65 : decode cX9_fees 65 = .ok (.istore 4, 2) := by decide +kernel
theorem dX9_fees_67 : decode cX9_fees 67 = .ok (.iconst 1, 1) := by decide +kernel
theorem dX9_fees_68 : decode cX9_fees 68 = .ok (.istore 5, 2) := by decide +kernel
theorem dX9_fees_70 : decode cX9_fees 70 = .ok (.iload 5, 2) := by decide +kernel
theorem dX9_fees_72 : decode cX9_fees 72 = .ok (.ifCond .eq 97, 3) := by decide +kernel
theorem dX9_fees_75 : decode cX9_fees 75 = .ok (.aload_n 0, 1) := by decide +kernel
theorem dX9_fees_76 : decode cX9_fees 76 = .ok (.invokevirtual 267, 3) := by decide +kernel
theorem dX9_fees_79 : decode cX9_fees 79 = .ok (.istore 6, 2) := by decide +kernel
theorem dX9_fees_81 : decode cX9_fees 81 = .ok (.iload 6, 2) := by decide +kernel
theorem dX9_fees_83 : decode cX9_fees 83 = .ok (.ifCond .ne 7, 3) := by decide +kernel
theorem dX9_fees_86 : decode cX9_fees 86 = .ok (.iconst 0, 1) := by decide +kernel
theorem dX9_fees_87 : decode cX9_fees 87 = .ok (.goto 12, 3) := by decide +kernel
theorem dX9_fees_90 : decode cX9_fees 90 = .ok (.iload_n 1, 1) := by decide +kernel
theorem dX9_fees_91 : decode cX9_fees 91 = .ok (.iload 6, 2) := by decide +kernel
theorem dX9_fees_93 : decode cX9_fees 93 = .ok (.iadd, 1) := by decide +kernel
theorem dX9_fees_94 : decode cX9_fees 94 = .ok (.iconst 1, 1) := by decide +kernel
theorem dX9_fees_95 : decode cX9_fees 95 = .ok (.isub, 1) := by decide +kernel
theorem dX9_fees_96 : decode cX9_fees 96 = .ok (.iload 6, 2) := by decide +kernel
theorem dX9_fees_98 : decode cX9_fees 98 = .ok (.idiv, 1) := by decide +kernel
theorem dX9_fees_99 : decode cX9_fees 99 = .ok (.istore 4, 2) := by decide +kernel
theorem dX9_fees_101 : decode cX9_fees 101 = .ok (.iconst 0, 1) := by decide +kernel
theorem dX9_fees_102 : decode cX9_fees 102 = .ok (.istore 5, 2) := by decide +kernel
theorem dX9_fees_104 : decode cX9_fees 104 = .ok (.iconst 0, 1) := by decide +kernel
theorem dX9_fees_105 : decode cX9_fees 105 = .ok (.istore 7, 2) := by decide +kernel
theorem dX9_fees_107 : decode cX9_fees 107 = .ok (.iload 7, 2) := by decide +kernel
theorem dX9_fees_109 : decode cX9_fees 109 = .ok (.aload_n 0, 1) := by decide +kernel
theorem dX9_fees_110 : decode cX9_fees 110 = .ok (.getfield 107, 3) := by decide +kernel
theorem dX9_fees_113 : decode cX9_fees 113 = .ok (.if_icmp .ge 45, 3) := by decide +kernel
theorem dX9_fees_116 : decode cX9_fees 116 = .ok (.aload_n 0, 1) := by decide +kernel
theorem dX9_fees_117 : decode cX9_fees 117 = .ok (.getfield 97, 3) := by decide +kernel
theorem dX9_fees_120 : decode cX9_fees 120 = .ok (.iload 7, 2) := by decide +kernel
theorem dX9_fees_122 : decode cX9_fees 122 = .ok (.baload, 1) := by decide +kernel
theorem dX9_fees_123 : decode cX9_fees 123 = .ok (.ifCond .eq 29, 3) := by decide +kernel
theorem dX9_fees_126 : decode cX9_fees 126 = .ok (.aload_n 0, 1) := by decide +kernel
theorem dX9_fees_127 : decode cX9_fees 127 = .ok (.getfield 20, 3) := by decide +kernel
theorem dX9_fees_130 : decode cX9_fees 130 = .ok (.iload 7, 2) := by decide +kernel
theorem dX9_fees_132 : decode cX9_fees 132 = .ok (.iaload, 1) := by decide +kernel
theorem dX9_fees_133 : decode cX9_fees 133 = .ok (.iload 4, 2) := by decide +kernel
theorem dX9_fees_135 : decode cX9_fees 135 = .ok (.if_icmp .lt 6, 3) := by decide +kernel
theorem dX9_fees_138 : decode cX9_fees 138 = .ok (.goto 14, 3) := by decide +kernel
theorem dX9_fees_141 : decode cX9_fees 141 = .ok (.aload_n 0, 1) := by decide +kernel
theorem dX9_fees_142 : decode cX9_fees 142 = .ok (.getfield 97, 3) := by decide +kernel
theorem dX9_fees_145 : decode cX9_fees 145 = .ok (.iload 7, 2) := by decide +kernel
theorem dX9_fees_147 : decode cX9_fees 147 = .ok (.iconst 0, 1) := by decide +kernel
theorem dX9_fees_148 : decode cX9_fees 148 = .ok (.bastore, 1) := by decide +kernel
theorem dX9_fees_149 : decode cX9_fees 149 = .ok (.iconst 1, 1) := by decide +kernel
theorem dX9_fees_150 : decode cX9_fees 150 = .ok (.istore 5, 2) := by decide +kernel
theorem dX9_fees_152 : decode cX9_fees 152 = .ok (.iinc 7 1, 3) := by decide +kernel
theorem dX9_fees_155 : decode cX9_fees 155 = .ok (.goto (-48), 3) := by decide +kernel
theorem dX9_fees_158 : decode cX9_fees 158 = .ok (.iload 5, 2) := by decide +kernel
theorem dX9_fees_160 : decode cX9_fees 160 = .ok (.ifCond .eq 6, 3) := by decide +kernel
theorem dX9_fees_163 : decode cX9_fees 163 = .ok (.iinc 3 1, 3) := by decide +kernel
theorem dX9_fees_166 : decode cX9_fees 166 = .ok (.goto (-96), 3) := by decide +kernel
theorem dX9_fees_169 : decode cX9_fees 169 = .ok (.iconst 0, 1) := by decide +kernel
theorem dX9_fees_170 : decode cX9_fees 170 = .ok (.istore 6, 2) := by decide +kernel
theorem dX9_fees_172 : decode cX9_fees 172 = .ok (.iconst 0, 1) := by decide +kernel
theorem dX9_fees_173 : decode cX9_fees 173 = .ok (.istore 7, 2) := by decide +kernel
theorem dX9_fees_175 : decode cX9_fees 175 = .ok (.iload 7, 2) := by decide +kernel
theorem dX9_fees_177 : decode cX9_fees 177 = .ok (.aload_n 0, 1) := by decide +kernel
theorem dX9_fees_178 : decode cX9_fees 178 = .ok (.getfield 107, 3) := by decide +kernel
theorem dX9_fees_181 : decode cX9_fees 181 = .ok (.if_icmp .ge 22, 3) := by decide +kernel
theorem dX9_fees_184 : decode cX9_fees 184 = .ok (.aload_n 0, 1) := by decide +kernel
theorem dX9_fees_185 : decode cX9_fees 185 = .ok (.getfield 97, 3) := by decide +kernel
theorem dX9_fees_188 : decode cX9_fees 188 = .ok (.iload 7, 2) := by decide +kernel
theorem dX9_fees_190 : decode cX9_fees 190 = .ok (.baload, 1) := by decide +kernel
theorem dX9_fees_191 : decode cX9_fees 191 = .ok (.ifCond .eq 6, 3) := by decide +kernel
theorem dX9_fees_194 : decode cX9_fees 194 = .ok (.iinc 6 1, 3) := by decide +kernel
theorem dX9_fees_197 : decode cX9_fees 197 = .ok (.iinc 7 1, 3) := by decide +kernel
theorem dX9_fees_200 : decode cX9_fees 200 = .ok (.goto (-25), 3) := by decide +kernel
theorem dX9_fees_203 : decode cX9_fees 203 = .ok (.iload_n 2, 1) := by decide +kernel
theorem dX9_fees_204 : decode cX9_fees 204 = .ok (.ifCond .ne 8, 3) := by decide +kernel
theorem dX9_fees_207 : decode cX9_fees 207 = .ok (.iload 4, 2) := by decide +kernel
theorem dX9_fees_209 : decode cX9_fees 209 = .ok (.goto 14, 3) := by decide +kernel
theorem dX9_fees_212 : decode cX9_fees 212 = .ok (.iload_n 2, 1) := by decide +kernel
theorem dX9_fees_213 : decode cX9_fees 213 = .ok (.iconst 1, 1) := by decide +kernel
theorem dX9_fees_214 : decode cX9_fees 214 = .ok (.if_icmp .ne 7, 3) := by decide +kernel
theorem dX9_fees_217 : decode cX9_fees 217 = .ok (.iload_n 3, 1) := by decide +kernel
theorem dX9_fees_218 : decode cX9_fees 218 = .ok (.goto 5, 3) := by decide +kernel
theorem dX9_fees_221 : decode cX9_fees 221 = .ok (.iload 6, 2) := by decide +kernel
theorem dX9_fees_223 : decode cX9_fees 223 = .ok (.ireturn, 1) := by decide +kernel
theorem dX9_party_0 : decode cX9_party 0 = .ok (.aload_n 0, 1) := by decide +kernel
theorem dX9_party_1 : decode cX9_party 1 = .ok (.iconst 0, 1) := by decide +kernel
theorem dX9_party_2 : decode cX9_party 2 = .ok (.putfield 1, 3) := by decide +kernel
theorem dX9_party_5 : decode cX9_party 5 = .ok (.aload_n 0, 1) := by decide +kernel
theorem dX9_party_6 : decode cX9_party 6 = .ok (.iload_n 1, 1) := by decide +kernel
theorem dX9_party_7 : decode cX9_party 7 = .ok (.iload_n 2, 1) := by decide +kernel
theorem dX9_party_8 : decode cX9_party 8 = .ok (.invokevirtual 110, 3) := by decide +kernel
theorem dX9_party_11 : decode cX9_party 11 = .ok (.ifCond .ne 5, 3) := by decide +kernel
theorem dX9_party_14 : decode cX9_party 14 = .ok (.iconst (-1), 1) := by decide +kernel
theorem dX9_party_15 : decode cX9_party 15 = .ok (.ireturn, 1) := by decide +kernel
theorem dX9_party_16 : decode cX9_party 16 = .ok (.aload_n 0, 1) := by decide +kernel
theorem dX9_party_17 : decode cX9_party 17 = .ok (.iload_n 1, 1) := by decide +kernel
theorem dX9_party_18 : decode cX9_party 18 = .ok (.iload_n 2, 1) := by decide +kernel
theorem dX9_party_19 : decode cX9_party 19 = .ok (.invokevirtual 118, 3) := by decide +kernel
theorem dX9_party_22 : decode cX9_party 22 = .ok (.istore_n 3, 1) := by decide +kernel
theorem dX9_party_23 : decode cX9_party 23 = .ok (.iload_n 3, 1) := by decide +kernel
theorem dX9_party_24 : decode cX9_party 24 = .ok (.iconst (-1), 1) := by decide +kernel
theorem dX9_party_25 : decode cX9_party 25 = .ok (.if_icmp .eq 13, 3) := by decide +kernel
theorem dX9_party_28 : decode cX9_party 28 = .ok (.aload_n 0, 1) := by decide +kernel
theorem dX9_party_29 : decode cX9_party 29 = .ok (.getfield 67, 3) := by decide +kernel
theorem dX9_party_32 : decode cX9_party 32 = .ok (.iload_n 3, 1) := by decide +kernel
theorem dX9_party_33 : decode cX9_party 33 = .ok (.iaload, 1) := by decide +kernel
theorem dX9_party_34 : decode cX9_party 34 = .ok (.iconst 4, 1) := by decide +kernel
theorem dX9_party_35 : decode cX9_party 35 = .ok (.if_icmp .lt 15, 3) := by decide +kernel
theorem dX9_party_38 : decode cX9_party 38 = .ok (.aload_n 0, 1) := by decide +kernel
theorem dX9_party_39 : decode cX9_party 39 = .ok (.getfield 33, 3) := by decide +kernel
theorem dX9_party_42 : decode cX9_party 42 = .ok (.bipush 53, 2) := by decide +kernel
theorem dX9_party_44 : decode cX9_party 44 = .ok (.iload_n 1, 1) := by decide +kernel
theorem dX9_party_45 : decode cX9_party 45 = .ok (.imul, 1) := by decide +kernel
theorem dX9_party_46 : decode cX9_party 46 = .ok (.iload_n 2, 1) := by decide +kernel
theorem dX9_party_47 : decode cX9_party 47 = .ok (.iadd, 1) := by decide +kernel
theorem dX9_party_48 : decode cX9_party 48 = .ok (.iaload, 1) := by decide +kernel
theorem dX9_party_49 : decode cX9_party 49 = .ok (.ireturn, 1) := by decide +kernel
theorem dX9_party_50 : decode cX9_party 50 = .ok (.aload_n 0, 1) := by decide +kernel
theorem dX9_party_51 : decode cX9_party 51 = .ok (.getfield 67, 3) := by decide +kernel
theorem dX9_party_54 : decode cX9_party 54 = .ok (.iload_n 3, 1) := by decide +kernel
theorem dX9_party_55 : decode cX9_party 55 = .ok (.iaload, 1) := by decide +kernel
theorem dX9_party_56 : decode cX9_party 56 = .ok (.ifCond .eq 13, 3) := by decide +kernel
theorem dX9_party_59 : decode cX9_party 59 = .ok (.aload_n 0, 1) := by decide +kernel
theorem dX9_party_60 : decode cX9_party 60 = .ok (.getfield 67, 3) := by decide +kernel
theorem dX9_party_63 : decode cX9_party 63 = .ok (.iload_n 3, 1) := by decide +kernel
theorem dX9_party_64 : decode cX9_party 64 = .ok (.iaload, 1) := by decide +kernel
theorem dX9_party_65 : decode cX9_party 65 = .ok (.iconst 2, 1) := by decide +kernel
theorem dX9_party_66 : decode cX9_party 66 = .ok (.if_icmp .ne 8, 3) := by decide +kernel
theorem dX9_party_69 : decode cX9_party 69 = .ok (.bipush (-2), 2) := by decide +kernel
theorem dX9_party_71 : decode cX9_party 71 = .ok (.goto 9, 3) := by decide +kernel
theorem dX9_party_74 : decode cX9_party 74 = .ok (.aload_n 0, 1) := by decide +kernel
theorem dX9_party_75 : decode cX9_party 75 = .ok (.getfield 73, 3) := by decide +kernel
theorem dX9_party_78 : decode cX9_party 78 = .ok (.iload_n 3, 1) := by decide +kernel
theorem dX9_party_79 : decode cX9_party 79 = .ok (.iaload, 1) := by decide +kernel
theorem dX9_party_80 : decode cX9_party 80 = .ok (.ireturn, 1) := by decide +kernel
theorem dX9_of_0 : decode cX9_of 0 = .ok (.aload_n 0, 1) := by decide +kernel
theorem dX9_of_1 : decode cX9_of 1 = .ok (.iconst 0, 1) := by decide +kernel
theorem dX9_of_2 : decode cX9_of 2 = .ok (.putfield 1, 3) := by decide +kernel
theorem dX9_of_5 : decode cX9_of 5 = .ok (.iload_n 1, 1) := by decide +kernel
theorem dX9_of_6 : decode cX9_of 6 = .ok (.ifCond .lt 21, 3) := by decide +kernel
theorem dX9_of_9 : decode cX9_of 9 = .ok (.iload_n 1, 1) := by decide +kernel
theorem dX9_of_10 : decode cX9_of 10 = .ok (.aload_n 0, 1) := by decide +kernel
theorem dX9_of_11 : decode cX9_of 11 = .ok (.getfield 203, 3) := by decide +kernel
theorem dX9_of_14 : decode cX9_of 14 = .ok (.if_icmp .ge 13, 3) := by decide +kernel
theorem dX9_of_17 : decode cX9_of 17 = .ok (.iload_n 2, 1) := by decide +kernel
theorem dX9_of_18 : decode cX9_of 18 = .ok (.iconst 0, 1) := by decide +kernel
theorem dX9_of_19 : decode cX9_of 19 = .ok (.bipush 7, 2) := by decide +kernel
theorem dX9_of_21 : decode cX9_of 21 = .ok (.invokestatic 100, 3) := by decide +kernel
theorem dX9_of_24 : decode cX9_of 24 = .ok (.ifCond .ne 10, 3) := by decide +kernel
theorem dX9_of_27 : decode cX9_of 27 = .ok (.aload_n 0, 1) := by decide +kernel
theorem dX9_of_28 : decode cX9_of 28 = .ok (.iconst 1, 1) := by decide +kernel
theorem dX9_of_29 : decode cX9_of 29 = .ok (.putfield 1, 3) := by decide +kernel
theorem dX9_of_32 : decode cX9_of 32 = .ok (.iconst 0, 1) := by decide +kernel
theorem dX9_of_33 : decode cX9_of 33 = .ok (.ireturn, 1) := by decide +kernel
theorem dX9_of_34 : decode cX9_of 34 = .ok (.iload_n 2, 1) := by decide +kernel
theorem dX9_of_35 : decode cX9_of 35 = .ok (.tableswitch 104 0 6 #[41, 48, 55, 62, 69, 76, 83], 41) := by decide +kernel
theorem dX9_of_76 : decode cX9_of 76 = .ok (.aload_n 0, 1) := by decide +kernel
theorem dX9_of_77 : decode cX9_of 77 = .ok (.getfield 52, 3) := by decide +kernel
theorem dX9_of_80 : decode cX9_of 80 = .ok (.iload_n 1, 1) := by decide +kernel
theorem dX9_of_81 : decode cX9_of 81 = .ok (.iaload, 1) := by decide +kernel
theorem dX9_of_82 : decode cX9_of 82 = .ok (.ireturn, 1) := by decide +kernel
theorem dX9_of_83 : decode cX9_of 83 = .ok (.aload_n 0, 1) := by decide +kernel
theorem dX9_of_84 : decode cX9_of 84 = .ok (.getfield 55, 3) := by decide +kernel
theorem dX9_of_87 : decode cX9_of 87 = .ok (.iload_n 1, 1) := by decide +kernel
theorem dX9_of_88 : decode cX9_of 88 = .ok (.iaload, 1) := by decide +kernel
theorem dX9_of_89 : decode cX9_of 89 = .ok (.ireturn, 1) := by decide +kernel
theorem dX9_of_90 : decode cX9_of 90 = .ok (.aload_n 0, 1) := by decide +kernel
theorem dX9_of_91 : decode cX9_of 91 = .ok (.getfield 58, 3) := by decide +kernel
theorem dX9_of_94 : decode cX9_of 94 = .ok (.iload_n 1, 1) := by decide +kernel
theorem dX9_of_95 : decode cX9_of 95 = .ok (.iaload, 1) := by decide +kernel
theorem dX9_of_96 : decode cX9_of 96 = .ok (.ireturn, 1) := by decide +kernel
theorem dX9_of_97 : decode cX9_of 97 = .ok (.aload_n 0, 1) := by decide +kernel
theorem dX9_of_98 : decode cX9_of 98 = .ok (.getfield 61, 3) := by decide +kernel
theorem dX9_of_101 : decode cX9_of 101 = .ok (.iload_n 1, 1) := by decide +kernel
theorem dX9_of_102 : decode cX9_of 102 = .ok (.iaload, 1) := by decide +kernel
theorem dX9_of_103 : decode cX9_of 103 = .ok (.ireturn, 1) := by decide +kernel
theorem dX9_of_104 : decode cX9_of 104 = .ok (.aload_n 0, 1) := by decide +kernel
theorem dX9_of_105 : decode cX9_of 105 = .ok (.getfield 64, 3) := by decide +kernel
theorem dX9_of_108 : decode cX9_of 108 = .ok (.iload_n 1, 1) := by decide +kernel
theorem dX9_of_109 : decode cX9_of 109 = .ok (.iaload, 1) := by decide +kernel
theorem dX9_of_110 : decode cX9_of 110 = .ok (.ireturn, 1) := by decide +kernel
theorem dX9_of_111 : decode cX9_of 111 = .ok (.aload_n 0, 1) := by decide +kernel
theorem dX9_of_112 : decode cX9_of 112 = .ok (.getfield 67, 3) := by decide +kernel
theorem dX9_of_115 : decode cX9_of 115 = .ok (.iload_n 1, 1) := by decide +kernel
theorem dX9_of_116 : decode cX9_of 116 = .ok (.iaload, 1) := by decide +kernel
theorem dX9_of_117 : decode cX9_of 117 = .ok (.ireturn, 1) := by decide +kernel
theorem dX9_of_118 : decode cX9_of 118 = .ok (.aload_n 0, 1) := by decide +kernel
theorem dX9_of_119 : decode cX9_of 119 = .ok (.getfield 67, 3) := by decide +kernel
theorem dX9_of_122 : decode cX9_of 122 = .ok (.iload_n 1, 1) := by decide +kernel
theorem dX9_of_123 : decode cX9_of 123 = .ok (.iaload, 1) := by decide +kernel
theorem dX9_of_124 : decode cX9_of 124 = .ok (.iconst 1, 1) := by decide +kernel
theorem dX9_of_125 : decode cX9_of 125 = .ok (.if_icmp .ne 12, 3) := by decide +kernel
theorem dX9_of_128 : decode cX9_of 128 = .ok (.aload_n 0, 1) := by decide +kernel
theorem dX9_of_129 : decode cX9_of 129 = .ok (.getfield 70, 3) := by decide +kernel
theorem dX9_of_132 : decode cX9_of 132 = .ok (.iload_n 1, 1) := by decide +kernel
theorem dX9_of_133 : decode cX9_of 133 = .ok (.iaload, 1) := by decide +kernel
theorem dX9_of_134 : decode cX9_of 134 = .ok (.goto 4, 3) := by decide +kernel
theorem dX9_of_137 : decode cX9_of 137 = .ok (.iconst (-1), 1) := by decide +kernel
theorem dX9_of_138 : decode cX9_of 138 = .ok (.ireturn, 1) := by decide +kernel
theorem dX9_of_139 : decode cX9_of 139 = .ok (.aload_n 0, 1) := by decide +kernel
theorem dX9_of_140 : decode cX9_of 140 = .ok (.getfield 67, 3) := by decide +kernel
theorem dX9_of_143 : decode cX9_of 143 = .ok (.iload_n 1, 1) := by decide +kernel
theorem dX9_of_144 : decode cX9_of 144 = .ok (.iaload, 1) := by decide +kernel
theorem dX9_of_145 : decode cX9_of 145 = .ok (.iconst 1, 1) := by decide +kernel
theorem dX9_of_146 : decode cX9_of 146 = .ok (.if_icmp .eq 13, 3) := by decide +kernel
theorem dX9_of_149 : decode cX9_of 149 = .ok (.aload_n 0, 1) := by decide +kernel
theorem dX9_of_150 : decode cX9_of 150 = .ok (.getfield 67, 3) := by decide +kernel
theorem dX9_of_153 : decode cX9_of 153 = .ok (.iload_n 1, 1) := by decide +kernel
theorem dX9_of_154 : decode cX9_of 154 = .ok (.iaload, 1) := by decide +kernel
theorem dX9_of_155 : decode cX9_of 155 = .ok (.iconst 3, 1) := by decide +kernel
theorem dX9_of_156 : decode cX9_of 156 = .ok (.if_icmp .ne 12, 3) := by decide +kernel
theorem dX9_of_159 : decode cX9_of 159 = .ok (.aload_n 0, 1) := by decide +kernel
theorem dX9_of_160 : decode cX9_of 160 = .ok (.getfield 73, 3) := by decide +kernel
theorem dX9_of_163 : decode cX9_of 163 = .ok (.iload_n 1, 1) := by decide +kernel
theorem dX9_of_164 : decode cX9_of 164 = .ok (.iaload, 1) := by decide +kernel
theorem dX9_of_165 : decode cX9_of 165 = .ok (.goto 4, 3) := by decide +kernel
theorem dX9_of_168 : decode cX9_of 168 = .ok (.iconst (-1), 1) := by decide +kernel
theorem dX9_of_169 : decode cX9_of 169 = .ok (.ireturn, 1) := by decide +kernel
theorem dX9_ownerOf_0 : decode cX9_ownerOf 0 = .ok (.aload_n 0, 1) := by decide +kernel
theorem dX9_ownerOf_1 : decode cX9_ownerOf 1 = .ok (.iconst 0, 1) := by decide +kernel
theorem dX9_ownerOf_2 : decode cX9_ownerOf 2 = .ok (.putfield 1, 3) := by decide +kernel
theorem dX9_ownerOf_5 : decode cX9_ownerOf 5 = .ok (.iload_n 1, 1) := by decide +kernel
theorem dX9_ownerOf_6 : decode cX9_ownerOf 6 = .ok (.ifCond .lt 11, 3) := by decide +kernel
theorem dX9_ownerOf_9 : decode cX9_ownerOf 9 = .ok (.iload_n 1, 1) := by decide +kernel
theorem dX9_ownerOf_10 : decode cX9_ownerOf 10 = .ok (.aload_n 0, 1) := by decide +kernel
theorem dX9_ownerOf_11 : decode cX9_ownerOf 11 = .ok (.getfield 107, 3) := by decide +kernel
theorem dX9_ownerOf_14 : decode cX9_ownerOf 14 = .ok (.if_icmp .lt 5, 3) := by decide +kernel
theorem dX9_ownerOf_17 : decode cX9_ownerOf 17 = .ok (.iconst (-1), 1) := by decide +kernel
theorem dX9_ownerOf_18 : decode cX9_ownerOf 18 = .ok (.ireturn, 1) := by decide +kernel
theorem dX9_ownerOf_19 : decode cX9_ownerOf 19 = .ok (.iload_n 2, 1) := by decide +kernel
theorem dX9_ownerOf_20 : decode cX9_ownerOf 20 = .ok (.tableswitch 105 0 5 #[40, 47, 54, 61, 67, 82], 40) := by decide +kernel
theorem dX9_ownerOf_60 : decode cX9_ownerOf 60 = .ok (.aload_n 0, 1) := by decide +kernel
theorem dX9_ownerOf_61 : decode cX9_ownerOf 61 = .ok (.getfield 23, 3) := by decide +kernel
theorem dX9_ownerOf_64 : decode cX9_ownerOf 64 = .ok (.iload_n 1, 1) := by decide +kernel
theorem dX9_ownerOf_65 : decode cX9_ownerOf 65 = .ok (.iaload, 1) := by decide +kernel
theorem dX9_ownerOf_66 : decode cX9_ownerOf 66 = .ok (.ireturn, 1) := by decide +kernel
theorem dX9_ownerOf_67 : decode cX9_ownerOf 67 = .ok (.aload_n 0, 1) := by decide +kernel
theorem dX9_ownerOf_68 : decode cX9_ownerOf 68 = .ok (.getfield 26, 3) := by decide +kernel
theorem dX9_ownerOf_71 : decode cX9_ownerOf 71 = .ok (.iload_n 1, 1) := by decide +kernel
theorem dX9_ownerOf_72 : decode cX9_ownerOf 72 = .ok (.iaload, 1) := by decide +kernel
theorem dX9_ownerOf_73 : decode cX9_ownerOf 73 = .ok (.ireturn, 1) := by decide +kernel
theorem dX9_ownerOf_74 : decode cX9_ownerOf 74 = .ok (.aload_n 0, 1) := by decide +kernel
theorem dX9_ownerOf_75 : decode cX9_ownerOf 75 = .ok (.getfield 20, 3) := by decide +kernel
theorem dX9_ownerOf_78 : decode cX9_ownerOf 78 = .ok (.iload_n 1, 1) := by decide +kernel
theorem dX9_ownerOf_79 : decode cX9_ownerOf 79 = .ok (.iaload, 1) := by decide +kernel
theorem dX9_ownerOf_80 : decode cX9_ownerOf 80 = .ok (.ireturn, 1) := by decide +kernel
theorem dX9_ownerOf_81 : decode cX9_ownerOf 81 = .ok (.aload_n 0, 1) := by decide +kernel
theorem dX9_ownerOf_82 : decode cX9_ownerOf 82 = .ok (.iload_n 1, 1) := by decide +kernel
theorem dX9_ownerOf_83 : decode cX9_ownerOf 83 = .ok (.invokevirtual 263, 3) := by decide +kernel
theorem dX9_ownerOf_86 : decode cX9_ownerOf 86 = .ok (.ireturn, 1) := by decide +kernel
theorem dX9_ownerOf_87 : decode cX9_ownerOf 87 = .ok (.aload_n 0, 1) := by decide +kernel
theorem dX9_ownerOf_88 : decode cX9_ownerOf 88 = .ok (.getfield 29, 3) := by decide +kernel
theorem dX9_ownerOf_91 : decode cX9_ownerOf 91 = .ok (.iload_n 1, 1) := by decide +kernel
theorem dX9_ownerOf_92 : decode cX9_ownerOf 92 = .ok (.baload, 1) := by decide +kernel
theorem dX9_ownerOf_93 : decode cX9_ownerOf 93 = .ok (.ifCond .eq 7, 3) := by decide +kernel
theorem dX9_ownerOf_96 : decode cX9_ownerOf 96 = .ok (.iconst 1, 1) := by decide +kernel
theorem dX9_ownerOf_97 : decode cX9_ownerOf 97 = .ok (.goto 4, 3) := by decide +kernel
theorem dX9_ownerOf_100 : decode cX9_ownerOf 100 = .ok (.iconst 0, 1) := by decide +kernel
theorem dX9_ownerOf_101 : decode cX9_ownerOf 101 = .ok (.ireturn, 1) := by decide +kernel
theorem dX9_ownerOf_102 : decode cX9_ownerOf 102 = .ok (.aload_n 0, 1) := by decide +kernel
theorem dX9_ownerOf_103 : decode cX9_ownerOf 103 = .ok (.getfield 76, 3) := by decide +kernel
theorem dX9_ownerOf_106 : decode cX9_ownerOf 106 = .ok (.iconst 4, 1) := by decide +kernel
theorem dX9_ownerOf_107 : decode cX9_ownerOf 107 = .ok (.sipush 200, 3) := by decide +kernel
theorem dX9_ownerOf_110 : decode cX9_ownerOf 110 = .ok (.iload_n 1, 1) := by decide +kernel
theorem dX9_ownerOf_111 : decode cX9_ownerOf 111 = .ok (.iadd, 1) := by decide +kernel
theorem dX9_ownerOf_112 : decode cX9_ownerOf 112 = .ok (.imul, 1) := by decide +kernel
theorem dX9_ownerOf_113 : decode cX9_ownerOf 113 = .ok (.iconst 3, 1) := by decide +kernel
theorem dX9_ownerOf_114 : decode cX9_ownerOf 114 = .ok (.iadd, 1) := by decide +kernel
theorem dX9_ownerOf_115 : decode cX9_ownerOf 115 = .ok (.iaload, 1) := by decide +kernel
theorem dX9_ownerOf_116 : decode cX9_ownerOf 116 = .ok (.ifCond .ne 7, 3) := by decide +kernel
theorem dX9_ownerOf_119 : decode cX9_ownerOf 119 = .ok (.iconst 0, 1) := by decide +kernel
theorem dX9_ownerOf_120 : decode cX9_ownerOf 120 = .ok (.goto 4, 3) := by decide +kernel
theorem dX9_ownerOf_123 : decode cX9_ownerOf 123 = .ok (.iconst 1, 1) := by decide +kernel
theorem dX9_ownerOf_124 : decode cX9_ownerOf 124 = .ok (.ireturn, 1) := by decide +kernel
theorem dX9_ownerOf_125 : decode cX9_ownerOf 125 = .ok (.iconst (-1), 1) := by decide +kernel
theorem dX9_ownerOf_126 : decode cX9_ownerOf 126 = .ok (.ireturn, 1) := by decide +kernel
theorem dX9_count_0 : decode cX9_count 0 = .ok (.aload_n 0, 1) := by decide +kernel
theorem dX9_count_1 : decode cX9_count 1 = .ok (.iconst 0, 1) := by decide +kernel
theorem dX9_count_2 : decode cX9_count 2 = .ok (.putfield 1, 3) := by decide +kernel
theorem dX9_count_5 : decode cX9_count 5 = .ok (.iconst 0, 1) := by decide +kernel
theorem dX9_count_6 : decode cX9_count 6 = .ok (.istore_n 2, 1) := by decide +kernel
theorem dX9_count_7 : decode cX9_count 7 = .ok (.iload_n 1, 1) := by decide +kernel
theorem dX9_count_8 : decode cX9_count 8 = .ok (.tableswitch 138 0 9 #[56, 61, 66, 71, 76, 81, 87, 93, 98, 111], 56) := by decide +kernel
theorem dX9_count_64 : decode cX9_count 64 = .ok (.aload_n 0, 1) := by decide +kernel
theorem dX9_count_65 : decode cX9_count 65 = .ok (.getfield 104, 3) := by decide +kernel
theorem dX9_count_68 : decode cX9_count 68 = .ok (.ireturn, 1) := by decide +kernel
theorem dX9_count_69 : decode cX9_count 69 = .ok (.aload_n 0, 1) := by decide +kernel
theorem dX9_count_70 : decode cX9_count 70 = .ok (.getfield 107, 3) := by decide +kernel
theorem dX9_count_73 : decode cX9_count 73 = .ok (.ireturn, 1) := by decide +kernel
theorem dX9_count_74 : decode cX9_count 74 = .ok (.aload_n 0, 1) := by decide +kernel
theorem dX9_count_75 : decode cX9_count 75 = .ok (.getfield 206, 3) := by decide +kernel
theorem dX9_count_78 : decode cX9_count 78 = .ok (.ireturn, 1) := by decide +kernel
theorem dX9_count_79 : decode cX9_count 79 = .ok (.aload_n 0, 1) := by decide +kernel
theorem dX9_count_80 : decode cX9_count 80 = .ok (.getfield 197, 3) := by decide +kernel
theorem dX9_count_83 : decode cX9_count 83 = .ok (.ireturn, 1) := by decide +kernel
theorem dX9_count_84 : decode cX9_count 84 = .ok (.aload_n 0, 1) := by decide +kernel
theorem dX9_count_85 : decode cX9_count 85 = .ok (.getfield 203, 3) := by decide +kernel
theorem dX9_count_88 : decode cX9_count 88 = .ok (.ireturn, 1) := by decide +kernel
theorem dX9_count_89 : decode cX9_count 89 = .ok (.aload_n 0, 1) := by decide +kernel
theorem dX9_count_90 : decode cX9_count 90 = .ok (.iconst 0, 1) := by decide +kernel
theorem dX9_count_91 : decode cX9_count 91 = .ok (.invokevirtual 209, 3) := by decide +kernel
theorem dX9_count_94 : decode cX9_count 94 = .ok (.ireturn, 1) := by decide +kernel
theorem dX9_count_95 : decode cX9_count 95 = .ok (.aload_n 0, 1) := by decide +kernel
theorem dX9_count_96 : decode cX9_count 96 = .ok (.iconst 2, 1) := by decide +kernel
theorem dX9_count_97 : decode cX9_count 97 = .ok (.invokevirtual 209, 3) := by decide +kernel
theorem dX9_count_100 : decode cX9_count 100 = .ok (.ireturn, 1) := by decide +kernel
theorem dX9_count_101 : decode cX9_count 101 = .ok (.aload_n 0, 1) := by decide +kernel
theorem dX9_count_102 : decode cX9_count 102 = .ok (.getfield 122, 3) := by decide +kernel
theorem dX9_count_105 : decode cX9_count 105 = .ok (.ireturn, 1) := by decide +kernel
theorem dX9_count_106 : decode cX9_count 106 = .ok (.aload_n 0, 1) := by decide +kernel
theorem dX9_count_107 : decode cX9_count 107 = .ok (.invokevirtual 259, 3) := by decide +kernel
theorem dX9_count_110 : decode cX9_count 110 = .ok (.ifCond .eq 7, 3) := by decide +kernel
theorem dX9_count_113 : decode cX9_count 113 = .ok (.iconst 1, 1) := by decide +kernel
theorem dX9_count_114 : decode cX9_count 114 = .ok (.goto 4, 3) := by decide +kernel
theorem dX9_count_117 : decode cX9_count 117 = .ok (.iconst 0, 1) := by decide +kernel
theorem dX9_count_118 : decode cX9_count 118 = .ok (.ireturn, 1) := by decide +kernel
theorem dX9_count_119 : decode cX9_count 119 = .ok (.iconst 0, 1) := by decide +kernel
theorem dX9_count_120 : decode cX9_count 120 = .ok (.istore_n 3, 1) := by decide +kernel
theorem dX9_count_121 : decode cX9_count 121 = .ok (.iload_n 3, 1) := by decide +kernel
theorem dX9_count_122 : decode cX9_count 122 = .ok (.aload_n 0, 1) := by decide +kernel
theorem dX9_count_123 : decode cX9_count 123 = .ok (.getfield 107, 3) := by decide +kernel
theorem dX9_count_126 : decode cX9_count 126 = .ok (.if_icmp .ge 18, 3) := by decide +kernel
theorem dX9_count_129 : decode cX9_count 129 = .ok (.iload_n 2, 1) := by decide +kernel
theorem dX9_count_130 : decode cX9_count 130 = .ok (.aload_n 0, 1) := by decide +kernel
theorem dX9_count_131 : decode cX9_count 131 = .ok (.getfield 23, 3) := by decide +kernel
theorem dX9_count_134 : decode cX9_count 134 = .ok (.iload_n 3, 1) := by decide +kernel
theorem dX9_count_135 : decode cX9_count 135 = .ok (.iaload, 1) := by decide +kernel
theorem dX9_count_136 : decode cX9_count 136 = .ok (.iadd, 1) := by decide +kernel
theorem dX9_count_137 : decode cX9_count 137 = .ok (.istore_n 2, 1) := by decide +kernel
theorem dX9_count_138 : decode cX9_count 138 = .ok (.iinc 3 1, 3) := by decide +kernel
theorem dX9_count_141 : decode cX9_count 141 = .ok (.goto (-20), 3) := by decide +kernel
theorem dX9_count_144 : decode cX9_count 144 = .ok (.iload_n 2, 1) := by decide +kernel
theorem dX9_count_145 : decode cX9_count 145 = .ok (.ireturn, 1) := by decide +kernel
theorem dX9_count_146 : decode cX9_count 146 = .ok (.iconst (-1), 1) := by decide +kernel
theorem dX9_count_147 : decode cX9_count 147 = .ok (.ireturn, 1) := by decide +kernel
theorem dJ6_bitCount_0f7a4_0 : decode cJ6_bitCount_0f7a4 0 = .ok (.iload_n 0, 1) := by decide +kernel
theorem dJ6_bitCount_0f7a4_1 : decode cJ6_bitCount_0f7a4 1 = .ok (.iload_n 0, 1) := by decide +kernel
theorem dJ6_bitCount_0f7a4_2 : decode cJ6_bitCount_0f7a4 2 = .ok (.iconst 1, 1) := by decide +kernel
theorem dJ6_bitCount_0f7a4_3 : decode cJ6_bitCount_0f7a4 3 = .ok (.iushr, 1) := by decide +kernel
theorem dJ6_bitCount_0f7a4_4 : decode cJ6_bitCount_0f7a4 4 = .ok (.ldc_w 265, 3) := by decide +kernel
theorem dJ6_bitCount_0f7a4_7 : decode cJ6_bitCount_0f7a4 7 = .ok (.iand, 1) := by decide +kernel
theorem dJ6_bitCount_0f7a4_8 : decode cJ6_bitCount_0f7a4 8 = .ok (.isub, 1) := by decide +kernel
theorem dJ6_bitCount_0f7a4_9 : decode cJ6_bitCount_0f7a4 9 = .ok (.istore_n 0, 1) := by decide +kernel
theorem dJ6_bitCount_0f7a4_10 : decode cJ6_bitCount_0f7a4 10 = .ok (.iload_n 0, 1) := by decide +kernel
theorem dJ6_bitCount_0f7a4_11 : decode cJ6_bitCount_0f7a4 11 = .ok (.ldc_w 266, 3) := by decide +kernel
theorem dJ6_bitCount_0f7a4_14 : decode cJ6_bitCount_0f7a4 14 = .ok (.iand, 1) := by decide +kernel
theorem dJ6_bitCount_0f7a4_15 : decode cJ6_bitCount_0f7a4 15 = .ok (.iload_n 0, 1) := by decide +kernel
theorem dJ6_bitCount_0f7a4_16 : decode cJ6_bitCount_0f7a4 16 = .ok (.iconst 2, 1) := by decide +kernel
theorem dJ6_bitCount_0f7a4_17 : decode cJ6_bitCount_0f7a4 17 = .ok (.iushr, 1) := by decide +kernel
theorem dJ6_bitCount_0f7a4_18 : decode cJ6_bitCount_0f7a4 18 = .ok (.ldc_w 266, 3) := by decide +kernel
theorem dJ6_bitCount_0f7a4_21 : decode cJ6_bitCount_0f7a4 21 = .ok (.iand, 1) := by decide +kernel
theorem dJ6_bitCount_0f7a4_22 : decode cJ6_bitCount_0f7a4 22 = .ok (.iadd, 1) := by decide +kernel
theorem dJ6_bitCount_0f7a4_23 : decode cJ6_bitCount_0f7a4 23 = .ok (.istore_n 0, 1) := by decide +kernel
theorem dJ6_bitCount_0f7a4_24 : decode cJ6_bitCount_0f7a4 24 = .ok (.iload_n 0, 1) := by decide +kernel
theorem dJ6_bitCount_0f7a4_25 : decode cJ6_bitCount_0f7a4 25 = .ok (.iload_n 0, 1) := by decide +kernel
theorem dJ6_bitCount_0f7a4_26 : decode cJ6_bitCount_0f7a4 26 = .ok (.iconst 4, 1) := by decide +kernel
theorem dJ6_bitCount_0f7a4_27 : decode cJ6_bitCount_0f7a4 27 = .ok (.iushr, 1) := by decide +kernel
theorem dJ6_bitCount_0f7a4_28 : decode cJ6_bitCount_0f7a4 28 = .ok (.iadd, 1) := by decide +kernel
theorem dJ6_bitCount_0f7a4_29 : decode cJ6_bitCount_0f7a4 29 = .ok (.ldc_w 267, 3) := by decide +kernel
theorem dJ6_bitCount_0f7a4_32 : decode cJ6_bitCount_0f7a4 32 = .ok (.iand, 1) := by decide +kernel
theorem dJ6_bitCount_0f7a4_33 : decode cJ6_bitCount_0f7a4 33 = .ok (.istore_n 0, 1) := by decide +kernel
theorem dJ6_bitCount_0f7a4_34 : decode cJ6_bitCount_0f7a4 34 = .ok (.iload_n 0, 1) := by decide +kernel
theorem dJ6_bitCount_0f7a4_35 : decode cJ6_bitCount_0f7a4 35 = .ok (.iload_n 0, 1) := by decide +kernel
theorem dJ6_bitCount_0f7a4_36 : decode cJ6_bitCount_0f7a4 36 = .ok (.bipush 8, 2) := by decide +kernel
theorem dJ6_bitCount_0f7a4_38 : decode cJ6_bitCount_0f7a4 38 = .ok (.iushr, 1) := by decide +kernel
theorem dJ6_bitCount_0f7a4_39 : decode cJ6_bitCount_0f7a4 39 = .ok (.iadd, 1) := by decide +kernel
theorem dJ6_bitCount_0f7a4_40 : decode cJ6_bitCount_0f7a4 40 = .ok (.istore_n 0, 1) := by decide +kernel
theorem dJ6_bitCount_0f7a4_41 : decode cJ6_bitCount_0f7a4 41 = .ok (.iload_n 0, 1) := by decide +kernel
theorem dJ6_bitCount_0f7a4_42 : decode cJ6_bitCount_0f7a4 42 = .ok (.iload_n 0, 1) := by decide +kernel
theorem dJ6_bitCount_0f7a4_43 : decode cJ6_bitCount_0f7a4 43 = .ok (.bipush 16, 2) := by decide +kernel
theorem dJ6_bitCount_0f7a4_45 : decode cJ6_bitCount_0f7a4 45 = .ok (.iushr, 1) := by decide +kernel
theorem dJ6_bitCount_0f7a4_46 : decode cJ6_bitCount_0f7a4 46 = .ok (.iadd, 1) := by decide +kernel
theorem dJ6_bitCount_0f7a4_47 : decode cJ6_bitCount_0f7a4 47 = .ok (.istore_n 0, 1) := by decide +kernel
theorem dJ6_bitCount_0f7a4_48 : decode cJ6_bitCount_0f7a4 48 = .ok (.iload_n 0, 1) := by decide +kernel
theorem dJ6_bitCount_0f7a4_49 : decode cJ6_bitCount_0f7a4 49 = .ok (.bipush 63, 2) := by decide +kernel
theorem dJ6_bitCount_0f7a4_51 : decode cJ6_bitCount_0f7a4 51 = .ok (.iand, 1) := by decide +kernel
theorem dJ6_bitCount_0f7a4_52 : decode cJ6_bitCount_0f7a4 52 = .ok (.ireturn, 1) := by decide +kernel
theorem dJ9_max_7cf53_0 : decode cJ9_max_7cf53 0 = .ok (.iload_n 0, 1) := by decide +kernel
theorem dJ9_max_7cf53_1 : decode cJ9_max_7cf53 1 = .ok (.iload_n 1, 1) := by decide +kernel
theorem dJ9_max_7cf53_2 : decode cJ9_max_7cf53 2 = .ok (.if_icmp .lt 7, 3) := by decide +kernel
theorem dJ9_max_7cf53_5 : decode cJ9_max_7cf53 5 = .ok (.iload_n 0, 1) := by decide +kernel
theorem dJ9_max_7cf53_6 : decode cJ9_max_7cf53 6 = .ok (.goto 4, 3) := by decide +kernel
theorem dJ9_max_7cf53_9 : decode cJ9_max_7cf53 9 = .ok (.iload_n 1, 1) := by decide +kernel
theorem dJ9_max_7cf53_10 : decode cJ9_max_7cf53 10 = .ok (.ireturn, 1) := by decide +kernel
theorem dJ9_min_7cf53_0 : decode cJ9_min_7cf53 0 = .ok (.iload_n 0, 1) := by decide +kernel
theorem dJ9_min_7cf53_1 : decode cJ9_min_7cf53 1 = .ok (.iload_n 1, 1) := by decide +kernel
theorem dJ9_min_7cf53_2 : decode cJ9_min_7cf53 2 = .ok (.if_icmp .gt 7, 3) := by decide +kernel
theorem dJ9_min_7cf53_5 : decode cJ9_min_7cf53 5 = .ok (.iload_n 0, 1) := by decide +kernel
theorem dJ9_min_7cf53_6 : decode cJ9_min_7cf53 6 = .ok (.goto 4, 3) := by decide +kernel
theorem dJ9_min_7cf53_9 : decode cJ9_min_7cf53 9 = .ok (.iload_n 1, 1) := by decide +kernel
theorem dJ9_min_7cf53_10 : decode cJ9_min_7cf53 10 = .ok (.ireturn, 1) := by decide +kernel
theorem dJ0_length_8abf5_0 : decode cJ0_length_8abf5 0 = .ok (.aload_n 0, 1) := by decide +kernel
theorem dJ0_length_8abf5_1 : decode cJ0_length_8abf5 1 = .ok (.getfield 9, 3) := by decide +kernel
theorem dJ0_length_8abf5_4 : decode cJ0_length_8abf5 4 = .ok (.arraylength, 1) := by decide +kernel
theorem dJ0_length_8abf5_5 : decode cJ0_length_8abf5 5 = .ok (.aload_n 0, 1) := by decide +kernel
theorem dJ0_length_8abf5_6 : decode cJ0_length_8abf5 6 = .ok (.invokevirtual 335, 3) := by decide +kernel
theorem dJ0_length_8abf5_9 : decode cJ0_length_8abf5 9 = .ok (.ishr, 1) := by decide +kernel
theorem dJ0_length_8abf5_10 : decode cJ0_length_8abf5 10 = .ok (.ireturn, 1) := by decide +kernel
theorem dJ0_charAt_5068e_0 : decode cJ0_charAt_5068e 0 = .ok (.aload_n 0, 1) := by decide +kernel
theorem dJ0_charAt_5068e_1 : decode cJ0_charAt_5068e 1 = .ok (.invokevirtual 492, 3) := by decide +kernel
theorem dJ0_charAt_5068e_4 : decode cJ0_charAt_5068e 4 = .ok (.ifCond .eq 12, 3) := by decide +kernel
theorem dJ0_charAt_5068e_7 : decode cJ0_charAt_5068e 7 = .ok (.aload_n 0, 1) := by decide +kernel
theorem dJ0_charAt_5068e_8 : decode cJ0_charAt_5068e 8 = .ok (.getfield 9, 3) := by decide +kernel
theorem dJ0_charAt_5068e_11 : decode cJ0_charAt_5068e 11 = .ok (.iload_n 1, 1) := by decide +kernel
theorem dJ0_charAt_5068e_12 : decode cJ0_charAt_5068e 12 = .ok (.invokestatic 495, 3) := by decide +kernel
theorem dJ0_charAt_5068e_15 : decode cJ0_charAt_5068e 15 = .ok (.ireturn, 1) := by decide +kernel
theorem dJ0_charAt_5068e_16 : decode cJ0_charAt_5068e 16 = .ok (.aload_n 0, 1) := by decide +kernel
theorem dJ0_charAt_5068e_17 : decode cJ0_charAt_5068e 17 = .ok (.getfield 9, 3) := by decide +kernel
theorem dJ0_charAt_5068e_20 : decode cJ0_charAt_5068e 20 = .ok (.iload_n 1, 1) := by decide +kernel
theorem dJ0_charAt_5068e_21 : decode cJ0_charAt_5068e 21 = .ok (.invokestatic 498, 3) := by decide +kernel
theorem dJ0_charAt_5068e_24 : decode cJ0_charAt_5068e 24 = .ok (.ireturn, 1) := by decide +kernel
theorem dJ0_coder_7d493_0 : decode cJ0_coder_7d493 0 = .ok (.getstatic 38, 3) := by decide +kernel
theorem dJ0_coder_7d493_3 : decode cJ0_coder_7d493 3 = .ok (.ifCond .eq 10, 3) := by decide +kernel
theorem dJ0_coder_7d493_6 : decode cJ0_coder_7d493 6 = .ok (.aload_n 0, 1) := by decide +kernel
theorem dJ0_coder_7d493_7 : decode cJ0_coder_7d493 7 = .ok (.getfield 15, 3) := by decide +kernel
theorem dJ0_coder_7d493_10 : decode cJ0_coder_7d493 10 = .ok (.goto 4, 3) := by decide +kernel
theorem dJ0_coder_7d493_13 : decode cJ0_coder_7d493 13 = .ok (.iconst 1, 1) := by decide +kernel
theorem dJ0_coder_7d493_14 : decode cJ0_coder_7d493 14 = .ok (.ireturn, 1) := by decide +kernel
theorem dJ0_isLatin1_aae02_0 : decode cJ0_isLatin1_aae02 0 = .ok (.getstatic 38, 3) := by decide +kernel
theorem dJ0_isLatin1_aae02_3 : decode cJ0_isLatin1_aae02 3 = .ok (.ifCond .eq 14, 3) := by decide +kernel
theorem dJ0_isLatin1_aae02_6 : decode cJ0_isLatin1_aae02 6 = .ok (.aload_n 0, 1) := by decide +kernel
theorem dJ0_isLatin1_aae02_7 : decode cJ0_isLatin1_aae02 7 = .ok (.getfield 15, 3) := by decide +kernel
theorem dJ0_isLatin1_aae02_10 : decode cJ0_isLatin1_aae02 10 = .ok (.ifCond .ne 7, 3) := by decide +kernel
theorem dJ0_isLatin1_aae02_13 : decode cJ0_isLatin1_aae02 13 = .ok (.iconst 1, 1) := by decide +kernel
theorem dJ0_isLatin1_aae02_14 : decode cJ0_isLatin1_aae02 14 = .ok (.goto 4, 3) := by decide +kernel
theorem dJ0_isLatin1_aae02_17 : decode cJ0_isLatin1_aae02 17 = .ok (.iconst 0, 1) := by decide +kernel
theorem dJ0_isLatin1_aae02_18 : decode cJ0_isLatin1_aae02 18 = .ok (.ireturn, 1) := by decide +kernel
theorem dJ0_checkIndex_df160_0 : decode cJ0_checkIndex_df160 0 = .ok (.iload_n 0, 1) := by decide +kernel
theorem dJ0_checkIndex_df160_1 : decode cJ0_checkIndex_df160 1 = .ok (.iload_n 1, 1) := by decide +kernel
theorem dJ0_checkIndex_df160_2 : decode cJ0_checkIndex_df160 2 = .ok (.getstatic 1053, 3) := by decide +kernel
theorem dJ0_checkIndex_df160_5 : decode cJ0_checkIndex_df160 5 = .ok (.invokestatic 1059, 3) := by decide +kernel
theorem dJ0_checkIndex_df160_8 : decode cJ0_checkIndex_df160 8 = .ok (.pop, 1) := by decide +kernel
theorem dJ0_checkIndex_df160_9 : decode cJ0_checkIndex_df160 9 = .ok (.return_, 1) := by decide +kernel
theorem dJ1_charAt_3b067_0 : decode cJ1_charAt_3b067 0 = .ok (.iload_n 1, 1) := by decide +kernel
theorem dJ1_charAt_3b067_1 : decode cJ1_charAt_3b067 1 = .ok (.aload_n 0, 1) := by decide +kernel
theorem dJ1_charAt_3b067_2 : decode cJ1_charAt_3b067 2 = .ok (.arraylength, 1) := by decide +kernel
theorem dJ1_charAt_3b067_3 : decode cJ1_charAt_3b067 3 = .ok (.invokestatic 9, 3) := by decide +kernel
theorem dJ1_charAt_3b067_6 : decode cJ1_charAt_3b067 6 = .ok (.aload_n 0, 1) := by decide +kernel
theorem dJ1_charAt_3b067_7 : decode cJ1_charAt_3b067 7 = .ok (.iload_n 1, 1) := by decide +kernel
theorem dJ1_charAt_3b067_8 : decode cJ1_charAt_3b067 8 = .ok (.baload, 1) := by decide +kernel
theorem dJ1_charAt_3b067_9 : decode cJ1_charAt_3b067 9 = .ok (.sipush 255, 3) := by decide +kernel
theorem dJ1_charAt_3b067_12 : decode cJ1_charAt_3b067 12 = .ok (.iand, 1) := by decide +kernel
theorem dJ1_charAt_3b067_13 : decode cJ1_charAt_3b067 13 = .ok (.i2c, 1) := by decide +kernel
theorem dJ1_charAt_3b067_14 : decode cJ1_charAt_3b067 14 = .ok (.ireturn, 1) := by decide +kernel
theorem dJ2_getChar_3b067_0 : decode cJ2_getChar_3b067 0 = .ok (.getstatic 44, 3) := by decide +kernel
theorem dJ2_getChar_3b067_3 : decode cJ2_getChar_3b067 3 = .ok (.ifCond .ne 25, 3) := by decide +kernel
theorem dJ2_getChar_3b067_6 : decode cJ2_getChar_3b067 6 = .ok (.iload_n 1, 1) := by decide +kernel
theorem dJ2_getChar_3b067_7 : decode cJ2_getChar_3b067 7 = .ok (.ifCond .lt 11, 3) := by decide +kernel
theorem dJ2_getChar_3b067_10 : decode cJ2_getChar_3b067 10 = .ok (.iload_n 1, 1) := by decide +kernel
theorem dJ2_getChar_3b067_11 : decode cJ2_getChar_3b067 11 = .ok (.aload_n 0, 1) := by decide +kernel
theorem dJ2_getChar_3b067_12 : decode cJ2_getChar_3b067 12 = .ok (.invokestatic 48, 3) := by decide +kernel
theorem dJ2_getChar_3b067_15 : decode cJ2_getChar_3b067 15 = .ok (.if_icmp .lt 13, 3) := by decide +kernel
theorem dJ2_getChar_3b067_18 : decode cJ2_getChar_3b067 18 = .ok (.new 52, 3) := by decide +kernel
theorem dJ2_getChar_3b067_21 : decode cJ2_getChar_3b067 21 = .ok (.dup, 1) := by decide +kernel
theorem dJ2_getChar_3b067_22 : decode cJ2_getChar_3b067 22 = .ok (.ldc 54, 2) := by decide +kernel
theorem dJ2_getChar_3b067_24 : decode cJ2_getChar_3b067 24 = .ok (.invokespecial 56, 3) := by decide +kernel
theorem dJ2_getChar_3b067_27 : decode cJ2_getChar_3b067 27 = .ok (.athrow, 1) := by decide +kernel
theorem dJ2_getChar_3b067_28 : decode cJ2_getChar_3b067 28 = .ok (.iload_n 1, 1) := by decide +kernel
theorem dJ2_getChar_3b067_29 : decode cJ2_getChar_3b067 29 = .ok (.iconst 1, 1) := by decide +kernel
theorem dJ2_getChar_3b067_30 : decode cJ2_getChar_3b067 30 = .ok (.ishl, 1) := by decide +kernel
theorem dJ2_getChar_3b067_31 : decode cJ2_getChar_3b067 31 = .ok (.istore_n 1, 1) := by decide +kernel
theorem dJ2_getChar_3b067_32 : decode cJ2_getChar_3b067 32 = .ok (.aload_n 0, 1) := by decide +kernel
theorem dJ2_getChar_3b067_33 : decode cJ2_getChar_3b067 33 = .ok (.iload_n 1, 1) := by decide +kernel
theorem dJ2_getChar_3b067_34 : decode cJ2_getChar_3b067 34 = .ok (.iinc 1 1, 3) := by decide +kernel
theorem dJ2_getChar_3b067_37 : decode cJ2_getChar_3b067 37 = .ok (.baload, 1) := by decide +kernel
theorem dJ2_getChar_3b067_38 : decode cJ2_getChar_3b067 38 = .ok (.sipush 255, 3) := by decide +kernel
theorem dJ2_getChar_3b067_41 : decode cJ2_getChar_3b067 41 = .ok (.iand, 1) := by decide +kernel
theorem dJ2_getChar_3b067_42 : decode cJ2_getChar_3b067 42 = .ok (.getstatic 59, 3) := by decide +kernel
theorem dJ2_getChar_3b067_45 : decode cJ2_getChar_3b067 45 = .ok (.ishl, 1) := by decide +kernel
theorem dJ2_getChar_3b067_46 : decode cJ2_getChar_3b067 46 = .ok (.aload_n 0, 1) := by decide +kernel
theorem dJ2_getChar_3b067_47 : decode cJ2_getChar_3b067 47 = .ok (.iload_n 1, 1) := by decide +kernel
theorem dJ2_getChar_3b067_48 : decode cJ2_getChar_3b067 48 = .ok (.baload, 1) := by decide +kernel
theorem dJ2_getChar_3b067_49 : decode cJ2_getChar_3b067 49 = .ok (.sipush 255, 3) := by decide +kernel
theorem dJ2_getChar_3b067_52 : decode cJ2_getChar_3b067 52 = .ok (.iand, 1) := by decide +kernel
theorem dJ2_getChar_3b067_53 : decode cJ2_getChar_3b067 53 = .ok (.getstatic 63, 3) := by decide +kernel
theorem dJ2_getChar_3b067_56 : decode cJ2_getChar_3b067 56 = .ok (.ishl, 1) := by decide +kernel
theorem dJ2_getChar_3b067_57 : decode cJ2_getChar_3b067 57 = .ok (.ior, 1) := by decide +kernel
theorem dJ2_getChar_3b067_58 : decode cJ2_getChar_3b067 58 = .ok (.i2c, 1) := by decide +kernel
theorem dJ2_getChar_3b067_59 : decode cJ2_getChar_3b067 59 = .ok (.ireturn, 1) := by decide +kernel
theorem dJ2_length_9d52b_0 : decode cJ2_length_9d52b 0 = .ok (.aload_n 0, 1) := by decide +kernel
theorem dJ2_length_9d52b_1 : decode cJ2_length_9d52b 1 = .ok (.arraylength, 1) := by decide +kernel
theorem dJ2_length_9d52b_2 : decode cJ2_length_9d52b 2 = .ok (.iconst 1, 1) := by decide +kernel
theorem dJ2_length_9d52b_3 : decode cJ2_length_9d52b 3 = .ok (.ishr, 1) := by decide +kernel
theorem dJ2_length_9d52b_4 : decode cJ2_length_9d52b 4 = .ok (.ireturn, 1) := by decide +kernel
theorem dJ2_charAt_3b067_0 : decode cJ2_charAt_3b067 0 = .ok (.iload_n 1, 1) := by decide +kernel
theorem dJ2_charAt_3b067_1 : decode cJ2_charAt_3b067 1 = .ok (.aload_n 0, 1) := by decide +kernel
theorem dJ2_charAt_3b067_2 : decode cJ2_charAt_3b067 2 = .ok (.invokestatic 67, 3) := by decide +kernel
theorem dJ2_charAt_3b067_5 : decode cJ2_charAt_3b067 5 = .ok (.aload_n 0, 1) := by decide +kernel
theorem dJ2_charAt_3b067_6 : decode cJ2_charAt_3b067 6 = .ok (.iload_n 1, 1) := by decide +kernel
theorem dJ2_charAt_3b067_7 : decode cJ2_charAt_3b067 7 = .ok (.invokestatic 71, 3) := by decide +kernel
theorem dJ2_charAt_3b067_10 : decode cJ2_charAt_3b067 10 = .ok (.ireturn, 1) := by decide +kernel
theorem dJ2_checkIndex_2214a_0 : decode cJ2_checkIndex_2214a 0 = .ok (.iload_n 0, 1) := by decide +kernel
theorem dJ2_checkIndex_2214a_1 : decode cJ2_checkIndex_2214a 1 = .ok (.aload_n 1, 1) := by decide +kernel
theorem dJ2_checkIndex_2214a_2 : decode cJ2_checkIndex_2214a 2 = .ok (.invokestatic 48, 3) := by decide +kernel
theorem dJ2_checkIndex_2214a_5 : decode cJ2_checkIndex_2214a 5 = .ok (.invokestatic 414, 3) := by decide +kernel
theorem dJ2_checkIndex_2214a_8 : decode cJ2_checkIndex_2214a 8 = .ok (.return_, 1) := by decide +kernel
theorem dJ7_fill_53178_0 : decode cJ7_fill_53178 0 = .ok (.iconst 0, 1) := by decide +kernel
theorem dJ7_fill_53178_1 : decode cJ7_fill_53178 1 = .ok (.istore_n 2, 1) := by decide +kernel
theorem dJ7_fill_53178_2 : decode cJ7_fill_53178 2 = .ok (.aload_n 0, 1) := by decide +kernel
theorem dJ7_fill_53178_3 : decode cJ7_fill_53178 3 = .ok (.arraylength, 1) := by decide +kernel
theorem dJ7_fill_53178_4 : decode cJ7_fill_53178 4 = .ok (.istore_n 3, 1) := by decide +kernel
theorem dJ7_fill_53178_5 : decode cJ7_fill_53178 5 = .ok (.iload_n 2, 1) := by decide +kernel
theorem dJ7_fill_53178_6 : decode cJ7_fill_53178 6 = .ok (.iload_n 3, 1) := by decide +kernel
theorem dJ7_fill_53178_7 : decode cJ7_fill_53178 7 = .ok (.if_icmp .ge 13, 3) := by decide +kernel
theorem dJ7_fill_53178_10 : decode cJ7_fill_53178 10 = .ok (.aload_n 0, 1) := by decide +kernel
theorem dJ7_fill_53178_11 : decode cJ7_fill_53178 11 = .ok (.iload_n 2, 1) := by decide +kernel
theorem dJ7_fill_53178_12 : decode cJ7_fill_53178 12 = .ok (.iload_n 1, 1) := by decide +kernel
theorem dJ7_fill_53178_13 : decode cJ7_fill_53178 13 = .ok (.iastore, 1) := by decide +kernel
theorem dJ7_fill_53178_14 : decode cJ7_fill_53178 14 = .ok (.iinc 2 1, 3) := by decide +kernel
theorem dJ7_fill_53178_17 : decode cJ7_fill_53178 17 = .ok (.goto (-12), 3) := by decide +kernel
theorem dJ7_fill_53178_20 : decode cJ7_fill_53178 20 = .ok (.return_, 1) := by decide +kernel
theorem dJ3_checkIndex_8e157_0 : decode cJ3_checkIndex_8e157 0 = .ok (.iload_n 0, 1) := by decide +kernel
theorem dJ3_checkIndex_8e157_1 : decode cJ3_checkIndex_8e157 1 = .ok (.ifCond .lt 8, 3) := by decide +kernel
theorem dJ3_checkIndex_8e157_4 : decode cJ3_checkIndex_8e157 4 = .ok (.iload_n 0, 1) := by decide +kernel
theorem dJ3_checkIndex_8e157_5 : decode cJ3_checkIndex_8e157 5 = .ok (.iload_n 1, 1) := by decide +kernel
theorem dJ3_checkIndex_8e157_6 : decode cJ3_checkIndex_8e157 6 = .ok (.if_icmp .lt 10, 3) := by decide +kernel
theorem dJ3_checkIndex_8e157_9 : decode cJ3_checkIndex_8e157 9 = .ok (.aload_n 2, 1) := by decide +kernel
theorem dJ3_checkIndex_8e157_10 : decode cJ3_checkIndex_8e157 10 = .ok (.iload_n 0, 1) := by decide +kernel
theorem dJ3_checkIndex_8e157_11 : decode cJ3_checkIndex_8e157 11 = .ok (.iload_n 1, 1) := by decide +kernel
theorem dJ3_checkIndex_8e157_12 : decode cJ3_checkIndex_8e157 12 = .ok (.invokestatic 95, 3) := by decide +kernel
theorem dJ3_checkIndex_8e157_15 : decode cJ3_checkIndex_8e157 15 = .ok (.athrow, 1) := by decide +kernel
theorem dJ3_checkIndex_8e157_16 : decode cJ3_checkIndex_8e157 16 = .ok (.iload_n 0, 1) := by decide +kernel
theorem dJ3_checkIndex_8e157_17 : decode cJ3_checkIndex_8e157 17 = .ok (.ireturn, 1) := by decide +kernel
theorem dL_of_0 : decode cL_of 0 = .ok (.aload_n 3, 1) := by decide +kernel
theorem dL_of_1 : decode cL_of 1 = .ok (.iconst 0, 1) := by decide +kernel
theorem dL_of_2 : decode cL_of 2 = .ok (.aload_n 0, 1) := by decide +kernel
theorem dL_of_3 : decode cL_of 3 = .ok (.iload_n 1, 1) := by decide +kernel
theorem dL_of_4 : decode cL_of 4 = .ok (.iload_n 2, 1) := by decide +kernel
theorem dL_of_5 : decode cL_of 5 = .ok (.invokevirtual 7, 3) := by decide +kernel
theorem dL_of_8 : decode cL_of 8 = .ok (.i2l, 1) := by decide +kernel
theorem dL_of_9 : decode cL_of 9 = .ok (.lastore, 1) := by decide +kernel
theorem dL_of_10 : decode cL_of 10 = .ok (.goto 7, 3) := by decide +kernel
theorem dL_of_13 : decode cL_of 13 = .ok (.astore 4, 2) := by decide +kernel
theorem dL_of_15 : decode cL_of 15 = .ok (.iconst 1, 1) := by decide +kernel
theorem dL_of_16 : decode cL_of 16 = .ok (.ireturn, 1) := by decide +kernel
theorem dL_of_17 : decode cL_of 17 = .ok (.iconst 0, 1) := by decide +kernel
theorem dL_of_18 : decode cL_of 18 = .ok (.ireturn, 1) := by decide +kernel
theorem dL_law_0 : decode cL_law 0 = .ok (.new 8, 3) := by decide +kernel
theorem dL_law_3 : decode cL_law 3 = .ok (.dup, 1) := by decide +kernel
theorem dL_law_4 : decode cL_law 4 = .ok (.invokespecial 15, 3) := by decide +kernel
theorem dL_law_7 : decode cL_law 7 = .ok (.astore_n 1, 1) := by decide +kernel
theorem dL_law_8 : decode cL_law 8 = .ok (.new 16, 3) := by decide +kernel
theorem dL_law_11 : decode cL_law 11 = .ok (.dup, 1) := by decide +kernel
theorem dL_law_12 : decode cL_law 12 = .ok (.invokespecial 18, 3) := by decide +kernel
theorem dL_law_15 : decode cL_law 15 = .ok (.astore_n 2, 1) := by decide +kernel
theorem dL_law_16 : decode cL_law 16 = .ok (.iconst 1, 1) := by decide +kernel
theorem dL_law_17 : decode cL_law 17 = .ok (.newarray .long, 2) := by decide +kernel
theorem dL_law_19 : decode cL_law 19 = .ok (.astore_n 3, 1) := by decide +kernel
theorem dL_law_20 : decode cL_law 20 = .ok (.iconst 0, 1) := by decide +kernel
theorem dL_law_21 : decode cL_law 21 = .ok (.istore 4, 2) := by decide +kernel
theorem dL_law_23 : decode cL_law 23 = .ok (.iload 4, 2) := by decide +kernel
theorem dL_law_25 : decode cL_law 25 = .ok (.aload_n 0, 1) := by decide +kernel
theorem dL_law_26 : decode cL_law 26 = .ok (.arraylength, 1) := by decide +kernel
theorem dL_law_27 : decode cL_law 27 = .ok (.bipush 6, 2) := by decide +kernel
theorem dL_law_29 : decode cL_law 29 = .ok (.isub, 1) := by decide +kernel
theorem dL_law_30 : decode cL_law 30 = .ok (.if_icmp .gt 1023, 3) := by decide +kernel
theorem dL_law_33 : decode cL_law 33 = .ok (.aload_n 0, 1) := by decide +kernel
theorem dL_law_34 : decode cL_law 34 = .ok (.iload 4, 2) := by decide +kernel
theorem dL_law_36 : decode cL_law 36 = .ok (.iaload, 1) := by decide +kernel
theorem dL_law_37 : decode cL_law 37 = .ok (.bipush 31, 2) := by decide +kernel
theorem dL_law_39 : decode cL_law 39 = .ok (.iand, 1) := by decide +kernel
theorem dL_law_40 : decode cL_law 40 = .ok (.tableswitch 1007 0 23 #[112, 149, 174, 223, 296, 321, 334, 347, 384, 433, 506, 579, 604, 629, 666, 679, 728, 753, 766, 831, 868, 905, 945, 982], 112) := by decide +kernel
theorem dL_law_152 : decode cL_law 152 = .ok (.aload_n 1, 1) := by decide +kernel
theorem dL_law_153 : decode cL_law 153 = .ok (.aload_n 0, 1) := by decide +kernel
theorem dL_law_154 : decode cL_law 154 = .ok (.iload 4, 2) := by decide +kernel
theorem dL_law_156 : decode cL_law 156 = .ok (.iconst 1, 1) := by decide +kernel
theorem dL_law_157 : decode cL_law 157 = .ok (.iadd, 1) := by decide +kernel
theorem dL_law_158 : decode cL_law 158 = .ok (.iaload, 1) := by decide +kernel
theorem dL_law_159 : decode cL_law 159 = .ok (.aload_n 0, 1) := by decide +kernel
theorem dL_law_160 : decode cL_law 160 = .ok (.iload 4, 2) := by decide +kernel
theorem dL_law_162 : decode cL_law 162 = .ok (.iconst 2, 1) := by decide +kernel
theorem dL_law_163 : decode cL_law 163 = .ok (.iadd, 1) := by decide +kernel
theorem dL_law_164 : decode cL_law 164 = .ok (.iaload, 1) := by decide +kernel
theorem dL_law_165 : decode cL_law 165 = .ok (.invokevirtual 19, 3) := by decide +kernel
theorem dL_law_168 : decode cL_law 168 = .ok (.pop, 1) := by decide +kernel
theorem dL_law_169 : decode cL_law 169 = .ok (.aload_n 2, 1) := by decide +kernel
theorem dL_law_170 : decode cL_law 170 = .ok (.aload_n 0, 1) := by decide +kernel
theorem dL_law_171 : decode cL_law 171 = .ok (.iload 4, 2) := by decide +kernel
theorem dL_law_173 : decode cL_law 173 = .ok (.iconst 1, 1) := by decide +kernel
theorem dL_law_174 : decode cL_law 174 = .ok (.iadd, 1) := by decide +kernel
theorem dL_law_175 : decode cL_law 175 = .ok (.iaload, 1) := by decide +kernel
theorem dL_law_176 : decode cL_law 176 = .ok (.aload_n 0, 1) := by decide +kernel
theorem dL_law_177 : decode cL_law 177 = .ok (.iload 4, 2) := by decide +kernel
theorem dL_law_179 : decode cL_law 179 = .ok (.iconst 2, 1) := by decide +kernel
theorem dL_law_180 : decode cL_law 180 = .ok (.iadd, 1) := by decide +kernel
theorem dL_law_181 : decode cL_law 181 = .ok (.iaload, 1) := by decide +kernel
theorem dL_law_182 : decode cL_law 182 = .ok (.invokevirtual 22, 3) := by decide +kernel
theorem dL_law_185 : decode cL_law 185 = .ok (.pop, 1) := by decide +kernel
theorem dL_law_186 : decode cL_law 186 = .ok (.goto 861, 3) := by decide +kernel
theorem dL_law_189 : decode cL_law 189 = .ok (.aload_n 1, 1) := by decide +kernel
theorem dL_law_190 : decode cL_law 190 = .ok (.aload_n 0, 1) := by decide +kernel
theorem dL_law_191 : decode cL_law 191 = .ok (.iload 4, 2) := by decide +kernel
theorem dL_law_193 : decode cL_law 193 = .ok (.iconst 1, 1) := by decide +kernel
theorem dL_law_194 : decode cL_law 194 = .ok (.iadd, 1) := by decide +kernel
theorem dL_law_195 : decode cL_law 195 = .ok (.iaload, 1) := by decide +kernel
theorem dL_law_196 : decode cL_law 196 = .ok (.invokevirtual 23, 3) := by decide +kernel
theorem dL_law_199 : decode cL_law 199 = .ok (.pop, 1) := by decide +kernel
theorem dL_law_200 : decode cL_law 200 = .ok (.aload_n 2, 1) := by decide +kernel
theorem dL_law_201 : decode cL_law 201 = .ok (.aload_n 0, 1) := by decide +kernel
theorem dL_law_202 : decode cL_law 202 = .ok (.iload 4, 2) := by decide +kernel
theorem dL_law_204 : decode cL_law 204 = .ok (.iconst 1, 1) := by decide +kernel
theorem dL_law_205 : decode cL_law 205 = .ok (.iadd, 1) := by decide +kernel
theorem dL_law_206 : decode cL_law 206 = .ok (.iaload, 1) := by decide +kernel
theorem dL_law_207 : decode cL_law 207 = .ok (.invokevirtual 27, 3) := by decide +kernel
theorem dL_law_210 : decode cL_law 210 = .ok (.pop, 1) := by decide +kernel
theorem dL_law_211 : decode cL_law 211 = .ok (.goto 836, 3) := by decide +kernel
theorem dL_law_214 : decode cL_law 214 = .ok (.aload_n 1, 1) := by decide +kernel
theorem dL_law_215 : decode cL_law 215 = .ok (.aload_n 0, 1) := by decide +kernel
theorem dL_law_216 : decode cL_law 216 = .ok (.iload 4, 2) := by decide +kernel
theorem dL_law_218 : decode cL_law 218 = .ok (.iconst 1, 1) := by decide +kernel
theorem dL_law_219 : decode cL_law 219 = .ok (.iadd, 1) := by decide +kernel
theorem dL_law_220 : decode cL_law 220 = .ok (.iaload, 1) := by decide +kernel
theorem dL_law_221 : decode cL_law 221 = .ok (.aload_n 0, 1) := by decide +kernel
theorem dL_law_222 : decode cL_law 222 = .ok (.iload 4, 2) := by decide +kernel
theorem dL_law_224 : decode cL_law 224 = .ok (.iconst 2, 1) := by decide +kernel
theorem dL_law_225 : decode cL_law 225 = .ok (.iadd, 1) := by decide +kernel
theorem dL_law_226 : decode cL_law 226 = .ok (.iaload, 1) := by decide +kernel
theorem dL_law_227 : decode cL_law 227 = .ok (.aload_n 0, 1) := by decide +kernel
theorem dL_law_228 : decode cL_law 228 = .ok (.iload 4, 2) := by decide +kernel
theorem dL_law_230 : decode cL_law 230 = .ok (.iconst 3, 1) := by decide +kernel
theorem dL_law_231 : decode cL_law 231 = .ok (.iadd, 1) := by decide +kernel
theorem dL_law_232 : decode cL_law 232 = .ok (.iaload, 1) := by decide +kernel
theorem dL_law_233 : decode cL_law 233 = .ok (.invokevirtual 28, 3) := by decide +kernel
theorem dL_law_236 : decode cL_law 236 = .ok (.pop, 1) := by decide +kernel
theorem dL_law_237 : decode cL_law 237 = .ok (.aload_n 2, 1) := by decide +kernel
theorem dL_law_238 : decode cL_law 238 = .ok (.aload_n 0, 1) := by decide +kernel
theorem dL_law_239 : decode cL_law 239 = .ok (.iload 4, 2) := by decide +kernel
theorem dL_law_241 : decode cL_law 241 = .ok (.iconst 1, 1) := by decide +kernel
theorem dL_law_242 : decode cL_law 242 = .ok (.iadd, 1) := by decide +kernel
theorem dL_law_243 : decode cL_law 243 = .ok (.iaload, 1) := by decide +kernel
theorem dL_law_244 : decode cL_law 244 = .ok (.aload_n 0, 1) := by decide +kernel
theorem dL_law_245 : decode cL_law 245 = .ok (.iload 4, 2) := by decide +kernel
theorem dL_law_247 : decode cL_law 247 = .ok (.iconst 2, 1) := by decide +kernel
theorem dL_law_248 : decode cL_law 248 = .ok (.iadd, 1) := by decide +kernel
theorem dL_law_249 : decode cL_law 249 = .ok (.iaload, 1) := by decide +kernel
theorem dL_law_250 : decode cL_law 250 = .ok (.aload_n 0, 1) := by decide +kernel
