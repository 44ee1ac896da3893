theorem dX8_rings_54 : decode cX8_rings 54 = .ok (.aload_n 0, 1) := by decide +kernel
theorem dX8_rings_55 : decode cX8_rings 55 = .ok (.getfield 63, 3) := by decide +kernel
theorem dX8_rings_58 : decode cX8_rings 58 = .ok (.aload_n 0, 1) := by decide +kernel
theorem dX8_rings_59 : decode cX8_rings 59 = .ok (.getfield 30, 3) := by decide +kernel
theorem dX8_rings_62 : decode cX8_rings 62 = .ok (.iload_n 2, 1) := by decide +kernel
theorem dX8_rings_63 : decode cX8_rings 63 = .ok (.aaload, 1) := by decide +kernel
theorem dX8_rings_64 : decode cX8_rings 64 = .ok (.invokevirtual 168, 3) := by decide +kernel
theorem dX8_rings_67 : decode cX8_rings 67 = .ok (.iinc 2 1, 3) := by decide +kernel
theorem dX8_rings_70 : decode cX8_rings 70 = .ok (.goto (-48), 3) := by decide +kernel
theorem dX8_rings_73 : decode cX8_rings 73 = .ok (.aload_n 0, 1) := by decide +kernel
theorem dX8_rings_74 : decode cX8_rings 74 = .ok (.getfield 63, 3) := by decide +kernel
theorem dX8_rings_77 : decode cX8_rings 77 = .ok (.iload_n 1, 1) := by decide +kernel
theorem dX8_rings_78 : decode cX8_rings 78 = .ok (.invokevirtual 172, 3) := by decide +kernel
theorem dX8_rings_81 : decode cX8_rings 81 = .ok (.aload_n 0, 1) := by decide +kernel
theorem dX8_rings_82 : decode cX8_rings 82 = .ok (.getfield 63, 3) := by decide +kernel
theorem dX8_rings_85 : decode cX8_rings 85 = .ok (.invokevirtual 175, 3) := by decide +kernel
theorem dX8_rings_88 : decode cX8_rings 88 = .ok (.ireturn, 1) := by decide +kernel
theorem dX8_bank_0 : decode cX8_bank 0 = .ok (.aload_n 0, 1) := by decide +kernel
theorem dX8_bank_1 : decode cX8_bank 1 = .ok (.iload_n 1, 1) := by decide +kernel
theorem dX8_bank_2 : decode cX8_bank 2 = .ok (.iconst 0, 1) := by decide +kernel
theorem dX8_bank_3 : decode cX8_bank 3 = .ok (.invokevirtual 147, 3) := by decide +kernel
theorem dX8_bank_6 : decode cX8_bank 6 = .ok (.astore_n 2, 1) := by decide +kernel
theorem dX8_bank_7 : decode cX8_bank 7 = .ok (.aload_n 2, 1) := by decide +kernel
theorem dX8_bank_8 : decode cX8_bank 8 = .ok (.ifnonnull 5, 3) := by decide +kernel
theorem dX8_bank_11 : decode cX8_bank 11 = .ok (.iconst (-1), 1) := by decide +kernel
theorem dX8_bank_12 : decode cX8_bank 12 = .ok (.ireturn, 1) := by decide +kernel
theorem dX8_bank_13 : decode cX8_bank 13 = .ok (.aload_n 2, 1) := by decide +kernel
theorem dX8_bank_14 : decode cX8_bank 14 = .ok (.iconst 2, 1) := by decide +kernel
theorem dX8_bank_15 : decode cX8_bank 15 = .ok (.putfield 136, 3) := by decide +kernel
theorem dX8_bank_18 : decode cX8_bank 18 = .ok (.aload_n 2, 1) := by decide +kernel
theorem dX8_bank_19 : decode cX8_bank 19 = .ok (.getfield 179, 3) := by decide +kernel
theorem dX8_bank_22 : decode cX8_bank 22 = .ok (.dup, 1) := by decide +kernel
theorem dX8_bank_23 : decode cX8_bank 23 = .ok (.getfield 183, 3) := by decide +kernel
theorem dX8_bank_26 : decode cX8_bank 26 = .ok (.aload_n 2, 1) := by decide +kernel
theorem dX8_bank_27 : decode cX8_bank 27 = .ok (.getfield 186, 3) := by decide +kernel
theorem dX8_bank_30 : decode cX8_bank 30 = .ok (.iadd, 1) := by decide +kernel
theorem dX8_bank_31 : decode cX8_bank 31 = .ok (.putfield 183, 3) := by decide +kernel
theorem dX8_bank_34 : decode cX8_bank 34 = .ok (.aload_n 2, 1) := by decide +kernel
theorem dX8_bank_35 : decode cX8_bank 35 = .ok (.getfield 179, 3) := by decide +kernel
theorem dX8_bank_38 : decode cX8_bank 38 = .ok (.getfield 183, 3) := by decide +kernel
theorem dX8_bank_41 : decode cX8_bank 41 = .ok (.ireturn, 1) := by decide +kernel
theorem dX8_take_0 : decode cX8_take 0 = .ok (.aload_n 0, 1) := by decide +kernel
theorem dX8_take_1 : decode cX8_take 1 = .ok (.iload_n 1, 1) := by decide +kernel
theorem dX8_take_2 : decode cX8_take 2 = .ok (.invokevirtual 88, 3) := by decide +kernel
theorem dX8_take_5 : decode cX8_take 5 = .ok (.astore_n 3, 1) := by decide +kernel
theorem dX8_take_6 : decode cX8_take 6 = .ok (.aload_n 0, 1) := by decide +kernel
theorem dX8_take_7 : decode cX8_take 7 = .ok (.iload_n 2, 1) := by decide +kernel
theorem dX8_take_8 : decode cX8_take 8 = .ok (.iconst 2, 1) := by decide +kernel
theorem dX8_take_9 : decode cX8_take 9 = .ok (.invokevirtual 147, 3) := by decide +kernel
theorem dX8_take_12 : decode cX8_take 12 = .ok (.astore 4, 2) := by decide +kernel
theorem dX8_take_14 : decode cX8_take 14 = .ok (.aload_n 3, 1) := by decide +kernel
theorem dX8_take_15 : decode cX8_take 15 = .ok (.ifnull 8, 3) := by decide +kernel
theorem dX8_take_18 : decode cX8_take 18 = .ok (.aload 4, 2) := by decide +kernel
theorem dX8_take_20 : decode cX8_take 20 = .ok (.ifnonnull 5, 3) := by decide +kernel
theorem dX8_take_23 : decode cX8_take 23 = .ok (.iconst (-1), 1) := by decide +kernel
theorem dX8_take_24 : decode cX8_take 24 = .ok (.ireturn, 1) := by decide +kernel
theorem dX8_take_25 : decode cX8_take 25 = .ok (.aload_n 3, 1) := by decide +kernel
theorem dX8_take_26 : decode cX8_take 26 = .ok (.getfield 183, 3) := by decide +kernel
theorem dX8_take_29 : decode cX8_take 29 = .ok (.aload 4, 2) := by decide +kernel
theorem dX8_take_31 : decode cX8_take 31 = .ok (.getfield 186, 3) := by decide +kernel
theorem dX8_take_34 : decode cX8_take 34 = .ok (.if_icmp .ge 6, 3) := by decide +kernel
theorem dX8_take_37 : decode cX8_take 37 = .ok (.bipush (-2), 2) := by decide +kernel
theorem dX8_take_39 : decode cX8_take 39 = .ok (.ireturn, 1) := by decide +kernel
theorem dX8_take_40 : decode cX8_take 40 = .ok (.aload 4, 2) := by decide +kernel
theorem dX8_take_42 : decode cX8_take 42 = .ok (.aload_n 3, 1) := by decide +kernel
theorem dX8_take_43 : decode cX8_take 43 = .ok (.invokevirtual 189, 3) := by decide +kernel
theorem dX8_take_46 : decode cX8_take 46 = .ok (.aload_n 3, 1) := by decide +kernel
theorem dX8_take_47 : decode cX8_take 47 = .ok (.getfield 183, 3) := by decide +kernel
theorem dX8_take_50 : decode cX8_take 50 = .ok (.ireturn, 1) := by decide +kernel
theorem dX8_rush_0 : decode cX8_rush 0 = .ok (.iconst 0, 1) := by decide +kernel
theorem dX8_rush_1 : decode cX8_rush 1 = .ok (.istore_n 1, 1) := by decide +kernel
theorem dX8_rush_2 : decode cX8_rush 2 = .ok (.iload_n 1, 1) := by decide +kernel
theorem dX8_rush_3 : decode cX8_rush 3 = .ok (.aload_n 0, 1) := by decide +kernel
theorem dX8_rush_4 : decode cX8_rush 4 = .ok (.getfield 25, 3) := by decide +kernel
theorem dX8_rush_7 : decode cX8_rush 7 = .ok (.if_icmp .ge 35, 3) := by decide +kernel
theorem dX8_rush_10 : decode cX8_rush 10 = .ok (.aload_n 0, 1) := by decide +kernel
theorem dX8_rush_11 : decode cX8_rush 11 = .ok (.getfield 21, 3) := by decide +kernel
theorem dX8_rush_14 : decode cX8_rush 14 = .ok (.iload_n 1, 1) := by decide +kernel
theorem dX8_rush_15 : decode cX8_rush 15 = .ok (.aaload, 1) := by decide +kernel
theorem dX8_rush_16 : decode cX8_rush 16 = .ok (.aload_n 0, 1) := by decide +kernel
theorem dX8_rush_17 : decode cX8_rush 17 = .ok (.getfield 21, 3) := by decide +kernel
theorem dX8_rush_20 : decode cX8_rush 20 = .ok (.iload_n 1, 1) := by decide +kernel
theorem dX8_rush_21 : decode cX8_rush 21 = .ok (.aaload, 1) := by decide +kernel
theorem dX8_rush_22 : decode cX8_rush 22 = .ok (.getfield 164, 3) := by decide +kernel
theorem dX8_rush_25 : decode cX8_rush 25 = .ok (.ifnull 7, 3) := by decide +kernel
theorem dX8_rush_28 : decode cX8_rush 28 = .ok (.iconst 1, 1) := by decide +kernel
theorem dX8_rush_29 : decode cX8_rush 29 = .ok (.goto 4, 3) := by decide +kernel
theorem dX8_rush_32 : decode cX8_rush 32 = .ok (.iconst 0, 1) := by decide +kernel
theorem dX8_rush_33 : decode cX8_rush 33 = .ok (.putfield 193, 3) := by decide +kernel
theorem dX8_rush_36 : decode cX8_rush 36 = .ok (.iinc 1 1, 3) := by decide +kernel
theorem dX8_rush_39 : decode cX8_rush 39 = .ok (.goto (-37), 3) := by decide +kernel
theorem dX8_rush_42 : decode cX8_rush 42 = .ok (.iconst 0, 1) := by decide +kernel
theorem dX8_rush_43 : decode cX8_rush 43 = .ok (.istore_n 1, 1) := by decide +kernel
theorem dX8_rush_44 : decode cX8_rush 44 = .ok (.iconst 0, 1) := by decide +kernel
theorem dX8_rush_45 : decode cX8_rush 45 = .ok (.istore_n 2, 1) := by decide +kernel
theorem dX8_rush_46 : decode cX8_rush 46 = .ok (.iload_n 2, 1) := by decide +kernel
theorem dX8_rush_47 : decode cX8_rush 47 = .ok (.aload_n 0, 1) := by decide +kernel
theorem dX8_rush_48 : decode cX8_rush 48 = .ok (.getfield 25, 3) := by decide +kernel
theorem dX8_rush_51 : decode cX8_rush 51 = .ok (.if_icmp .ge 66, 3) := by decide +kernel
theorem dX8_rush_54 : decode cX8_rush 54 = .ok (.aload_n 0, 1) := by decide +kernel
theorem dX8_rush_55 : decode cX8_rush 55 = .ok (.invokevirtual 197, 3) := by decide +kernel
theorem dX8_rush_58 : decode cX8_rush 58 = .ok (.astore_n 3, 1) := by decide +kernel
theorem dX8_rush_59 : decode cX8_rush 59 = .ok (.aload_n 3, 1) := by decide +kernel
theorem dX8_rush_60 : decode cX8_rush 60 = .ok (.ifnonnull 6, 3) := by decide +kernel
theorem dX8_rush_63 : decode cX8_rush 63 = .ok (.goto 54, 3) := by decide +kernel
theorem dX8_rush_66 : decode cX8_rush 66 = .ok (.aload_n 3, 1) := by decide +kernel
theorem dX8_rush_67 : decode cX8_rush 67 = .ok (.iconst 0, 1) := by decide +kernel
theorem dX8_rush_68 : decode cX8_rush 68 = .ok (.putfield 193, 3) := by decide +kernel
theorem dX8_rush_71 : decode cX8_rush 71 = .ok (.aload_n 0, 1) := by decide +kernel
theorem dX8_rush_72 : decode cX8_rush 72 = .ok (.aload_n 3, 1) := by decide +kernel
theorem dX8_rush_73 : decode cX8_rush 73 = .ok (.invokevirtual 201, 3) := by decide +kernel
theorem dX8_rush_76 : decode cX8_rush 76 = .ok (.astore 4, 2) := by decide +kernel
theorem dX8_rush_78 : decode cX8_rush 78 = .ok (.aload 4, 2) := by decide +kernel
theorem dX8_rush_80 : decode cX8_rush 80 = .ok (.ifnull 31, 3) := by decide +kernel
theorem dX8_rush_83 : decode cX8_rush 83 = .ok (.aload 4, 2) := by decide +kernel
theorem dX8_rush_85 : decode cX8_rush 85 = .ok (.aload_n 3, 1) := by decide +kernel
theorem dX8_rush_86 : decode cX8_rush 86 = .ok (.invokevirtual 189, 3) := by decide +kernel
theorem dX8_rush_89 : decode cX8_rush 89 = .ok (.aload_n 3, 1) := by decide +kernel
theorem dX8_rush_90 : decode cX8_rush 90 = .ok (.dup, 1) := by decide +kernel
theorem dX8_rush_91 : decode cX8_rush 91 = .ok (.getfield 205, 3) := by decide +kernel
theorem dX8_rush_94 : decode cX8_rush 94 = .ok (.aload 4, 2) := by decide +kernel
theorem dX8_rush_96 : decode cX8_rush 96 = .ok (.getfield 186, 3) := by decide +kernel
theorem dX8_rush_99 : decode cX8_rush 99 = .ok (.iadd, 1) := by decide +kernel
theorem dX8_rush_100 : decode cX8_rush 100 = .ok (.putfield 205, 3) := by decide +kernel
theorem dX8_rush_103 : decode cX8_rush 103 = .ok (.aload_n 3, 1) := by decide +kernel
theorem dX8_rush_104 : decode cX8_rush 104 = .ok (.aconst_null, 1) := by decide +kernel
theorem dX8_rush_105 : decode cX8_rush 105 = .ok (.putfield 164, 3) := by decide +kernel
theorem dX8_rush_108 : decode cX8_rush 108 = .ok (.iinc 1 1, 3) := by decide +kernel
theorem dX8_rush_111 : decode cX8_rush 111 = .ok (.iinc 2 1, 3) := by decide +kernel
theorem dX8_rush_114 : decode cX8_rush 114 = .ok (.goto (-68), 3) := by decide +kernel
theorem dX8_rush_117 : decode cX8_rush 117 = .ok (.iload_n 1, 1) := by decide +kernel
theorem dX8_rush_118 : decode cX8_rush 118 = .ok (.ireturn, 1) := by decide +kernel
theorem dX8_shut_0 : decode cX8_shut 0 = .ok (.aload_n 0, 1) := by decide +kernel
theorem dX8_shut_1 : decode cX8_shut 1 = .ok (.iload_n 1, 1) := by decide +kernel
theorem dX8_shut_2 : decode cX8_shut 2 = .ok (.invokevirtual 84, 3) := by decide +kernel
theorem dX8_shut_5 : decode cX8_shut 5 = .ok (.astore 4, 2) := by decide +kernel
theorem dX8_shut_7 : decode cX8_shut 7 = .ok (.aload 4, 2) := by decide +kernel
theorem dX8_shut_9 : decode cX8_shut 9 = .ok (.ifnull 22, 3) := by decide +kernel
theorem dX8_shut_12 : decode cX8_shut 12 = .ok (.iload_n 2, 1) := by decide +kernel
theorem dX8_shut_13 : decode cX8_shut 13 = .ok (.aload_n 0, 1) := by decide +kernel
theorem dX8_shut_14 : decode cX8_shut 14 = .ok (.getfield 57, 3) := by decide +kernel
theorem dX8_shut_17 : decode cX8_shut 17 = .ok (.if_icmp .lt 14, 3) := by decide +kernel
theorem dX8_shut_20 : decode cX8_shut 20 = .ok (.iload_n 2, 1) := by decide +kernel
theorem dX8_shut_21 : decode cX8_shut 21 = .ok (.iload_n 3, 1) := by decide +kernel
theorem dX8_shut_22 : decode cX8_shut 22 = .ok (.if_icmp .gt 9, 3) := by decide +kernel
theorem dX8_shut_25 : decode cX8_shut 25 = .ok (.iload_n 3, 1) := by decide +kernel
theorem dX8_shut_26 : decode cX8_shut 26 = .ok (.bipush 52, 2) := by decide +kernel
theorem dX8_shut_28 : decode cX8_shut 28 = .ok (.if_icmp .le 5, 3) := by decide +kernel
theorem dX8_shut_31 : decode cX8_shut 31 = .ok (.iconst (-1), 1) := by decide +kernel
theorem dX8_shut_32 : decode cX8_shut 32 = .ok (.ireturn, 1) := by decide +kernel
theorem dX8_shut_33 : decode cX8_shut 33 = .ok (.iload_n 2, 1) := by decide +kernel
theorem dX8_shut_34 : decode cX8_shut 34 = .ok (.istore 5, 2) := by decide +kernel
theorem dX8_shut_36 : decode cX8_shut 36 = .ok (.iload 5, 2) := by decide +kernel
theorem dX8_shut_38 : decode cX8_shut 38 = .ok (.iload_n 3, 1) := by decide +kernel
theorem dX8_shut_39 : decode cX8_shut 39 = .ok (.if_icmp .gt 18, 3) := by decide +kernel
theorem dX8_shut_42 : decode cX8_shut 42 = .ok (.aload 4, 2) := by decide +kernel
theorem dX8_shut_44 : decode cX8_shut 44 = .ok (.getfield 132, 3) := by decide +kernel
theorem dX8_shut_47 : decode cX8_shut 47 = .ok (.iload 5, 2) := by decide +kernel
theorem dX8_shut_49 : decode cX8_shut 49 = .ok (.iconst 1, 1) := by decide +kernel
theorem dX8_shut_50 : decode cX8_shut 50 = .ok (.bastore, 1) := by decide +kernel
theorem dX8_shut_51 : decode cX8_shut 51 = .ok (.iinc 5 1, 3) := by decide +kernel
theorem dX8_shut_54 : decode cX8_shut 54 = .ok (.goto (-18), 3) := by decide +kernel
theorem dX8_shut_57 : decode cX8_shut 57 = .ok (.iconst 0, 1) := by decide +kernel
theorem dX8_shut_58 : decode cX8_shut 58 = .ok (.istore 5, 2) := by decide +kernel
theorem dX8_shut_60 : decode cX8_shut 60 = .ok (.iconst 0, 1) := by decide +kernel
theorem dX8_shut_61 : decode cX8_shut 61 = .ok (.istore 6, 2) := by decide +kernel
theorem dX8_shut_63 : decode cX8_shut 63 = .ok (.iload 6, 2) := by decide +kernel
theorem dX8_shut_65 : decode cX8_shut 65 = .ok (.aload_n 0, 1) := by decide +kernel
theorem dX8_shut_66 : decode cX8_shut 66 = .ok (.getfield 34, 3) := by decide +kernel
theorem dX8_shut_69 : decode cX8_shut 69 = .ok (.if_icmp .ge 86, 3) := by decide +kernel
theorem dX8_shut_72 : decode cX8_shut 72 = .ok (.aload_n 0, 1) := by decide +kernel
theorem dX8_shut_73 : decode cX8_shut 73 = .ok (.getfield 30, 3) := by decide +kernel
theorem dX8_shut_76 : decode cX8_shut 76 = .ok (.iload 6, 2) := by decide +kernel
theorem dX8_shut_78 : decode cX8_shut 78 = .ok (.aaload, 1) := by decide +kernel
theorem dX8_shut_79 : decode cX8_shut 79 = .ok (.astore 7, 2) := by decide +kernel
theorem dX8_shut_81 : decode cX8_shut 81 = .ok (.aload 7, 2) := by decide +kernel
theorem dX8_shut_83 : decode cX8_shut 83 = .ok (.getfield 208, 3) := by decide +kernel
theorem dX8_shut_86 : decode cX8_shut 86 = .ok (.aload 4, 2) := by decide +kernel
theorem dX8_shut_88 : decode cX8_shut 88 = .ok (.if_acmp .ne 25, 3) := by decide +kernel
theorem dX8_shut_91 : decode cX8_shut 91 = .ok (.aload 7, 2) := by decide +kernel
theorem dX8_shut_93 : decode cX8_shut 93 = .ok (.getfield 212, 3) := by decide +kernel
theorem dX8_shut_96 : decode cX8_shut 96 = .ok (.iload_n 2, 1) := by decide +kernel
theorem dX8_shut_97 : decode cX8_shut 97 = .ok (.if_icmp .lt 16, 3) := by decide +kernel
theorem dX8_shut_100 : decode cX8_shut 100 = .ok (.aload 7, 2) := by decide +kernel
theorem dX8_shut_102 : decode cX8_shut 102 = .ok (.getfield 212, 3) := by decide +kernel
theorem dX8_shut_105 : decode cX8_shut 105 = .ok (.iload_n 3, 1) := by decide +kernel
theorem dX8_shut_106 : decode cX8_shut 106 = .ok (.if_icmp .gt 7, 3) := by decide +kernel
theorem dX8_shut_109 : decode cX8_shut 109 = .ok (.iconst 1, 1) := by decide +kernel
theorem dX8_shut_110 : decode cX8_shut 110 = .ok (.goto 4, 3) := by decide +kernel
theorem dX8_shut_113 : decode cX8_shut 113 = .ok (.iconst 0, 1) := by decide +kernel
theorem dX8_shut_114 : decode cX8_shut 114 = .ok (.istore 8, 2) := by decide +kernel
theorem dX8_shut_116 : decode cX8_shut 116 = .ok (.iload 8, 2) := by decide +kernel
theorem dX8_shut_118 : decode cX8_shut 118 = .ok (.ifCond .eq 31, 3) := by decide +kernel
theorem dX8_shut_121 : decode cX8_shut 121 = .ok (.aload 7, 2) := by decide +kernel
theorem dX8_shut_123 : decode cX8_shut 123 = .ok (.getfield 215, 3) := by decide +kernel
theorem dX8_shut_126 : decode cX8_shut 126 = .ok (.aload_n 0, 1) := by decide +kernel
theorem dX8_shut_127 : decode cX8_shut 127 = .ok (.getfield 54, 3) := by decide +kernel
theorem dX8_shut_130 : decode cX8_shut 130 = .ok (.if_icmp .ne 19, 3) := by decide +kernel
theorem dX8_shut_133 : decode cX8_shut 133 = .ok (.aload 7, 2) := by decide +kernel
theorem dX8_shut_135 : decode cX8_shut 135 = .ok (.invokevirtual 96, 3) := by decide +kernel
theorem dX8_shut_138 : decode cX8_shut 138 = .ok (.ifCond .eq 11, 3) := by decide +kernel
theorem dX8_shut_141 : decode cX8_shut 141 = .ok (.aload 7, 2) := by decide +kernel
theorem dX8_shut_143 : decode cX8_shut 143 = .ok (.invokevirtual 218, 3) := by decide +kernel
theorem dX8_shut_146 : decode cX8_shut 146 = .ok (.iinc 5 1, 3) := by decide +kernel
theorem dX8_shut_149 : decode cX8_shut 149 = .ok (.iinc 6 1, 3) := by decide +kernel
theorem dX8_shut_152 : decode cX8_shut 152 = .ok (.goto (-89), 3) := by decide +kernel
theorem dX8_shut_155 : decode cX8_shut 155 = .ok (.iload 5, 2) := by decide +kernel
theorem dX8_shut_157 : decode cX8_shut 157 = .ok (.ireturn, 1) := by decide +kernel
theorem dX8_weeks_0 : decode cX8_weeks 0 = .ok (.iload_n 1, 1) := by decide +kernel
theorem dX8_weeks_1 : decode cX8_weeks 1 = .ok (.iconst 1, 1) := by decide +kernel
theorem dX8_weeks_2 : decode cX8_weeks 2 = .ok (.if_icmp .lt 14, 3) := by decide +kernel
theorem dX8_weeks_5 : decode cX8_weeks 5 = .ok (.iload_n 1, 1) := by decide +kernel
theorem dX8_weeks_6 : decode cX8_weeks 6 = .ok (.bipush 52, 2) := by decide +kernel
theorem dX8_weeks_8 : decode cX8_weeks 8 = .ok (.aload_n 0, 1) := by decide +kernel
theorem dX8_weeks_9 : decode cX8_weeks 9 = .ok (.getfield 57, 3) := by decide +kernel
theorem dX8_weeks_12 : decode cX8_weeks 12 = .ok (.isub, 1) := by decide +kernel
theorem dX8_weeks_13 : decode cX8_weeks 13 = .ok (.if_icmp .le 5, 3) := by decide +kernel
theorem dX8_weeks_16 : decode cX8_weeks 16 = .ok (.iconst (-1), 1) := by decide +kernel
theorem dX8_weeks_17 : decode cX8_weeks 17 = .ok (.ireturn, 1) := by decide +kernel
theorem dX8_weeks_18 : decode cX8_weeks 18 = .ok (.aload_n 0, 1) := by decide +kernel
theorem dX8_weeks_19 : decode cX8_weeks 19 = .ok (.dup, 1) := by decide +kernel
theorem dX8_weeks_20 : decode cX8_weeks 20 = .ok (.getfield 57, 3) := by decide +kernel
theorem dX8_weeks_23 : decode cX8_weeks 23 = .ok (.iload_n 1, 1) := by decide +kernel
theorem dX8_weeks_24 : decode cX8_weeks 24 = .ok (.iadd, 1) := by decide +kernel
theorem dX8_weeks_25 : decode cX8_weeks 25 = .ok (.putfield 57, 3) := by decide +kernel
theorem dX8_weeks_28 : decode cX8_weeks 28 = .ok (.aload_n 0, 1) := by decide +kernel
theorem dX8_weeks_29 : decode cX8_weeks 29 = .ok (.aload_n 0, 1) := by decide +kernel
theorem dX8_weeks_30 : decode cX8_weeks 30 = .ok (.getfield 57, 3) := by decide +kernel
theorem dX8_weeks_33 : decode cX8_weeks 33 = .ok (.invokevirtual 221, 3) := by decide +kernel
theorem dX8_weeks_36 : decode cX8_weeks 36 = .ok (.aload_n 0, 1) := by decide +kernel
theorem dX8_weeks_37 : decode cX8_weeks 37 = .ok (.getfield 57, 3) := by decide +kernel
theorem dX8_weeks_40 : decode cX8_weeks 40 = .ok (.ireturn, 1) := by decide +kernel
theorem dX8_year_0 : decode cX8_year 0 = .ok (.aload_n 0, 1) := by decide +kernel
theorem dX8_year_1 : decode cX8_year 1 = .ok (.bipush 52, 2) := by decide +kernel
theorem dX8_year_3 : decode cX8_year 3 = .ok (.invokevirtual 221, 3) := by decide +kernel
theorem dX8_year_6 : decode cX8_year 6 = .ok (.iconst 0, 1) := by decide +kernel
theorem dX8_year_7 : decode cX8_year 7 = .ok (.istore_n 1, 1) := by decide +kernel
theorem dX8_year_8 : decode cX8_year 8 = .ok (.iload_n 1, 1) := by decide +kernel
theorem dX8_year_9 : decode cX8_year 9 = .ok (.aload_n 0, 1) := by decide +kernel
theorem dX8_year_10 : decode cX8_year 10 = .ok (.getfield 15, 3) := by decide +kernel
theorem dX8_year_13 : decode cX8_year 13 = .ok (.if_icmp .ge 18, 3) := by decide +kernel
theorem dX8_year_16 : decode cX8_year 16 = .ok (.aload_n 0, 1) := by decide +kernel
theorem dX8_year_17 : decode cX8_year 17 = .ok (.getfield 11, 3) := by decide +kernel
theorem dX8_year_20 : decode cX8_year 20 = .ok (.iload_n 1, 1) := by decide +kernel
theorem dX8_year_21 : decode cX8_year 21 = .ok (.aaload, 1) := by decide +kernel
theorem dX8_year_22 : decode cX8_year 22 = .ok (.invokevirtual 224, 3) := by decide +kernel
theorem dX8_year_25 : decode cX8_year 25 = .ok (.iinc 1 1, 3) := by decide +kernel
theorem dX8_year_28 : decode cX8_year 28 = .ok (.goto (-20), 3) := by decide +kernel
theorem dX8_year_31 : decode cX8_year 31 = .ok (.aload_n 0, 1) := by decide +kernel
theorem dX8_year_32 : decode cX8_year 32 = .ok (.iconst 0, 1) := by decide +kernel
theorem dX8_year_33 : decode cX8_year 33 = .ok (.putfield 57, 3) := by decide +kernel
theorem dX8_year_36 : decode cX8_year 36 = .ok (.aload_n 0, 1) := by decide +kernel
theorem dX8_year_37 : decode cX8_year 37 = .ok (.dup, 1) := by decide +kernel
theorem dX8_year_38 : decode cX8_year 38 = .ok (.getfield 54, 3) := by decide +kernel
theorem dX8_year_41 : decode cX8_year 41 = .ok (.iconst 1, 1) := by decide +kernel
theorem dX8_year_42 : decode cX8_year 42 = .ok (.iadd, 1) := by decide +kernel
theorem dX8_year_43 : decode cX8_year 43 = .ok (.putfield 54, 3) := by decide +kernel
theorem dX8_year_46 : decode cX8_year 46 = .ok (.aload_n 0, 1) := by decide +kernel
theorem dX8_year_47 : decode cX8_year 47 = .ok (.getfield 54, 3) := by decide +kernel
theorem dX8_year_50 : decode cX8_year 50 = .ok (.ireturn, 1) := by decide +kernel
theorem dX8_dies_0 : decode cX8_dies 0 = .ok (.aload_n 0, 1) := by decide +kernel
theorem dX8_dies_1 : decode cX8_dies 1 = .ok (.iload_n 1, 1) := by decide +kernel
theorem dX8_dies_2 : decode cX8_dies 2 = .ok (.invokevirtual 88, 3) := by decide +kernel
theorem dX8_dies_5 : decode cX8_dies 5 = .ok (.astore 4, 2) := by decide +kernel
theorem dX8_dies_7 : decode cX8_dies 7 = .ok (.aload_n 0, 1) := by decide +kernel
theorem dX8_dies_8 : decode cX8_dies 8 = .ok (.iload_n 2, 1) := by decide +kernel
theorem dX8_dies_9 : decode cX8_dies 9 = .ok (.invokevirtual 88, 3) := by decide +kernel
theorem dX8_dies_12 : decode cX8_dies 12 = .ok (.astore 5, 2) := by decide +kernel
theorem dX8_dies_14 : decode cX8_dies 14 = .ok (.aload 4, 2) := by decide +kernel
theorem dX8_dies_16 : decode cX8_dies 16 = .ok (.ifnull 15, 3) := by decide +kernel
theorem dX8_dies_19 : decode cX8_dies 19 = .ok (.aload 5, 2) := by decide +kernel
theorem dX8_dies_21 : decode cX8_dies 21 = .ok (.ifnull 10, 3) := by decide +kernel
theorem dX8_dies_24 : decode cX8_dies 24 = .ok (.aload 4, 2) := by decide +kernel
theorem dX8_dies_26 : decode cX8_dies 26 = .ok (.aload 5, 2) := by decide +kernel
theorem dX8_dies_28 : decode cX8_dies 28 = .ok (.if_acmp .ne 5, 3) := by decide +kernel
theorem dX8_dies_31 : decode cX8_dies 31 = .ok (.iconst (-1), 1) := by decide +kernel
theorem dX8_dies_32 : decode cX8_dies 32 = .ok (.ireturn, 1) := by decide +kernel
theorem dX8_dies_33 : decode cX8_dies 33 = .ok (.iconst 0, 1) := by decide +kernel
theorem dX8_dies_34 : decode cX8_dies 34 = .ok (.istore 6, 2) := by decide +kernel
theorem dX8_dies_36 : decode cX8_dies 36 = .ok (.iload 6, 2) := by decide +kernel
theorem dX8_dies_38 : decode cX8_dies 38 = .ok (.aload_n 0, 1) := by decide +kernel
theorem dX8_dies_39 : decode cX8_dies 39 = .ok (.getfield 34, 3) := by decide +kernel
theorem dX8_dies_42 : decode cX8_dies 42 = .ok (.if_icmp .ge 48, 3) := by decide +kernel
theorem dX8_dies_45 : decode cX8_dies 45 = .ok (.aload_n 0, 1) := by decide +kernel
theorem dX8_dies_46 : decode cX8_dies 46 = .ok (.getfield 30, 3) := by decide +kernel
theorem dX8_dies_49 : decode cX8_dies 49 = .ok (.iload 6, 2) := by decide +kernel
theorem dX8_dies_51 : decode cX8_dies 51 = .ok (.aaload, 1) := by decide +kernel
theorem dX8_dies_52 : decode cX8_dies 52 = .ok (.getfield 179, 3) := by decide +kernel
theorem dX8_dies_55 : decode cX8_dies 55 = .ok (.aload 4, 2) := by decide +kernel
theorem dX8_dies_57 : decode cX8_dies 57 = .ok (.if_acmp .ne 27, 3) := by decide +kernel
theorem dX8_dies_60 : decode cX8_dies 60 = .ok (.aload_n 0, 1) := by decide +kernel
theorem dX8_dies_61 : decode cX8_dies 61 = .ok (.getfield 30, 3) := by decide +kernel
theorem dX8_dies_64 : decode cX8_dies 64 = .ok (.iload 6, 2) := by decide +kernel
theorem dX8_dies_66 : decode cX8_dies 66 = .ok (.aaload, 1) := by decide +kernel
theorem dX8_dies_67 : decode cX8_dies 67 = .ok (.getfield 136, 3) := by decide +kernel
theorem dX8_dies_70 : decode cX8_dies 70 = .ok (.ifCond .ne 14, 3) := by decide +kernel
theorem dX8_dies_73 : decode cX8_dies 73 = .ok (.aload_n 0, 1) := by decide +kernel
theorem dX8_dies_74 : decode cX8_dies 74 = .ok (.getfield 30, 3) := by decide +kernel
theorem dX8_dies_77 : decode cX8_dies 77 = .ok (.iload 6, 2) := by decide +kernel
theorem dX8_dies_79 : decode cX8_dies 79 = .ok (.aaload, 1) := by decide +kernel
theorem dX8_dies_80 : decode cX8_dies 80 = .ok (.iconst 4, 1) := by decide +kernel
theorem dX8_dies_81 : decode cX8_dies 81 = .ok (.putfield 136, 3) := by decide +kernel
theorem dX8_dies_84 : decode cX8_dies 84 = .ok (.iinc 6 1, 3) := by decide +kernel
theorem dX8_dies_87 : decode cX8_dies 87 = .ok (.goto (-51), 3) := by decide +kernel
theorem dX8_dies_90 : decode cX8_dies 90 = .ok (.aload_n 0, 1) := by decide +kernel
theorem dX8_dies_91 : decode cX8_dies 91 = .ok (.getfield 47, 3) := by decide +kernel
theorem dX8_dies_94 : decode cX8_dies 94 = .ok (.getfield 227, 3) := by decide +kernel
theorem dX8_dies_97 : decode cX8_dies 97 = .ok (.ifCond .ne 7, 3) := by decide +kernel
theorem dX8_dies_100 : decode cX8_dies 100 = .ok (.iload_n 3, 1) := by decide +kernel
theorem dX8_dies_101 : decode cX8_dies 101 = .ok (.ifCond .eq 7, 3) := by decide +kernel
theorem dX8_dies_104 : decode cX8_dies 104 = .ok (.iconst 1, 1) := by decide +kernel
theorem dX8_dies_105 : decode cX8_dies 105 = .ok (.goto 4, 3) := by decide +kernel
theorem dX8_dies_108 : decode cX8_dies 108 = .ok (.iconst 0, 1) := by decide +kernel
theorem dX8_dies_109 : decode cX8_dies 109 = .ok (.istore 6, 2) := by decide +kernel
theorem dX8_dies_111 : decode cX8_dies 111 = .ok (.iload 6, 2) := by decide +kernel
theorem dX8_dies_113 : decode cX8_dies 113 = .ok (.ifCond .eq 11, 3) := by decide +kernel
theorem dX8_dies_116 : decode cX8_dies 116 = .ok (.aload 4, 2) := by decide +kernel
theorem dX8_dies_118 : decode cX8_dies 118 = .ok (.getfield 230, 3) := by decide +kernel
theorem dX8_dies_121 : decode cX8_dies 121 = .ok (.goto 4, 3) := by decide +kernel
theorem dX8_dies_124 : decode cX8_dies 124 = .ok (.iconst 0, 1) := by decide +kernel
theorem dX8_dies_125 : decode cX8_dies 125 = .ok (.istore 7, 2) := by decide +kernel
theorem dX8_dies_127 : decode cX8_dies 127 = .ok (.aload_n 0, 1) := by decide +kernel
theorem dX8_dies_128 : decode cX8_dies 128 = .ok (.aload 4, 2) := by decide +kernel
theorem dX8_dies_130 : decode cX8_dies 130 = .ok (.iload 6, 2) := by decide +kernel
theorem dX8_dies_132 : decode cX8_dies 132 = .ok (.ifCond .eq 8, 3) := by decide +kernel
theorem dX8_dies_135 : decode cX8_dies 135 = .ok (.aload 5, 2) := by decide +kernel
theorem dX8_dies_137 : decode cX8_dies 137 = .ok (.goto 4, 3) := by decide +kernel
theorem dX8_dies_140 : decode cX8_dies 140 = .ok (.aconst_null, 1) := by decide +kernel
theorem dX8_dies_141 : decode cX8_dies 141 = .ok (.invokevirtual 233, 3) := by decide +kernel
theorem dX8_dies_144 : decode cX8_dies 144 = .ok (.iload 6, 2) := by decide +kernel
theorem dX8_dies_146 : decode cX8_dies 146 = .ok (.ifCond .eq 18, 3) := by decide +kernel
theorem dX8_dies_149 : decode cX8_dies 149 = .ok (.aload 5, 2) := by decide +kernel
theorem dX8_dies_151 : decode cX8_dies 151 = .ok (.dup, 1) := by decide +kernel
theorem dX8_dies_152 : decode cX8_dies 152 = .ok (.getfield 183, 3) := by decide +kernel
theorem dX8_dies_155 : decode cX8_dies 155 = .ok (.aload 4, 2) := by decide +kernel
theorem dX8_dies_157 : decode cX8_dies 157 = .ok (.getfield 183, 3) := by decide +kernel
theorem dX8_dies_160 : decode cX8_dies 160 = .ok (.iadd, 1) := by decide +kernel
theorem dX8_dies_161 : decode cX8_dies 161 = .ok (.putfield 183, 3) := by decide +kernel
theorem dX8_dies_164 : decode cX8_dies 164 = .ok (.aload 4, 2) := by decide +kernel
theorem dX8_dies_166 : decode cX8_dies 166 = .ok (.iconst 0, 1) := by decide +kernel
theorem dX8_dies_167 : decode cX8_dies 167 = .ok (.putfield 183, 3) := by decide +kernel
theorem dX8_dies_170 : decode cX8_dies 170 = .ok (.aload 4, 2) := by decide +kernel
theorem dX8_dies_172 : decode cX8_dies 172 = .ok (.aconst_null, 1) := by decide +kernel
theorem dX8_dies_173 : decode cX8_dies 173 = .ok (.putfield 164, 3) := by decide +kernel
theorem dX8_dies_176 : decode cX8_dies 176 = .ok (.aload 4, 2) := by decide +kernel
theorem dX8_dies_178 : decode cX8_dies 178 = .ok (.iconst 1, 1) := by decide +kernel
theorem dX8_dies_179 : decode cX8_dies 179 = .ok (.putfield 237, 3) := by decide +kernel
theorem dX8_dies_182 : decode cX8_dies 182 = .ok (.iload 7, 2) := by decide +kernel
theorem dX8_dies_184 : decode cX8_dies 184 = .ok (.ireturn, 1) := by decide +kernel
theorem dX8_fees_0 : decode cX8_fees 0 = .ok (.iload_n 1, 1) := by decide +kernel
theorem dX8_fees_1 : decode cX8_fees 1 = .ok (.iconst 1, 1) := by decide +kernel
theorem dX8_fees_2 : decode cX8_fees 2 = .ok (.if_icmp .lt 18, 3) := by decide +kernel
theorem dX8_fees_5 : decode cX8_fees 5 = .ok (.iload_n 1, 1) := by decide +kernel
theorem dX8_fees_6 : decode cX8_fees 6 = .ok (.ldc 240, 2) := by decide +kernel
theorem dX8_fees_8 : decode cX8_fees 8 = .ok (.if_icmp .gt 12, 3) := by decide +kernel
theorem dX8_fees_11 : decode cX8_fees 11 = .ok (.iload_n 2, 1) := by decide +kernel
theorem dX8_fees_12 : decode cX8_fees 12 = .ok (.ifCond .lt 8, 3) := by decide +kernel
theorem dX8_fees_15 : decode cX8_fees 15 = .ok (.iload_n 2, 1) := by decide +kernel
theorem dX8_fees_16 : decode cX8_fees 16 = .ok (.iconst 2, 1) := by decide +kernel
theorem dX8_fees_17 : decode cX8_fees 17 = .ok (.if_icmp .le 5, 3) := by decide +kernel
theorem dX8_fees_20 : decode cX8_fees 20 = .ok (.iconst (-1), 1) := by decide +kernel
theorem dX8_fees_21 : decode cX8_fees 21 = .ok (.ireturn, 1) := by decide +kernel
theorem dX8_fees_22 : decode cX8_fees 22 = .ok (.aload_n 0, 1) := by decide +kernel
theorem dX8_fees_23 : decode cX8_fees 23 = .ok (.getfield 70, 3) := by decide +kernel
theorem dX8_fees_26 : decode cX8_fees 26 = .ok (.invokevirtual 241, 3) := by decide +kernel
theorem dX8_fees_29 : decode cX8_fees 29 = .ok (.iconst 0, 1) := by decide +kernel
theorem dX8_fees_30 : decode cX8_fees 30 = .ok (.istore_n 3, 1) := by decide +kernel
theorem dX8_fees_31 : decode cX8_fees 31 = .ok (.iload_n 3, 1) := by decide +kernel
theorem dX8_fees_32 : decode cX8_fees 32 = .ok (.aload_n 0, 1) := by decide +kernel
theorem dX8_fees_33 : decode cX8_fees 33 = .ok (.getfield 25, 3) := by decide +kernel
theorem dX8_fees_36 : decode cX8_fees 36 = .ok (.if_icmp .ge 46, 3) := by decide +kernel
theorem dX8_fees_39 : decode cX8_fees 39 = .ok (.aload_n 0, 1) := by decide +kernel
theorem dX8_fees_40 : decode cX8_fees 40 = .ok (.getfield 21, 3) := by decide +kernel
theorem dX8_fees_43 : decode cX8_fees 43 = .ok (.iload_n 3, 1) := by decide +kernel
theorem dX8_fees_44 : decode cX8_fees 44 = .ok (.aaload, 1) := by decide +kernel
theorem dX8_fees_45 : decode cX8_fees 45 = .ok (.getfield 237, 3) := by decide +kernel
theorem dX8_fees_48 : decode cX8_fees 48 = .ok (.ifCond .ne 28, 3) := by decide +kernel
theorem dX8_fees_51 : decode cX8_fees 51 = .ok (.aload_n 0, 1) := by decide +kernel
theorem dX8_fees_52 : decode cX8_fees 52 = .ok (.getfield 70, 3) := by decide +kernel
theorem dX8_fees_55 : decode cX8_fees 55 = .ok (.aload_n 0, 1) := by decide +kernel
theorem dX8_fees_56 : decode cX8_fees 56 = .ok (.getfield 21, 3) := by decide +kernel
theorem dX8_fees_59 : decode cX8_fees 59 = .ok (.iload_n 3, 1) := by decide +kernel
theorem dX8_fees_60 : decode cX8_fees 60 = .ok (.aaload, 1) := by decide +kernel
theorem dX8_fees_61 : decode cX8_fees 61 = .ok (.getfield 242, 3) := by decide +kernel
theorem dX8_fees_64 : decode cX8_fees 64 = .ok (.aload_n 0, 1) := by decide +kernel
theorem dX8_fees_65 : decode cX8_fees 65 = .ok (.getfield 21, 3) := by decide +kernel
theorem dX8_fees_68 : decode cX8_fees 68 = .ok (.iload_n 3, 1) := by decide +kernel
theorem dX8_fees_69 : decode cX8_fees 69 = .ok (.aaload, 1) := by decide +kernel
theorem dX8_fees_70 : decode cX8_fees 70 = .ok (.getfield 230, 3) := by decide +kernel
theorem dX8_fees_73 : decode cX8_fees 73 = .ok (.invokevirtual 245, 3) := by decide +kernel
theorem dX8_fees_76 : decode cX8_fees 76 = .ok (.iinc 3 1, 3) := by decide +kernel
theorem dX8_fees_79 : decode cX8_fees 79 = .ok (.goto (-48), 3) := by decide +kernel
theorem dX8_fees_82 : decode cX8_fees 82 = .ok (.aload_n 0, 1) := by decide +kernel
theorem dX8_fees_83 : decode cX8_fees 83 = .ok (.getfield 70, 3) := by decide +kernel
theorem dX8_fees_86 : decode cX8_fees 86 = .ok (.iload_n 1, 1) := by decide +kernel
theorem dX8_fees_87 : decode cX8_fees 87 = .ok (.invokevirtual 247, 3) := by decide +kernel
theorem dX8_fees_90 : decode cX8_fees 90 = .ok (.iload_n 2, 1) := by decide +kernel
theorem dX8_fees_91 : decode cX8_fees 91 = .ok (.ifCond .ne 11, 3) := by decide +kernel
theorem dX8_fees_94 : decode cX8_fees 94 = .ok (.aload_n 0, 1) := by decide +kernel
theorem dX8_fees_95 : decode cX8_fees 95 = .ok (.getfield 70, 3) := by decide +kernel
theorem dX8_fees_98 : decode cX8_fees 98 = .ok (.getfield 250, 3) := by decide +kernel
theorem dX8_fees_101 : decode cX8_fees 101 = .ok (.ireturn, 1) := by decide +kernel
theorem dX8_fees_102 : decode cX8_fees 102 = .ok (.iload_n 2, 1) := by decide +kernel
theorem dX8_fees_103 : decode cX8_fees 103 = .ok (.iconst 1, 1) := by decide +kernel
theorem dX8_fees_104 : decode cX8_fees 104 = .ok (.if_icmp .ne 13, 3) := by decide +kernel
theorem dX8_fees_107 : decode cX8_fees 107 = .ok (.aload_n 0, 1) := by decide +kernel
theorem dX8_fees_108 : decode cX8_fees 108 = .ok (.getfield 70, 3) := by decide +kernel
theorem dX8_fees_111 : decode cX8_fees 111 = .ok (.getfield 253, 3) := by decide +kernel
theorem dX8_fees_114 : decode cX8_fees 114 = .ok (.goto 10, 3) := by decide +kernel
theorem dX8_fees_117 : decode cX8_fees 117 = .ok (.aload_n 0, 1) := by decide +kernel
theorem dX8_fees_118 : decode cX8_fees 118 = .ok (.getfield 70, 3) := by decide +kernel
theorem dX8_fees_121 : decode cX8_fees 121 = .ok (.invokevirtual 256, 3) := by decide +kernel
theorem dX8_fees_124 : decode cX8_fees 124 = .ok (.ireturn, 1) := by decide +kernel
theorem dX8_party_0 : decode cX8_party 0 = .ok (.aload_n 0, 1) := by decide +kernel
theorem dX8_party_1 : decode cX8_party 1 = .ok (.iload_n 1, 1) := by decide +kernel
theorem dX8_party_2 : decode cX8_party 2 = .ok (.invokevirtual 84, 3) := by decide +kernel
theorem dX8_party_5 : decode cX8_party 5 = .ok (.astore_n 3, 1) := by decide +kernel
theorem dX8_party_6 : decode cX8_party 6 = .ok (.aload_n 3, 1) := by decide +kernel
theorem dX8_party_7 : decode cX8_party 7 = .ok (.ifnull 10, 3) := by decide +kernel
theorem dX8_party_10 : decode cX8_party 10 = .ok (.iload_n 2, 1) := by decide +kernel
theorem dX8_party_11 : decode cX8_party 11 = .ok (.invokestatic 92, 3) := by decide +kernel
theorem dX8_party_14 : decode cX8_party 14 = .ok (.ifCond .ne 5, 3) := by decide +kernel
theorem dX8_party_17 : decode cX8_party 17 = .ok (.iconst (-1), 1) := by decide +kernel
theorem dX8_party_18 : decode cX8_party 18 = .ok (.ireturn, 1) := by decide +kernel
theorem dX8_party_19 : decode cX8_party 19 = .ok (.aload_n 3, 1) := by decide +kernel
theorem dX8_party_20 : decode cX8_party 20 = .ok (.getfield 95, 3) := by decide +kernel
theorem dX8_party_23 : decode cX8_party 23 = .ok (.iload_n 2, 1) := by decide +kernel
theorem dX8_party_24 : decode cX8_party 24 = .ok (.aaload, 1) := by decide +kernel
theorem dX8_party_25 : decode cX8_party 25 = .ok (.astore 4, 2) := by decide +kernel
theorem dX8_party_27 : decode cX8_party 27 = .ok (.aload 4, 2) := by decide +kernel
theorem dX8_party_29 : decode cX8_party 29 = .ok (.ifnull 11, 3) := by decide +kernel
theorem dX8_party_32 : decode cX8_party 32 = .ok (.aload 4, 2) := by decide +kernel
theorem dX8_party_34 : decode cX8_party 34 = .ok (.invokevirtual 96, 3) := by decide +kernel
theorem dX8_party_37 : decode cX8_party 37 = .ok (.ifCond .ne 13, 3) := by decide +kernel
theorem dX8_party_40 : decode cX8_party 40 = .ok (.aload_n 3, 1) := by decide +kernel
theorem dX8_party_41 : decode cX8_party 41 = .ok (.getfield 131, 3) := by decide +kernel
theorem dX8_party_44 : decode cX8_party 44 = .ok (.iload_n 2, 1) := by decide +kernel
theorem dX8_party_45 : decode cX8_party 45 = .ok (.aaload, 1) := by decide +kernel
theorem dX8_party_46 : decode cX8_party 46 = .ok (.invokestatic 259, 3) := by decide +kernel
theorem dX8_party_49 : decode cX8_party 49 = .ok (.ireturn, 1) := by decide +kernel
theorem dX8_party_50 : decode cX8_party 50 = .ok (.aload 4, 2) := by decide +kernel
theorem dX8_party_52 : decode cX8_party 52 = .ok (.invokevirtual 263, 3) := by decide +kernel
theorem dX8_party_55 : decode cX8_party 55 = .ok (.ifCond .eq 14, 3) := by decide +kernel
theorem dX8_party_58 : decode cX8_party 58 = .ok (.aload 4, 2) := by decide +kernel
theorem dX8_party_60 : decode cX8_party 60 = .ok (.getfield 266, 3) := by decide +kernel
theorem dX8_party_63 : decode cX8_party 63 = .ok (.invokestatic 259, 3) := by decide +kernel
theorem dX8_party_66 : decode cX8_party 66 = .ok (.goto 5, 3) := by decide +kernel
theorem dX8_party_69 : decode cX8_party 69 = .ok (.bipush (-2), 2) := by decide +kernel
theorem dX8_party_71 : decode cX8_party 71 = .ok (.ireturn, 1) := by decide +kernel
theorem dX8_of_0 : decode cX8_of 0 = .ok (.aload_n 0, 1) := by decide +kernel
theorem dX8_of_1 : decode cX8_of 1 = .ok (.iload_n 1, 1) := by decide +kernel
theorem dX8_of_2 : decode cX8_of 2 = .ok (.invokevirtual 269, 3) := by decide +kernel
theorem dX8_of_5 : decode cX8_of 5 = .ok (.astore_n 3, 1) := by decide +kernel
theorem dX8_of_6 : decode cX8_of 6 = .ok (.aload_n 3, 1) := by decide +kernel
theorem dX8_of_7 : decode cX8_of 7 = .ok (.ifnonnull 14, 3) := by decide +kernel
theorem dX8_of_10 : decode cX8_of 10 = .ok (.new 273, 3) := by decide +kernel
theorem dX8_of_13 : decode cX8_of 13 = .ok (.dup, 1) := by decide +kernel
theorem dX8_of_14 : decode cX8_of 14 = .ok (.ldc_w 275, 3) := by decide +kernel
theorem dX8_of_17 : decode cX8_of 17 = .ok (.invokespecial 277, 3) := by decide +kernel
theorem dX8_of_20 : decode cX8_of 20 = .ok (.athrow, 1) := by decide +kernel
theorem dX8_of_21 : decode cX8_of 21 = .ok (.iload_n 2, 1) := by decide +kernel
theorem dX8_of_22 : decode cX8_of 22 = .ok (.tableswitch 128 0 7 #[46, 54, 62, 67, 72, 77, 82, 109], 46) := by decide +kernel
theorem dX8_of_68 : decode cX8_of 68 = .ok (.aload_n 3, 1) := by decide +kernel
theorem dX8_of_69 : decode cX8_of 69 = .ok (.getfield 179, 3) := by decide +kernel
theorem dX8_of_72 : decode cX8_of 72 = .ok (.getfield 280, 3) := by decide +kernel
theorem dX8_of_75 : decode cX8_of 75 = .ok (.ireturn, 1) := by decide +kernel
theorem dX8_of_76 : decode cX8_of 76 = .ok (.aload_n 3, 1) := by decide +kernel
theorem dX8_of_77 : decode cX8_of 77 = .ok (.getfield 208, 3) := by decide +kernel
theorem dX8_of_80 : decode cX8_of 80 = .ok (.getfield 283, 3) := by decide +kernel
theorem dX8_of_83 : decode cX8_of 83 = .ok (.ireturn, 1) := by decide +kernel
theorem dX8_of_84 : decode cX8_of 84 = .ok (.aload_n 3, 1) := by decide +kernel
theorem dX8_of_85 : decode cX8_of 85 = .ok (.getfield 212, 3) := by decide +kernel
theorem dX8_of_88 : decode cX8_of 88 = .ok (.ireturn, 1) := by decide +kernel
theorem dX8_of_89 : decode cX8_of 89 = .ok (.aload_n 3, 1) := by decide +kernel
theorem dX8_of_90 : decode cX8_of 90 = .ok (.getfield 215, 3) := by decide +kernel
theorem dX8_of_93 : decode cX8_of 93 = .ok (.ireturn, 1) := by decide +kernel
theorem dX8_of_94 : decode cX8_of 94 = .ok (.aload_n 3, 1) := by decide +kernel
theorem dX8_of_95 : decode cX8_of 95 = .ok (.getfield 186, 3) := by decide +kernel
theorem dX8_of_98 : decode cX8_of 98 = .ok (.ireturn, 1) := by decide +kernel
theorem dX8_of_99 : decode cX8_of 99 = .ok (.aload_n 3, 1) := by decide +kernel
theorem dX8_of_100 : decode cX8_of 100 = .ok (.getfield 136, 3) := by decide +kernel
theorem dX8_of_103 : decode cX8_of 103 = .ok (.ireturn, 1) := by decide +kernel
theorem dX8_of_104 : decode cX8_of 104 = .ok (.aload_n 3, 1) := by decide +kernel
theorem dX8_of_105 : decode cX8_of 105 = .ok (.getfield 136, 3) := by decide +kernel
theorem dX8_of_108 : decode cX8_of 108 = .ok (.iconst 1, 1) := by decide +kernel
theorem dX8_of_109 : decode cX8_of 109 = .ok (.if_icmp .ne 20, 3) := by decide +kernel
theorem dX8_of_112 : decode cX8_of 112 = .ok (.aload_n 3, 1) := by decide +kernel
theorem dX8_of_113 : decode cX8_of 113 = .ok (.getfield 284, 3) := by decide +kernel
theorem dX8_of_116 : decode cX8_of 116 = .ok (.ifnull 13, 3) := by decide +kernel
theorem dX8_of_119 : decode cX8_of 119 = .ok (.aload_n 3, 1) := by decide +kernel
theorem dX8_of_120 : decode cX8_of 120 = .ok (.getfield 284, 3) := by decide +kernel
theorem dX8_of_123 : decode cX8_of 123 = .ok (.getfield 288, 3) := by decide +kernel
theorem dX8_of_126 : decode cX8_of 126 = .ok (.goto 4, 3) := by decide +kernel
theorem dX8_of_129 : decode cX8_of 129 = .ok (.iconst (-1), 1) := by decide +kernel
theorem dX8_of_130 : decode cX8_of 130 = .ok (.ireturn, 1) := by decide +kernel
theorem dX8_of_131 : decode cX8_of 131 = .ok (.aload_n 3, 1) := by decide +kernel
theorem dX8_of_132 : decode cX8_of 132 = .ok (.invokevirtual 263, 3) := by decide +kernel
theorem dX8_of_135 : decode cX8_of 135 = .ok (.ifCond .eq 13, 3) := by decide +kernel
theorem dX8_of_138 : decode cX8_of 138 = .ok (.aload_n 3, 1) := by decide +kernel
theorem dX8_of_139 : decode cX8_of 139 = .ok (.getfield 266, 3) := by decide +kernel
theorem dX8_of_142 : decode cX8_of 142 = .ok (.invokestatic 259, 3) := by decide +kernel
theorem dX8_of_145 : decode cX8_of 145 = .ok (.goto 4, 3) := by decide +kernel
theorem dX8_of_148 : decode cX8_of 148 = .ok (.iconst (-1), 1) := by decide +kernel
theorem dX8_of_149 : decode cX8_of 149 = .ok (.ireturn, 1) := by decide +kernel
theorem dX8_of_150 : decode cX8_of 150 = .ok (.new 273, 3) := by decide +kernel
theorem dX8_of_153 : decode cX8_of 153 = .ok (.dup, 1) := by decide +kernel
theorem dX8_of_154 : decode cX8_of 154 = .ok (.ldc_w 289, 3) := by decide +kernel
theorem dX8_of_157 : decode cX8_of 157 = .ok (.invokespecial 277, 3) := by decide +kernel
theorem dX8_of_160 : decode cX8_of 160 = .ok (.athrow, 1) := by decide +kernel
theorem dX8_ownerOf_0 : decode cX8_ownerOf 0 = .ok (.aload_n 0, 1) := by decide +kernel
theorem dX8_ownerOf_1 : decode cX8_ownerOf 1 = .ok (.iload_n 1, 1) := by decide +kernel
theorem dX8_ownerOf_2 : decode cX8_ownerOf 2 = .ok (.invokevirtual 291, 3) := by decide +kernel
theorem dX8_ownerOf_5 : decode cX8_ownerOf 5 = .ok (.astore_n 3, 1) := by decide +kernel
theorem dX8_ownerOf_6 : decode cX8_ownerOf 6 = .ok (.aload_n 3, 1) := by decide +kernel
theorem dX8_ownerOf_7 : decode cX8_ownerOf 7 = .ok (.ifnonnull 5, 3) := by decide +kernel
theorem dX8_ownerOf_10 : decode cX8_ownerOf 10 = .ok (.iconst (-1), 1) := by decide +kernel
theorem dX8_ownerOf_11 : decode cX8_ownerOf 11 = .ok (.ireturn, 1) := by decide +kernel
theorem dX8_ownerOf_12 : decode cX8_ownerOf 12 = .ok (.iload_n 2, 1) := by decide +kernel
theorem dX8_ownerOf_13 : decode cX8_ownerOf 13 = .ok (.tableswitch 85 0 5 #[39, 44, 49, 54, 59, 72], 39) := by decide +kernel
theorem dX8_ownerOf_52 : decode cX8_ownerOf 52 = .ok (.aload_n 3, 1) := by decide +kernel
theorem dX8_ownerOf_53 : decode cX8_ownerOf 53 = .ok (.getfield 183, 3) := by decide +kernel
theorem dX8_ownerOf_56 : decode cX8_ownerOf 56 = .ok (.ireturn, 1) := by decide +kernel
theorem dX8_ownerOf_57 : decode cX8_ownerOf 57 = .ok (.aload_n 3, 1) := by decide +kernel
theorem dX8_ownerOf_58 : decode cX8_ownerOf 58 = .ok (.getfield 205, 3) := by decide +kernel
theorem dX8_ownerOf_61 : decode cX8_ownerOf 61 = .ok (.ireturn, 1) := by decide +kernel
theorem dX8_ownerOf_62 : decode cX8_ownerOf 62 = .ok (.aload_n 3, 1) := by decide +kernel
theorem dX8_ownerOf_63 : decode cX8_ownerOf 63 = .ok (.getfield 242, 3) := by decide +kernel
theorem dX8_ownerOf_66 : decode cX8_ownerOf 66 = .ok (.ireturn, 1) := by decide +kernel
theorem dX8_ownerOf_67 : decode cX8_ownerOf 67 = .ok (.aload_n 3, 1) := by decide +kernel
theorem dX8_ownerOf_68 : decode cX8_ownerOf 68 = .ok (.getfield 230, 3) := by decide +kernel
theorem dX8_ownerOf_71 : decode cX8_ownerOf 71 = .ok (.ireturn, 1) := by decide +kernel
theorem dX8_ownerOf_72 : decode cX8_ownerOf 72 = .ok (.aload_n 3, 1) := by decide +kernel
theorem dX8_ownerOf_73 : decode cX8_ownerOf 73 = .ok (.getfield 237, 3) := by decide +kernel
theorem dX8_ownerOf_76 : decode cX8_ownerOf 76 = .ok (.ifCond .eq 7, 3) := by decide +kernel
theorem dX8_ownerOf_79 : decode cX8_ownerOf 79 = .ok (.iconst 1, 1) := by decide +kernel
theorem dX8_ownerOf_80 : decode cX8_ownerOf 80 = .ok (.goto 4, 3) := by decide +kernel
theorem dX8_ownerOf_83 : decode cX8_ownerOf 83 = .ok (.iconst 0, 1) := by decide +kernel
theorem dX8_ownerOf_84 : decode cX8_ownerOf 84 = .ok (.ireturn, 1) := by decide +kernel
theorem dX8_ownerOf_85 : decode cX8_ownerOf 85 = .ok (.aload_n 3, 1) := by decide +kernel
theorem dX8_ownerOf_86 : decode cX8_ownerOf 86 = .ok (.getfield 164, 3) := by decide +kernel
theorem dX8_ownerOf_89 : decode cX8_ownerOf 89 = .ok (.ifnull 7, 3) := by decide +kernel
theorem dX8_ownerOf_92 : decode cX8_ownerOf 92 = .ok (.iconst 1, 1) := by decide +kernel
theorem dX8_ownerOf_93 : decode cX8_ownerOf 93 = .ok (.goto 4, 3) := by decide +kernel
theorem dX8_ownerOf_96 : decode cX8_ownerOf 96 = .ok (.iconst 0, 1) := by decide +kernel
theorem dX8_ownerOf_97 : decode cX8_ownerOf 97 = .ok (.ireturn, 1) := by decide +kernel
theorem dX8_ownerOf_98 : decode cX8_ownerOf 98 = .ok (.iconst (-1), 1) := by decide +kernel
theorem dX8_ownerOf_99 : decode cX8_ownerOf 99 = .ok (.ireturn, 1) := by decide +kernel
theorem dX8_count_0 : decode cX8_count 0 = .ok (.iload_n 1, 1) := by decide +kernel
theorem dX8_count_1 : decode cX8_count 1 = .ok (.tableswitch 121 0 9 #[55, 60, 65, 70, 75, 80, 86, 92, 100, 116], 55) := by decide +kernel
theorem dX8_count_56 : decode cX8_count 56 = .ok (.aload_n 0, 1) := by decide +kernel
theorem dX8_count_57 : decode cX8_count 57 = .ok (.getfield 15, 3) := by decide +kernel
theorem dX8_count_60 : decode cX8_count 60 = .ok (.ireturn, 1) := by decide +kernel
theorem dX8_count_61 : decode cX8_count 61 = .ok (.aload_n 0, 1) := by decide +kernel
theorem dX8_count_62 : decode cX8_count 62 = .ok (.getfield 25, 3) := by decide +kernel
theorem dX8_count_65 : decode cX8_count 65 = .ok (.ireturn, 1) := by decide +kernel
theorem dX8_count_66 : decode cX8_count 66 = .ok (.aload_n 0, 1) := by decide +kernel
theorem dX8_count_67 : decode cX8_count 67 = .ok (.getfield 54, 3) := by decide +kernel
theorem dX8_count_70 : decode cX8_count 70 = .ok (.ireturn, 1) := by decide +kernel
theorem dX8_count_71 : decode cX8_count 71 = .ok (.aload_n 0, 1) := by decide +kernel
theorem dX8_count_72 : decode cX8_count 72 = .ok (.getfield 57, 3) := by decide +kernel
theorem dX8_count_75 : decode cX8_count 75 = .ok (.ireturn, 1) := by decide +kernel
theorem dX8_count_76 : decode cX8_count 76 = .ok (.aload_n 0, 1) := by decide +kernel
theorem dX8_count_77 : decode cX8_count 77 = .ok (.getfield 34, 3) := by decide +kernel
theorem dX8_count_80 : decode cX8_count 80 = .ok (.ireturn, 1) := by decide +kernel
theorem dX8_count_81 : decode cX8_count 81 = .ok (.aload_n 0, 1) := by decide +kernel
theorem dX8_count_82 : decode cX8_count 82 = .ok (.iconst 0, 1) := by decide +kernel
theorem dX8_count_83 : decode cX8_count 83 = .ok (.invokevirtual 139, 3) := by decide +kernel
theorem dX8_count_86 : decode cX8_count 86 = .ok (.ireturn, 1) := by decide +kernel
theorem dX8_count_87 : decode cX8_count 87 = .ok (.aload_n 0, 1) := by decide +kernel
theorem dX8_count_88 : decode cX8_count 88 = .ok (.iconst 2, 1) := by decide +kernel
theorem dX8_count_89 : decode cX8_count 89 = .ok (.invokevirtual 139, 3) := by decide +kernel
theorem dX8_count_92 : decode cX8_count 92 = .ok (.ireturn, 1) := by decide +kernel
theorem dX8_count_93 : decode cX8_count 93 = .ok (.aload_n 0, 1) := by decide +kernel
theorem dX8_count_94 : decode cX8_count 94 = .ok (.getfield 40, 3) := by decide +kernel
theorem dX8_count_97 : decode cX8_count 97 = .ok (.getfield 104, 3) := by decide +kernel
theorem dX8_count_100 : decode cX8_count 100 = .ok (.ireturn, 1) := by decide +kernel
theorem dX8_count_101 : decode cX8_count 101 = .ok (.aload_n 0, 1) := by decide +kernel
theorem dX8_count_102 : decode cX8_count 102 = .ok (.getfield 47, 3) := by decide +kernel
theorem dX8_count_105 : decode cX8_count 105 = .ok (.getfield 227, 3) := by decide +kernel
theorem dX8_count_108 : decode cX8_count 108 = .ok (.ifCond .eq 7, 3) := by decide +kernel
theorem dX8_count_111 : decode cX8_count 111 = .ok (.iconst 1, 1) := by decide +kernel
theorem dX8_count_112 : decode cX8_count 112 = .ok (.goto 4, 3) := by decide +kernel
theorem dX8_count_115 : decode cX8_count 115 = .ok (.iconst 0, 1) := by decide +kernel
theorem dX8_count_116 : decode cX8_count 116 = .ok (.ireturn, 1) := by decide +kernel
theorem dX8_count_117 : decode cX8_count 117 = .ok (.aload_n 0, 1) := by decide +kernel
theorem dX8_count_118 : decode cX8_count 118 = .ok (.invokevirtual 294, 3) := by decide +kernel
theorem dX8_count_121 : decode cX8_count 121 = .ok (.ireturn, 1) := by decide +kernel
theorem dX8_count_122 : decode cX8_count 122 = .ok (.iconst (-1), 1) := by decide +kernel
theorem dX8_count_123 : decode cX8_count 123 = .ok (.ireturn, 1) := by decide +kernel
theorem dX8_isWeek_0 : decode cX8_isWeek 0 = .ok (.iload_n 0, 1) := by decide +kernel
theorem dX8_isWeek_1 : decode cX8_isWeek 1 = .ok (.ifCond .lt 13, 3) := by decide +kernel
theorem dX8_isWeek_4 : decode cX8_isWeek 4 = .ok (.iload_n 0, 1) := by decide +kernel
theorem dX8_isWeek_5 : decode cX8_isWeek 5 = .ok (.bipush 52, 2) := by decide +kernel
theorem dX8_isWeek_7 : decode cX8_isWeek 7 = .ok (.if_icmp .gt 7, 3) := by decide +kernel
theorem dX8_isWeek_10 : decode cX8_isWeek 10 = .ok (.iconst 1, 1) := by decide +kernel
theorem dX8_isWeek_11 : decode cX8_isWeek 11 = .ok (.goto 4, 3) := by decide +kernel
theorem dX8_isWeek_14 : decode cX8_isWeek 14 = .ok (.iconst 0, 1) := by decide +kernel
theorem dX8_isWeek_15 : decode cX8_isWeek 15 = .ok (.ireturn, 1) := by decide +kernel
theorem dX8_isSize_0 : decode cX8_isSize 0 = .ok (.iload_n 0, 1) := by decide +kernel
theorem dX8_isSize_1 : decode cX8_isSize 1 = .ok (.iconst 1, 1) := by decide +kernel
theorem dX8_isSize_2 : decode cX8_isSize 2 = .ok (.if_icmp .lt 12, 3) := by decide +kernel
theorem dX8_isSize_5 : decode cX8_isSize 5 = .ok (.iload_n 0, 1) := by decide +kernel
theorem dX8_isSize_6 : decode cX8_isSize 6 = .ok (.iconst 4, 1) := by decide +kernel
theorem dX8_isSize_7 : decode cX8_isSize 7 = .ok (.if_icmp .gt 7, 3) := by decide +kernel
theorem dX8_isSize_10 : decode cX8_isSize 10 = .ok (.iconst 1, 1) := by decide +kernel
theorem dX8_isSize_11 : decode cX8_isSize 11 = .ok (.goto 4, 3) := by decide +kernel
theorem dX8_isSize_14 : decode cX8_isSize 14 = .ok (.iconst 0, 1) := by decide +kernel
theorem dX8_isSize_15 : decode cX8_isSize 15 = .ok (.ireturn, 1) := by decide +kernel
theorem dX8_canBeWished_0 : decode cX8_canBeWished 0 = .ok (.iload_n 0, 1) := by decide +kernel
theorem dX8_canBeWished_1 : decode cX8_canBeWished 1 = .ok (.iconst (-1), 1) := by decide +kernel
theorem dX8_canBeWished_2 : decode cX8_canBeWished 2 = .ok (.if_icmp .eq 12, 3) := by decide +kernel
theorem dX8_canBeWished_5 : decode cX8_canBeWished 5 = .ok (.iload_n 0, 1) := by decide +kernel
theorem dX8_canBeWished_6 : decode cX8_canBeWished 6 = .ok (.ifCond .lt 12, 3) := by decide +kernel
theorem dX8_canBeWished_9 : decode cX8_canBeWished 9 = .ok (.iload_n 0, 1) := by decide +kernel
theorem dX8_canBeWished_10 : decode cX8_canBeWished 10 = .ok (.iconst 3, 1) := by decide +kernel
theorem dX8_canBeWished_11 : decode cX8_canBeWished 11 = .ok (.if_icmp .gt 7, 3) := by decide +kernel
theorem dX8_canBeWished_14 : decode cX8_canBeWished 14 = .ok (.iconst 1, 1) := by decide +kernel
theorem dX8_canBeWished_15 : decode cX8_canBeWished 15 = .ok (.goto 4, 3) := by decide +kernel
theorem dX8_canBeWished_18 : decode cX8_canBeWished 18 = .ok (.iconst 0, 1) := by decide +kernel
theorem dX8_canBeWished_19 : decode cX8_canBeWished 19 = .ok (.istore 4, 2) := by decide +kernel
theorem dX8_canBeWished_21 : decode cX8_canBeWished 21 = .ok (.iload 4, 2) := by decide +kernel
theorem dX8_canBeWished_23 : decode cX8_canBeWished 23 = .ok (.ifCond .eq 33, 3) := by decide +kernel
theorem dX8_canBeWished_26 : decode cX8_canBeWished 26 = .ok (.iload_n 1, 1) := by decide +kernel
theorem dX8_canBeWished_27 : decode cX8_canBeWished 27 = .ok (.invokestatic 92, 3) := by decide +kernel
theorem dX8_canBeWished_30 : decode cX8_canBeWished 30 = .ok (.ifCond .eq 26, 3) := by decide +kernel
theorem dX8_canBeWished_33 : decode cX8_canBeWished 33 = .ok (.iload_n 2, 1) := by decide +kernel
theorem dX8_canBeWished_34 : decode cX8_canBeWished 34 = .ok (.invokestatic 92, 3) := by decide +kernel
theorem dX8_canBeWished_37 : decode cX8_canBeWished 37 = .ok (.ifCond .eq 19, 3) := by decide +kernel
theorem dX8_canBeWished_40 : decode cX8_canBeWished 40 = .ok (.iload_n 1, 1) := by decide +kernel
theorem dX8_canBeWished_41 : decode cX8_canBeWished 41 = .ok (.iload_n 2, 1) := by decide +kernel
theorem dX8_canBeWished_42 : decode cX8_canBeWished 42 = .ok (.if_icmp .gt 14, 3) := by decide +kernel
theorem dX8_canBeWished_45 : decode cX8_canBeWished 45 = .ok (.iload_n 3, 1) := by decide +kernel
theorem dX8_canBeWished_46 : decode cX8_canBeWished 46 = .ok (.invokestatic 74, 3) := by decide +kernel
theorem dX8_canBeWished_49 : decode cX8_canBeWished 49 = .ok (.ifCond .eq 7, 3) := by decide +kernel
theorem dX8_canBeWished_52 : decode cX8_canBeWished 52 = .ok (.iconst 1, 1) := by decide +kernel
theorem dX8_canBeWished_53 : decode cX8_canBeWished 53 = .ok (.goto 4, 3) := by decide +kernel
theorem dX8_canBeWished_56 : decode cX8_canBeWished 56 = .ok (.iconst 0, 1) := by decide +kernel
theorem dX8_canBeWished_57 : decode cX8_canBeWished 57 = .ok (.ireturn, 1) := by decide +kernel
theorem dX8_numberOf_0 : decode cX8_numberOf 0 = .ok (.aload_n 0, 1) := by decide +kernel
theorem dX8_numberOf_1 : decode cX8_numberOf 1 = .ok (.ifnonnull 7, 3) := by decide +kernel
theorem dX8_numberOf_4 : decode cX8_numberOf 4 = .ok (.iconst (-1), 1) := by decide +kernel
theorem dX8_numberOf_5 : decode cX8_numberOf 5 = .ok (.goto 7, 3) := by decide +kernel
theorem dX8_numberOf_8 : decode cX8_numberOf 8 = .ok (.aload_n 0, 1) := by decide +kernel
theorem dX8_numberOf_9 : decode cX8_numberOf 9 = .ok (.getfield 280, 3) := by decide +kernel
theorem dX8_numberOf_12 : decode cX8_numberOf 12 = .ok (.ireturn, 1) := by decide +kernel
theorem dX8_flatAt_0 : decode cX8_flatAt 0 = .ok (.iload_n 1, 1) := by decide +kernel
theorem dX8_flatAt_1 : decode cX8_flatAt 1 = .ok (.ifCond .lt 20, 3) := by decide +kernel
theorem dX8_flatAt_4 : decode cX8_flatAt 4 = .ok (.iload_n 1, 1) := by decide +kernel
theorem dX8_flatAt_5 : decode cX8_flatAt 5 = .ok (.aload_n 0, 1) := by decide +kernel
theorem dX8_flatAt_6 : decode cX8_flatAt 6 = .ok (.getfield 15, 3) := by decide +kernel
theorem dX8_flatAt_9 : decode cX8_flatAt 9 = .ok (.if_icmp .ge 12, 3) := by decide +kernel
theorem dX8_flatAt_12 : decode cX8_flatAt 12 = .ok (.aload_n 0, 1) := by decide +kernel
theorem dX8_flatAt_13 : decode cX8_flatAt 13 = .ok (.getfield 11, 3) := by decide +kernel
theorem dX8_flatAt_16 : decode cX8_flatAt 16 = .ok (.iload_n 1, 1) := by decide +kernel
theorem dX8_flatAt_17 : decode cX8_flatAt 17 = .ok (.aaload, 1) := by decide +kernel
theorem dX8_flatAt_18 : decode cX8_flatAt 18 = .ok (.goto 4, 3) := by decide +kernel
theorem dX8_flatAt_21 : decode cX8_flatAt 21 = .ok (.aconst_null, 1) := by decide +kernel
theorem dX8_flatAt_22 : decode cX8_flatAt 22 = .ok (.areturn, 1) := by decide +kernel
theorem dX8_ownerAt_0 : decode cX8_ownerAt 0 = .ok (.iload_n 1, 1) := by decide +kernel
theorem dX8_ownerAt_1 : decode cX8_ownerAt 1 = .ok (.ifCond .lt 20, 3) := by decide +kernel
theorem dX8_ownerAt_4 : decode cX8_ownerAt 4 = .ok (.iload_n 1, 1) := by decide +kernel
theorem dX8_ownerAt_5 : decode cX8_ownerAt 5 = .ok (.aload_n 0, 1) := by decide +kernel
theorem dX8_ownerAt_6 : decode cX8_ownerAt 6 = .ok (.getfield 25, 3) := by decide +kernel
theorem dX8_ownerAt_9 : decode cX8_ownerAt 9 = .ok (.if_icmp .ge 12, 3) := by decide +kernel
theorem dX8_ownerAt_12 : decode cX8_ownerAt 12 = .ok (.aload_n 0, 1) := by decide +kernel
theorem dX8_ownerAt_13 : decode cX8_ownerAt 13 = .ok (.getfield 21, 3) := by decide +kernel
theorem dX8_ownerAt_16 : decode cX8_ownerAt 16 = .ok (.iload_n 1, 1) := by decide +kernel
theorem dX8_ownerAt_17 : decode cX8_ownerAt 17 = .ok (.aaload, 1) := by decide +kernel
theorem dX8_ownerAt_18 : decode cX8_ownerAt 18 = .ok (.goto 4, 3) := by decide +kernel
theorem dX8_ownerAt_21 : decode cX8_ownerAt 21 = .ok (.aconst_null, 1) := by decide +kernel
theorem dX8_ownerAt_22 : decode cX8_ownerAt 22 = .ok (.areturn, 1) := by decide +kernel
theorem dX8_livingOwnerAt_0 : decode cX8_livingOwnerAt 0 = .ok (.aload_n 0, 1) := by decide +kernel
theorem dX8_livingOwnerAt_1 : decode cX8_livingOwnerAt 1 = .ok (.iload_n 1, 1) := by decide +kernel
theorem dX8_livingOwnerAt_2 : decode cX8_livingOwnerAt 2 = .ok (.invokevirtual 291, 3) := by decide +kernel
theorem dX8_livingOwnerAt_5 : decode cX8_livingOwnerAt 5 = .ok (.astore_n 2, 1) := by decide +kernel
theorem dX8_livingOwnerAt_6 : decode cX8_livingOwnerAt 6 = .ok (.aload_n 2, 1) := by decide +kernel
theorem dX8_livingOwnerAt_7 : decode cX8_livingOwnerAt 7 = .ok (.ifnull 10, 3) := by decide +kernel
theorem dX8_livingOwnerAt_10 : decode cX8_livingOwnerAt 10 = .ok (.aload_n 2, 1) := by decide +kernel
theorem dX8_livingOwnerAt_11 : decode cX8_livingOwnerAt 11 = .ok (.getfield 237, 3) := by decide +kernel
theorem dX8_livingOwnerAt_14 : decode cX8_livingOwnerAt 14 = .ok (.ifCond .eq 7, 3) := by decide +kernel
theorem dX8_livingOwnerAt_17 : decode cX8_livingOwnerAt 17 = .ok (.aconst_null, 1) := by decide +kernel
theorem dX8_livingOwnerAt_18 : decode cX8_livingOwnerAt 18 = .ok (.goto 4, 3) := by decide +kernel
theorem dX8_livingOwnerAt_21 : decode cX8_livingOwnerAt 21 = .ok (.aload_n 2, 1) := by decide +kernel
theorem dX8_livingOwnerAt_22 : decode cX8_livingOwnerAt 22 = .ok (.areturn, 1) := by decide +kernel
theorem dX8_giftAt_0 : decode cX8_giftAt 0 = .ok (.iload_n 1, 1) := by decide +kernel
theorem dX8_giftAt_1 : decode cX8_giftAt 1 = .ok (.ifCond .lt 20, 3) := by decide +kernel
theorem dX8_giftAt_4 : decode cX8_giftAt 4 = .ok (.iload_n 1, 1) := by decide +kernel
theorem dX8_giftAt_5 : decode cX8_giftAt 5 = .ok (.aload_n 0, 1) := by decide +kernel
theorem dX8_giftAt_6 : decode cX8_giftAt 6 = .ok (.getfield 34, 3) := by decide +kernel
theorem dX8_giftAt_9 : decode cX8_giftAt 9 = .ok (.if_icmp .ge 12, 3) := by decide +kernel
theorem dX8_giftAt_12 : decode cX8_giftAt 12 = .ok (.aload_n 0, 1) := by decide +kernel
theorem dX8_giftAt_13 : decode cX8_giftAt 13 = .ok (.getfield 30, 3) := by decide +kernel
theorem dX8_giftAt_16 : decode cX8_giftAt 16 = .ok (.iload_n 1, 1) := by decide +kernel
theorem dX8_giftAt_17 : decode cX8_giftAt 17 = .ok (.aaload, 1) := by decide +kernel
theorem dX8_giftAt_18 : decode cX8_giftAt 18 = .ok (.goto 4, 3) := by decide +kernel
theorem dX8_giftAt_21 : decode cX8_giftAt 21 = .ok (.aconst_null, 1) := by decide +kernel
theorem dX8_giftAt_22 : decode cX8_giftAt 22 = .ok (.areturn, 1) := by decide +kernel
theorem dX8_giftThatIs_0 : decode cX8_giftThatIs 0 = .ok (.aload_n 0, 1) := by decide +kernel
theorem dX8_giftThatIs_1 : decode cX8_giftThatIs 1 = .ok (.iload_n 1, 1) := by decide +kernel
theorem dX8_giftThatIs_2 : decode cX8_giftThatIs 2 = .ok (.invokevirtual 269, 3) := by decide +kernel
theorem dX8_giftThatIs_5 : decode cX8_giftThatIs 5 = .ok (.astore_n 3, 1) := by decide +kernel
theorem dX8_giftThatIs_6 : decode cX8_giftThatIs 6 = .ok (.aload_n 3, 1) := by decide +kernel
theorem dX8_giftThatIs_7 : decode cX8_giftThatIs 7 = .ok (.ifnull 11, 3) := by decide +kernel
theorem dX8_giftThatIs_10 : decode cX8_giftThatIs 10 = .ok (.aload_n 3, 1) := by decide +kernel
theorem dX8_giftThatIs_11 : decode cX8_giftThatIs 11 = .ok (.getfield 136, 3) := by decide +kernel
theorem dX8_giftThatIs_14 : decode cX8_giftThatIs 14 = .ok (.iload_n 2, 1) := by decide +kernel
theorem dX8_giftThatIs_15 : decode cX8_giftThatIs 15 = .ok (.if_icmp .eq 7, 3) := by decide +kernel
theorem dX8_giftThatIs_18 : decode cX8_giftThatIs 18 = .ok (.aconst_null, 1) := by decide +kernel
theorem dX8_giftThatIs_19 : decode cX8_giftThatIs 19 = .ok (.goto 4, 3) := by decide +kernel
theorem dX8_giftThatIs_22 : decode cX8_giftThatIs 22 = .ok (.aload_n 3, 1) := by decide +kernel
theorem dX8_giftThatIs_23 : decode cX8_giftThatIs 23 = .ok (.areturn, 1) := by decide +kernel
theorem dX8_addGift_0 : decode cX8_addGift 0 = .ok (.new 28, 3) := by decide +kernel
theorem dX8_addGift_3 : decode cX8_addGift 3 = .ok (.dup, 1) := by decide +kernel
theorem dX8_addGift_4 : decode cX8_addGift 4 = .ok (.aload_n 0, 1) := by decide +kernel
theorem dX8_addGift_5 : decode cX8_addGift 5 = .ok (.getfield 34, 3) := by decide +kernel
theorem dX8_addGift_8 : decode cX8_addGift 8 = .ok (.aload_n 1, 1) := by decide +kernel
theorem dX8_addGift_9 : decode cX8_addGift 9 = .ok (.aload_n 2, 1) := by decide +kernel
theorem dX8_addGift_10 : decode cX8_addGift 10 = .ok (.iload_n 3, 1) := by decide +kernel
theorem dX8_addGift_11 : decode cX8_addGift 11 = .ok (.invokespecial 297, 3) := by decide +kernel
theorem dX8_addGift_14 : decode cX8_addGift 14 = .ok (.astore 4, 2) := by decide +kernel
theorem dX8_addGift_16 : decode cX8_addGift 16 = .ok (.aload 4, 2) := by decide +kernel
theorem dX8_addGift_18 : decode cX8_addGift 18 = .ok (.aload_n 0, 1) := by decide +kernel
theorem dX8_addGift_19 : decode cX8_addGift 19 = .ok (.getfield 54, 3) := by decide +kernel
theorem dX8_addGift_22 : decode cX8_addGift 22 = .ok (.putfield 215, 3) := by decide +kernel
theorem dX8_addGift_25 : decode cX8_addGift 25 = .ok (.aload 4, 2) := by decide +kernel
theorem dX8_addGift_27 : decode cX8_addGift 27 = .ok (.aload_n 0, 1) := by decide +kernel
theorem dX8_addGift_28 : decode cX8_addGift 28 = .ok (.getfield 47, 3) := by decide +kernel
theorem dX8_addGift_31 : decode cX8_addGift 31 = .ok (.aload_n 2, 1) := by decide +kernel
theorem dX8_addGift_32 : decode cX8_addGift 32 = .ok (.getfield 124, 3) := by decide +kernel
theorem dX8_addGift_35 : decode cX8_addGift 35 = .ok (.iload_n 3, 1) := by decide +kernel
theorem dX8_addGift_36 : decode cX8_addGift 36 = .ok (.iload_n 3, 1) := by decide +kernel
theorem dX8_addGift_37 : decode cX8_addGift 37 = .ok (.aload_n 0, 1) := by decide +kernel
theorem dX8_addGift_38 : decode cX8_addGift 38 = .ok (.getfield 57, 3) := by decide +kernel
theorem dX8_addGift_41 : decode cX8_addGift 41 = .ok (.isub, 1) := by decide +kernel
theorem dX8_addGift_42 : decode cX8_addGift 42 = .ok (.invokevirtual 127, 3) := by decide +kernel
theorem dX8_addGift_45 : decode cX8_addGift 45 = .ok (.putfield 186, 3) := by decide +kernel
theorem dX8_addGift_48 : decode cX8_addGift 48 = .ok (.aload_n 0, 1) := by decide +kernel
theorem dX8_addGift_49 : decode cX8_addGift 49 = .ok (.getfield 30, 3) := by decide +kernel
theorem dX8_addGift_52 : decode cX8_addGift 52 = .ok (.aload_n 0, 1) := by decide +kernel
theorem dX8_addGift_53 : decode cX8_addGift 53 = .ok (.getfield 34, 3) := by decide +kernel
theorem dX8_addGift_56 : decode cX8_addGift 56 = .ok (.aload 4, 2) := by decide +kernel
theorem dX8_addGift_58 : decode cX8_addGift 58 = .ok (.aastore, 1) := by decide +kernel
theorem dX8_addGift_59 : decode cX8_addGift 59 = .ok (.aload_n 0, 1) := by decide +kernel
theorem dX8_addGift_60 : decode cX8_addGift 60 = .ok (.dup, 1) := by decide +kernel
theorem dX8_addGift_61 : decode cX8_addGift 61 = .ok (.getfield 34, 3) := by decide +kernel
theorem dX8_addGift_64 : decode cX8_addGift 64 = .ok (.iconst 1, 1) := by decide +kernel
theorem dX8_addGift_65 : decode cX8_addGift 65 = .ok (.iadd, 1) := by decide +kernel
theorem dX8_addGift_66 : decode cX8_addGift 66 = .ok (.putfield 34, 3) := by decide +kernel
theorem dX8_addGift_69 : decode cX8_addGift 69 = .ok (.aload_n 2, 1) := by decide +kernel
theorem dX8_addGift_70 : decode cX8_addGift 70 = .ok (.getfield 95, 3) := by decide +kernel
theorem dX8_addGift_73 : decode cX8_addGift 73 = .ok (.iload_n 3, 1) := by decide +kernel
theorem dX8_addGift_74 : decode cX8_addGift 74 = .ok (.aload 4, 2) := by decide +kernel
theorem dX8_addGift_76 : decode cX8_addGift 76 = .ok (.aastore, 1) := by decide +kernel
theorem dX8_addGift_77 : decode cX8_addGift 77 = .ok (.aload 4, 2) := by decide +kernel
theorem dX8_addGift_79 : decode cX8_addGift 79 = .ok (.getfield 288, 3) := by decide +kernel
theorem dX8_addGift_82 : decode cX8_addGift 82 = .ok (.ireturn, 1) := by decide +kernel
theorem dX8_countGifts_0 : decode cX8_countGifts 0 = .ok (.iconst 0, 1) := by decide +kernel
theorem dX8_countGifts_1 : decode cX8_countGifts 1 = .ok (.istore_n 2, 1) := by decide +kernel
theorem dX8_countGifts_2 : decode cX8_countGifts 2 = .ok (.iconst 0, 1) := by decide +kernel
theorem dX8_countGifts_3 : decode cX8_countGifts 3 = .ok (.istore_n 3, 1) := by decide +kernel
theorem dX8_countGifts_4 : decode cX8_countGifts 4 = .ok (.iload_n 3, 1) := by decide +kernel
theorem dX8_countGifts_5 : decode cX8_countGifts 5 = .ok (.aload_n 0, 1) := by decide +kernel
theorem dX8_countGifts_6 : decode cX8_countGifts 6 = .ok (.getfield 34, 3) := by decide +kernel
theorem dX8_countGifts_9 : decode cX8_countGifts 9 = .ok (.if_icmp .ge 25, 3) := by decide +kernel
theorem dX8_countGifts_12 : decode cX8_countGifts 12 = .ok (.aload_n 0, 1) := by decide +kernel
theorem dX8_countGifts_13 : decode cX8_countGifts 13 = .ok (.getfield 30, 3) := by decide +kernel
theorem dX8_countGifts_16 : decode cX8_countGifts 16 = .ok (.iload_n 3, 1) := by decide +kernel
theorem dX8_countGifts_17 : decode cX8_countGifts 17 = .ok (.aaload, 1) := by decide +kernel
theorem dX8_countGifts_18 : decode cX8_countGifts 18 = .ok (.getfield 136, 3) := by decide +kernel
theorem dX8_countGifts_21 : decode cX8_countGifts 21 = .ok (.iload_n 1, 1) := by decide +kernel
theorem dX8_countGifts_22 : decode cX8_countGifts 22 = .ok (.if_icmp .ne 6, 3) := by decide +kernel
theorem dX8_countGifts_25 : decode cX8_countGifts 25 = .ok (.iinc 2 1, 3) := by decide +kernel
theorem dX8_countGifts_28 : decode cX8_countGifts 28 = .ok (.iinc 3 1, 3) := by decide +kernel
theorem dX8_countGifts_31 : decode cX8_countGifts 31 = .ok (.goto (-27), 3) := by decide +kernel
theorem dX8_countGifts_34 : decode cX8_countGifts 34 = .ok (.iload_n 2, 1) := by decide +kernel
theorem dX8_countGifts_35 : decode cX8_countGifts 35 = .ok (.ireturn, 1) := by decide +kernel
theorem dX8_sumPoints_0 : decode cX8_sumPoints 0 = .ok (.iconst 0, 1) := by decide +kernel
theorem dX8_sumPoints_1 : decode cX8_sumPoints 1 = .ok (.istore_n 1, 1) := by decide +kernel
theorem dX8_sumPoints_2 : decode cX8_sumPoints 2 = .ok (.iconst 0, 1) := by decide +kernel
theorem dX8_sumPoints_3 : decode cX8_sumPoints 3 = .ok (.istore_n 2, 1) := by decide +kernel
theorem dX8_sumPoints_4 : decode cX8_sumPoints 4 = .ok (.iload_n 2, 1) := by decide +kernel
theorem dX8_sumPoints_5 : decode cX8_sumPoints 5 = .ok (.aload_n 0, 1) := by decide +kernel
theorem dX8_sumPoints_6 : decode cX8_sumPoints 6 = .ok (.getfield 25, 3) := by decide +kernel
theorem dX8_sumPoints_9 : decode cX8_sumPoints 9 = .ok (.if_icmp .ge 21, 3) := by decide +kernel
theorem dX8_sumPoints_12 : decode cX8_sumPoints 12 = .ok (.iload_n 1, 1) := by decide +kernel
theorem dX8_sumPoints_13 : decode cX8_sumPoints 13 = .ok (.aload_n 0, 1) := by decide +kernel
theorem dX8_sumPoints_14 : decode cX8_sumPoints 14 = .ok (.getfield 21, 3) := by decide +kernel
theorem dX8_sumPoints_17 : decode cX8_sumPoints 17 = .ok (.iload_n 2, 1) := by decide +kernel
theorem dX8_sumPoints_18 : decode cX8_sumPoints 18 = .ok (.aaload, 1) := by decide +kernel
theorem dX8_sumPoints_19 : decode cX8_sumPoints 19 = .ok (.getfield 183, 3) := by decide +kernel
theorem dX8_sumPoints_22 : decode cX8_sumPoints 22 = .ok (.iadd, 1) := by decide +kernel
theorem dX8_sumPoints_23 : decode cX8_sumPoints 23 = .ok (.istore_n 1, 1) := by decide +kernel
theorem dX8_sumPoints_24 : decode cX8_sumPoints 24 = .ok (.iinc 2 1, 3) := by decide +kernel
theorem dX8_sumPoints_27 : decode cX8_sumPoints 27 = .ok (.goto (-23), 3) := by decide +kernel
theorem dX8_sumPoints_30 : decode cX8_sumPoints 30 = .ok (.iload_n 1, 1) := by decide +kernel
theorem dX8_sumPoints_31 : decode cX8_sumPoints 31 = .ok (.ireturn, 1) := by decide +kernel
theorem dX8_passAllWeeks_0 : decode cX8_passAllWeeks 0 = .ok (.iconst 0, 1) := by decide +kernel
theorem dX8_passAllWeeks_1 : decode cX8_passAllWeeks 1 = .ok (.istore_n 3, 1) := by decide +kernel
theorem dX8_passAllWeeks_2 : decode cX8_passAllWeeks 2 = .ok (.iload_n 3, 1) := by decide +kernel
theorem dX8_passAllWeeks_3 : decode cX8_passAllWeeks 3 = .ok (.aload_n 0, 1) := by decide +kernel
theorem dX8_passAllWeeks_4 : decode cX8_passAllWeeks 4 = .ok (.getfield 15, 3) := by decide +kernel
theorem dX8_passAllWeeks_7 : decode cX8_passAllWeeks 7 = .ok (.if_icmp .ge 53, 3) := by decide +kernel
theorem dX8_passAllWeeks_10 : decode cX8_passAllWeeks 10 = .ok (.iconst 0, 1) := by decide +kernel
theorem dX8_passAllWeeks_11 : decode cX8_passAllWeeks 11 = .ok (.istore 4, 2) := by decide +kernel
theorem dX8_passAllWeeks_13 : decode cX8_passAllWeeks 13 = .ok (.iload 4, 2) := by decide +kernel
theorem dX8_passAllWeeks_15 : decode cX8_passAllWeeks 15 = .ok (.bipush 53, 2) := by decide +kernel
theorem dX8_passAllWeeks_17 : decode cX8_passAllWeeks 17 = .ok (.if_icmp .ge 37, 3) := by decide +kernel
theorem dX8_passAllWeeks_20 : decode cX8_passAllWeeks 20 = .ok (.aload_n 0, 1) := by decide +kernel
theorem dX8_passAllWeeks_21 : decode cX8_passAllWeeks 21 = .ok (.getfield 11, 3) := by decide +kernel
theorem dX8_passAllWeeks_24 : decode cX8_passAllWeeks 24 = .ok (.iload_n 3, 1) := by decide +kernel
theorem dX8_passAllWeeks_25 : decode cX8_passAllWeeks 25 = .ok (.aaload, 1) := by decide +kernel
theorem dX8_passAllWeeks_26 : decode cX8_passAllWeeks 26 = .ok (.getfield 131, 3) := by decide +kernel
theorem dX8_passAllWeeks_29 : decode cX8_passAllWeeks 29 = .ok (.iload 4, 2) := by decide +kernel
theorem dX8_passAllWeeks_31 : decode cX8_passAllWeeks 31 = .ok (.aaload, 1) := by decide +kernel
theorem dX8_passAllWeeks_32 : decode cX8_passAllWeeks 32 = .ok (.aload_n 1, 1) := by decide +kernel
theorem dX8_passAllWeeks_33 : decode cX8_passAllWeeks 33 = .ok (.if_acmp .ne 15, 3) := by decide +kernel
theorem dX8_passAllWeeks_36 : decode cX8_passAllWeeks 36 = .ok (.aload_n 0, 1) := by decide +kernel
theorem dX8_passAllWeeks_37 : decode cX8_passAllWeeks 37 = .ok (.getfield 11, 3) := by decide +kernel
theorem dX8_passAllWeeks_40 : decode cX8_passAllWeeks 40 = .ok (.iload_n 3, 1) := by decide +kernel
theorem dX8_passAllWeeks_41 : decode cX8_passAllWeeks 41 = .ok (.aaload, 1) := by decide +kernel
theorem dX8_passAllWeeks_42 : decode cX8_passAllWeeks 42 = .ok (.iload 4, 2) := by decide +kernel
theorem dX8_passAllWeeks_44 : decode cX8_passAllWeeks 44 = .ok (.aload_n 2, 1) := by decide +kernel
theorem dX8_passAllWeeks_45 : decode cX8_passAllWeeks 45 = .ok (.invokevirtual 100, 3) := by decide +kernel
theorem dX8_passAllWeeks_48 : decode cX8_passAllWeeks 48 = .ok (.iinc 4 1, 3) := by decide +kernel
theorem dX8_passAllWeeks_51 : decode cX8_passAllWeeks 51 = .ok (.goto (-38), 3) := by decide +kernel
theorem dX8_passAllWeeks_54 : decode cX8_passAllWeeks 54 = .ok (.iinc 3 1, 3) := by decide +kernel
theorem dX8_passAllWeeks_57 : decode cX8_passAllWeeks 57 = .ok (.goto (-55), 3) := by decide +kernel
theorem dX8_passAllWeeks_60 : decode cX8_passAllWeeks 60 = .ok (.return_, 1) := by decide +kernel
theorem dX8_endUnusedGifts_0 : decode cX8_endUnusedGifts 0 = .ok (.iconst 0, 1) := by decide +kernel
theorem dX8_endUnusedGifts_1 : decode cX8_endUnusedGifts 1 = .ok (.istore_n 2, 1) := by decide +kernel
theorem dX8_endUnusedGifts_2 : decode cX8_endUnusedGifts 2 = .ok (.iload_n 2, 1) := by decide +kernel
theorem dX8_endUnusedGifts_3 : decode cX8_endUnusedGifts 3 = .ok (.aload_n 0, 1) := by decide +kernel
theorem dX8_endUnusedGifts_4 : decode cX8_endUnusedGifts 4 = .ok (.getfield 34, 3) := by decide +kernel
theorem dX8_endUnusedGifts_7 : decode cX8_endUnusedGifts 7 = .ok (.if_icmp .ge 56, 3) := by decide +kernel
theorem dX8_endUnusedGifts_10 : decode cX8_endUnusedGifts 10 = .ok (.aload_n 0, 1) := by decide +kernel
theorem dX8_endUnusedGifts_11 : decode cX8_endUnusedGifts 11 = .ok (.getfield 30, 3) := by decide +kernel
theorem dX8_endUnusedGifts_14 : decode cX8_endUnusedGifts 14 = .ok (.iload_n 2, 1) := by decide +kernel
theorem dX8_endUnusedGifts_15 : decode cX8_endUnusedGifts 15 = .ok (.aaload, 1) := by decide +kernel
theorem dX8_endUnusedGifts_16 : decode cX8_endUnusedGifts 16 = .ok (.astore_n 3, 1) := by decide +kernel
theorem dX8_endUnusedGifts_17 : decode cX8_endUnusedGifts 17 = .ok (.aload_n 3, 1) := by decide +kernel
theorem dX8_endUnusedGifts_18 : decode cX8_endUnusedGifts 18 = .ok (.getfield 136, 3) := by decide +kernel
theorem dX8_endUnusedGifts_21 : decode cX8_endUnusedGifts 21 = .ok (.ifCond .eq 11, 3) := by decide +kernel
theorem dX8_endUnusedGifts_24 : decode cX8_endUnusedGifts 24 = .ok (.aload_n 3, 1) := by decide +kernel
theorem dX8_endUnusedGifts_25 : decode cX8_endUnusedGifts 25 = .ok (.getfield 136, 3) := by decide +kernel
theorem dX8_endUnusedGifts_28 : decode cX8_endUnusedGifts 28 = .ok (.iconst 2, 1) := by decide +kernel
theorem dX8_endUnusedGifts_29 : decode cX8_endUnusedGifts 29 = .ok (.if_icmp .ne 7, 3) := by decide +kernel
theorem dX8_endUnusedGifts_32 : decode cX8_endUnusedGifts 32 = .ok (.iconst 1, 1) := by decide +kernel
theorem dX8_endUnusedGifts_33 : decode cX8_endUnusedGifts 33 = .ok (.goto 4, 3) := by decide +kernel
theorem dX8_endUnusedGifts_36 : decode cX8_endUnusedGifts 36 = .ok (.iconst 0, 1) := by decide +kernel
theorem dX8_endUnusedGifts_37 : decode cX8_endUnusedGifts 37 = .ok (.istore 4, 2) := by decide +kernel
theorem dX8_endUnusedGifts_39 : decode cX8_endUnusedGifts 39 = .ok (.iload 4, 2) := by decide +kernel
theorem dX8_endUnusedGifts_41 : decode cX8_endUnusedGifts 41 = .ok (.ifCond .eq 16, 3) := by decide +kernel
theorem dX8_endUnusedGifts_44 : decode cX8_endUnusedGifts 44 = .ok (.aload_n 3, 1) := by decide +kernel
theorem dX8_endUnusedGifts_45 : decode cX8_endUnusedGifts 45 = .ok (.getfield 212, 3) := by decide +kernel
theorem dX8_endUnusedGifts_48 : decode cX8_endUnusedGifts 48 = .ok (.iload_n 1, 1) := by decide +kernel
theorem dX8_endUnusedGifts_49 : decode cX8_endUnusedGifts 49 = .ok (.if_icmp .gt 8, 3) := by decide +kernel
theorem dX8_endUnusedGifts_52 : decode cX8_endUnusedGifts 52 = .ok (.aload_n 3, 1) := by decide +kernel
theorem dX8_endUnusedGifts_53 : decode cX8_endUnusedGifts 53 = .ok (.iconst 5, 1) := by decide +kernel
theorem dX8_endUnusedGifts_54 : decode cX8_endUnusedGifts 54 = .ok (.putfield 136, 3) := by decide +kernel
theorem dX8_endUnusedGifts_57 : decode cX8_endUnusedGifts 57 = .ok (.iinc 2 1, 3) := by decide +kernel
theorem dX8_endUnusedGifts_60 : decode cX8_endUnusedGifts 60 = .ok (.goto (-58), 3) := by decide +kernel
theorem dX8_endUnusedGifts_63 : decode cX8_endUnusedGifts 63 = .ok (.return_, 1) := by decide +kernel
theorem dX8_firstInLine_0 : decode cX8_firstInLine 0 = .ok (.aconst_null, 1) := by decide +kernel
theorem dX8_firstInLine_1 : decode cX8_firstInLine 1 = .ok (.astore_n 1, 1) := by decide +kernel
theorem dX8_firstInLine_2 : decode cX8_firstInLine 2 = .ok (.iconst 0, 1) := by decide +kernel
theorem dX8_firstInLine_3 : decode cX8_firstInLine 3 = .ok (.istore_n 2, 1) := by decide +kernel
theorem dX8_firstInLine_4 : decode cX8_firstInLine 4 = .ok (.iload_n 2, 1) := by decide +kernel
theorem dX8_firstInLine_5 : decode cX8_firstInLine 5 = .ok (.aload_n 0, 1) := by decide +kernel
theorem dX8_firstInLine_6 : decode cX8_firstInLine 6 = .ok (.getfield 25, 3) := by decide +kernel
theorem dX8_firstInLine_9 : decode cX8_firstInLine 9 = .ok (.if_icmp .ge 48, 3) := by decide +kernel
theorem dX8_firstInLine_12 : decode cX8_firstInLine 12 = .ok (.aload_n 0, 1) := by decide +kernel
theorem dX8_firstInLine_13 : decode cX8_firstInLine 13 = .ok (.getfield 21, 3) := by decide +kernel
theorem dX8_firstInLine_16 : decode cX8_firstInLine 16 = .ok (.iload_n 2, 1) := by decide +kernel
theorem dX8_firstInLine_17 : decode cX8_firstInLine 17 = .ok (.aaload, 1) := by decide +kernel
theorem dX8_firstInLine_18 : decode cX8_firstInLine 18 = .ok (.getfield 193, 3) := by decide +kernel
theorem dX8_firstInLine_21 : decode cX8_firstInLine 21 = .ok (.ifCond .eq 30, 3) := by decide +kernel
theorem dX8_firstInLine_24 : decode cX8_firstInLine 24 = .ok (.aload_n 1, 1) := by decide +kernel
theorem dX8_firstInLine_25 : decode cX8_firstInLine 25 = .ok (.ifnull 19, 3) := by decide +kernel
theorem dX8_firstInLine_28 : decode cX8_firstInLine 28 = .ok (.aload_n 0, 1) := by decide +kernel
theorem dX8_firstInLine_29 : decode cX8_firstInLine 29 = .ok (.getfield 21, 3) := by decide +kernel
theorem dX8_firstInLine_32 : decode cX8_firstInLine 32 = .ok (.iload_n 2, 1) := by decide +kernel
theorem dX8_firstInLine_33 : decode cX8_firstInLine 33 = .ok (.aaload, 1) := by decide +kernel
theorem dX8_firstInLine_34 : decode cX8_firstInLine 34 = .ok (.getfield 205, 3) := by decide +kernel
theorem dX8_firstInLine_37 : decode cX8_firstInLine 37 = .ok (.aload_n 1, 1) := by decide +kernel
theorem dX8_firstInLine_38 : decode cX8_firstInLine 38 = .ok (.getfield 205, 3) := by decide +kernel
theorem dX8_firstInLine_41 : decode cX8_firstInLine 41 = .ok (.if_icmp .ge 10, 3) := by decide +kernel
theorem dX8_firstInLine_44 : decode cX8_firstInLine 44 = .ok (.aload_n 0, 1) := by decide +kernel
theorem dX8_firstInLine_45 : decode cX8_firstInLine 45 = .ok (.getfield 21, 3) := by decide +kernel
theorem dX8_firstInLine_48 : decode cX8_firstInLine 48 = .ok (.iload_n 2, 1) := by decide +kernel
theorem dX8_firstInLine_49 : decode cX8_firstInLine 49 = .ok (.aaload, 1) := by decide +kernel
theorem dX8_firstInLine_50 : decode cX8_firstInLine 50 = .ok (.astore_n 1, 1) := by decide +kernel
theorem dX8_firstInLine_51 : decode cX8_firstInLine 51 = .ok (.iinc 2 1, 3) := by decide +kernel
theorem dX8_firstInLine_54 : decode cX8_firstInLine 54 = .ok (.goto (-50), 3) := by decide +kernel
theorem dX8_firstInLine_57 : decode cX8_firstInLine 57 = .ok (.aload_n 1, 1) := by decide +kernel
theorem dX8_firstInLine_58 : decode cX8_firstInLine 58 = .ok (.areturn, 1) := by decide +kernel
theorem dX8_bestBankedFor_0 : decode cX8_bestBankedFor 0 = .ok (.aconst_null, 1) := by decide +kernel
theorem dX8_bestBankedFor_1 : decode cX8_bestBankedFor 1 = .ok (.astore_n 2, 1) := by decide +kernel
theorem dX8_bestBankedFor_2 : decode cX8_bestBankedFor 2 = .ok (.iconst 0, 1) := by decide +kernel
theorem dX8_bestBankedFor_3 : decode cX8_bestBankedFor 3 = .ok (.istore_n 3, 1) := by decide +kernel
theorem dX8_bestBankedFor_4 : decode cX8_bestBankedFor 4 = .ok (.iload_n 3, 1) := by decide +kernel
theorem dX8_bestBankedFor_5 : decode cX8_bestBankedFor 5 = .ok (.aload_n 0, 1) := by decide +kernel
theorem dX8_bestBankedFor_6 : decode cX8_bestBankedFor 6 = .ok (.getfield 34, 3) := by decide +kernel
theorem dX8_bestBankedFor_9 : decode cX8_bestBankedFor 9 = .ok (.if_icmp .ge 81, 3) := by decide +kernel
theorem dX8_bestBankedFor_12 : decode cX8_bestBankedFor 12 = .ok (.aload_n 0, 1) := by decide +kernel
theorem dX8_bestBankedFor_13 : decode cX8_bestBankedFor 13 = .ok (.getfield 30, 3) := by decide +kernel
theorem dX8_bestBankedFor_16 : decode cX8_bestBankedFor 16 = .ok (.iload_n 3, 1) := by decide +kernel
theorem dX8_bestBankedFor_17 : decode cX8_bestBankedFor 17 = .ok (.aaload, 1) := by decide +kernel
theorem dX8_bestBankedFor_18 : decode cX8_bestBankedFor 18 = .ok (.astore 4, 2) := by decide +kernel
theorem dX8_bestBankedFor_20 : decode cX8_bestBankedFor 20 = .ok (.aload 4, 2) := by decide +kernel
theorem dX8_bestBankedFor_22 : decode cX8_bestBankedFor 22 = .ok (.getfield 136, 3) := by decide +kernel
theorem dX8_bestBankedFor_25 : decode cX8_bestBankedFor 25 = .ok (.iconst 2, 1) := by decide +kernel
theorem dX8_bestBankedFor_26 : decode cX8_bestBankedFor 26 = .ok (.if_icmp .ne 19, 3) := by decide +kernel
theorem dX8_bestBankedFor_29 : decode cX8_bestBankedFor 29 = .ok (.aload 4, 2) := by decide +kernel
theorem dX8_bestBankedFor_31 : decode cX8_bestBankedFor 31 = .ok (.getfield 186, 3) := by decide +kernel
theorem dX8_bestBankedFor_34 : decode cX8_bestBankedFor 34 = .ok (.aload_n 1, 1) := by decide +kernel
theorem dX8_bestBankedFor_35 : decode cX8_bestBankedFor 35 = .ok (.getfield 183, 3) := by decide +kernel
theorem dX8_bestBankedFor_38 : decode cX8_bestBankedFor 38 = .ok (.if_icmp .gt 7, 3) := by decide +kernel
theorem dX8_bestBankedFor_41 : decode cX8_bestBankedFor 41 = .ok (.iconst 1, 1) := by decide +kernel
theorem dX8_bestBankedFor_42 : decode cX8_bestBankedFor 42 = .ok (.goto 4, 3) := by decide +kernel
theorem dX8_bestBankedFor_45 : decode cX8_bestBankedFor 45 = .ok (.iconst 0, 1) := by decide +kernel
theorem dX8_bestBankedFor_46 : decode cX8_bestBankedFor 46 = .ok (.istore 5, 2) := by decide +kernel
theorem dX8_bestBankedFor_48 : decode cX8_bestBankedFor 48 = .ok (.iload 5, 2) := by decide +kernel
theorem dX8_bestBankedFor_50 : decode cX8_bestBankedFor 50 = .ok (.ifCond .eq 34, 3) := by decide +kernel
theorem dX8_bestBankedFor_53 : decode cX8_bestBankedFor 53 = .ok (.aload 4, 2) := by decide +kernel
theorem dX8_bestBankedFor_55 : decode cX8_bestBankedFor 55 = .ok (.aload_n 1, 1) := by decide +kernel
theorem dX8_bestBankedFor_56 : decode cX8_bestBankedFor 56 = .ok (.getfield 164, 3) := by decide +kernel
theorem dX8_bestBankedFor_59 : decode cX8_bestBankedFor 59 = .ok (.invokevirtual 300, 3) := by decide +kernel
theorem dX8_bestBankedFor_62 : decode cX8_bestBankedFor 62 = .ok (.ifCond .eq 22, 3) := by decide +kernel
theorem dX8_bestBankedFor_65 : decode cX8_bestBankedFor 65 = .ok (.aload_n 2, 1) := by decide +kernel
theorem dX8_bestBankedFor_66 : decode cX8_bestBankedFor 66 = .ok (.ifnull 15, 3) := by decide +kernel
theorem dX8_bestBankedFor_69 : decode cX8_bestBankedFor 69 = .ok (.aload 4, 2) := by decide +kernel
theorem dX8_bestBankedFor_71 : decode cX8_bestBankedFor 71 = .ok (.getfield 186, 3) := by decide +kernel
theorem dX8_bestBankedFor_74 : decode cX8_bestBankedFor 74 = .ok (.aload_n 2, 1) := by decide +kernel
theorem dX8_bestBankedFor_75 : decode cX8_bestBankedFor 75 = .ok (.getfield 186, 3) := by decide +kernel
theorem dX8_bestBankedFor_78 : decode cX8_bestBankedFor 78 = .ok (.if_icmp .le 6, 3) := by decide +kernel
theorem dX8_bestBankedFor_81 : decode cX8_bestBankedFor 81 = .ok (.aload 4, 2) := by decide +kernel
theorem dX8_bestBankedFor_83 : decode cX8_bestBankedFor 83 = .ok (.astore_n 2, 1) := by decide +kernel
theorem dX8_bestBankedFor_84 : decode cX8_bestBankedFor 84 = .ok (.iinc 3 1, 3) := by decide +kernel
theorem dX8_bestBankedFor_87 : decode cX8_bestBankedFor 87 = .ok (.goto (-83), 3) := by decide +kernel
theorem dX8_bestBankedFor_90 : decode cX8_bestBankedFor 90 = .ok (.aload_n 2, 1) := by decide +kernel
theorem dX8_bestBankedFor_91 : decode cX8_bestBankedFor 91 = .ok (.areturn, 1) := by decide +kernel
theorem dX9_within_0 : decode cX9_within 0 = .ok (.iload_n 0, 1) := by decide +kernel
theorem dX9_within_1 : decode cX9_within 1 = .ok (.iload_n 1, 1) := by decide +kernel
theorem dX9_within_2 : decode cX9_within 2 = .ok (.if_icmp .lt 12, 3) := by decide +kernel
theorem dX9_within_5 : decode cX9_within 5 = .ok (.iload_n 0, 1) := by decide +kernel
theorem dX9_within_6 : decode cX9_within 6 = .ok (.iload_n 2, 1) := by decide +kernel
theorem dX9_within_7 : decode cX9_within 7 = .ok (.if_icmp .gt 7, 3) := by decide +kernel
theorem dX9_within_10 : decode cX9_within 10 = .ok (.iconst 1, 1) := by decide +kernel
theorem dX9_within_11 : decode cX9_within 11 = .ok (.goto 4, 3) := by decide +kernel
theorem dX9_within_14 : decode cX9_within 14 = .ok (.iconst 0, 1) := by decide +kernel
theorem dX9_within_15 : decode cX9_within 15 = .ok (.ireturn, 1) := by decide +kernel
theorem dX9_init_0 : decode cX9_init 0 = .ok (.aload_n 0, 1) := by decide +kernel
theorem dX9_init_1 : decode cX9_init 1 = .ok (.invokespecial 7, 3) := by decide +kernel
theorem dX9_init_4 : decode cX9_init 4 = .ok (.aload_n 0, 1) := by decide +kernel
theorem dX9_init_5 : decode cX9_init 5 = .ok (.bipush 6, 2) := by decide +kernel
theorem dX9_init_7 : decode cX9_init 7 = .ok (.newarray .int, 2) := by decide +kernel
theorem dX9_init_9 : decode cX9_init 9 = .ok (.putfield 13, 3) := by decide +kernel
theorem dX9_init_12 : decode cX9_init 12 = .ok (.aload_n 0, 1) := by decide +kernel
theorem dX9_init_13 : decode cX9_init 13 = .ok (.bipush 6, 2) := by decide +kernel
theorem dX9_init_15 : decode cX9_init 15 = .ok (.newarray .int, 2) := by decide +kernel
theorem dX9_init_17 : decode cX9_init 17 = .ok (.putfield 17, 3) := by decide +kernel
theorem dX9_init_20 : decode cX9_init 20 = .ok (.aload_n 0, 1) := by decide +kernel
theorem dX9_init_21 : decode cX9_init 21 = .ok (.bipush 10, 2) := by decide +kernel
theorem dX9_init_23 : decode cX9_init 23 = .ok (.newarray .int, 2) := by decide +kernel
theorem dX9_init_25 : decode cX9_init 25 = .ok (.putfield 20, 3) := by decide +kernel
theorem dX9_init_28 : decode cX9_init 28 = .ok (.aload_n 0, 1) := by decide +kernel
theorem dX9_init_29 : decode cX9_init 29 = .ok (.bipush 10, 2) := by decide +kernel
theorem dX9_init_31 : decode cX9_init 31 = .ok (.newarray .int, 2) := by decide +kernel
theorem dX9_init_33 : decode cX9_init 33 = .ok (.putfield 23, 3) := by decide +kernel
theorem dX9_init_36 : decode cX9_init 36 = .ok (.aload_n 0, 1) := by decide +kernel
theorem dX9_init_37 : decode cX9_init 37 = .ok (.bipush 10, 2) := by decide +kernel
theorem dX9_init_39 : decode cX9_init 39 = .ok (.newarray .int, 2) := by decide +kernel
theorem dX9_init_41 : decode cX9_init 41 = .ok (.putfield 26, 3) := by decide +kernel
theorem dX9_init_44 : decode cX9_init 44 = .ok (.aload_n 0, 1) := by decide +kernel
theorem dX9_init_45 : decode cX9_init 45 = .ok (.bipush 10, 2) := by decide +kernel
theorem dX9_init_47 : decode cX9_init 47 = .ok (.newarray .boolean, 2) := by decide +kernel
theorem dX9_init_49 : decode cX9_init 49 = .ok (.putfield 29, 3) := by decide +kernel
theorem dX9_init_52 : decode cX9_init 52 = .ok (.aload_n 0, 1) := by decide +kernel
theorem dX9_init_53 : decode cX9_init 53 = .ok (.sipush 318, 3) := by decide +kernel
theorem dX9_init_56 : decode cX9_init 56 = .ok (.newarray .int, 2) := by decide +kernel
theorem dX9_init_58 : decode cX9_init 58 = .ok (.putfield 33, 3) := by decide +kernel
theorem dX9_init_61 : decode cX9_init 61 = .ok (.aload_n 0, 1) := by decide +kernel
theorem dX9_init_62 : decode cX9_init 62 = .ok (.sipush 318, 3) := by decide +kernel
theorem dX9_init_65 : decode cX9_init 65 = .ok (.newarray .boolean, 2) := by decide +kernel
theorem dX9_init_67 : decode cX9_init 67 = .ok (.putfield 36, 3) := by decide +kernel
theorem dX9_init_70 : decode cX9_init 70 = .ok (.aload_n 0, 1) := by decide +kernel
theorem dX9_init_71 : decode cX9_init 71 = .ok (.sipush 300, 3) := by decide +kernel
theorem dX9_init_74 : decode cX9_init 74 = .ok (.newarray .byte, 2) := by decide +kernel
theorem dX9_init_76 : decode cX9_init 76 = .ok (.putfield 39, 3) := by decide +kernel
theorem dX9_init_79 : decode cX9_init 79 = .ok (.aload_n 0, 1) := by decide +kernel
theorem dX9_init_80 : decode cX9_init 80 = .ok (.iconst (-1), 1) := by decide +kernel
theorem dX9_init_81 : decode cX9_init 81 = .ok (.putfield 43, 3) := by decide +kernel
theorem dX9_init_84 : decode cX9_init 84 = .ok (.aload_n 0, 1) := by decide +kernel
theorem dX9_init_85 : decode cX9_init 85 = .ok (.bipush 120, 2) := by decide +kernel
theorem dX9_init_87 : decode cX9_init 87 = .ok (.newarray .int, 2) := by decide +kernel
theorem dX9_init_89 : decode cX9_init 89 = .ok (.putfield 46, 3) := by decide +kernel
theorem dX9_init_92 : decode cX9_init 92 = .ok (.aload_n 0, 1) := by decide +kernel
theorem dX9_init_93 : decode cX9_init 93 = .ok (.bipush 120, 2) := by decide +kernel
theorem dX9_init_95 : decode cX9_init 95 = .ok (.newarray .int, 2) := by decide +kernel
theorem dX9_init_97 : decode cX9_init 97 = .ok (.putfield 49, 3) := by decide +kernel
