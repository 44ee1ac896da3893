theorem dX5_findBest_53 : decode cX5_findBest 53 = .ok (.aload_n 0, 1) := by decide +kernel
theorem dX5_findBest_54 : decode cX5_findBest 54 = .ok (.iload_n 3, 1) := by decide +kernel
theorem dX5_findBest_55 : decode cX5_findBest 55 = .ok (.iload_n 1, 1) := by decide +kernel
theorem dX5_findBest_56 : decode cX5_findBest 56 = .ok (.invokevirtual 44, 3) := by decide +kernel
theorem dX5_findBest_59 : decode cX5_findBest 59 = .ok (.iinc 3 1, 3) := by decide +kernel
theorem dX5_findBest_62 : decode cX5_findBest 62 = .ok (.goto (-14), 3) := by decide +kernel
theorem dX5_findBest_65 : decode cX5_findBest 65 = .ok (.iconst 1, 1) := by decide +kernel
theorem dX5_findBest_66 : decode cX5_findBest 66 = .ok (.istore_n 3, 1) := by decide +kernel
theorem dX5_findBest_67 : decode cX5_findBest 67 = .ok (.iload_n 3, 1) := by decide +kernel
theorem dX5_findBest_68 : decode cX5_findBest 68 = .ok (.iload_n 2, 1) := by decide +kernel
theorem dX5_findBest_69 : decode cX5_findBest 69 = .ok (.if_icmp .ge 44, 3) := by decide +kernel
theorem dX5_findBest_72 : decode cX5_findBest 72 = .ok (.aload_n 0, 1) := by decide +kernel
theorem dX5_findBest_73 : decode cX5_findBest 73 = .ok (.getfield 31, 3) := by decide +kernel
theorem dX5_findBest_76 : decode cX5_findBest 76 = .ok (.iload_n 3, 1) := by decide +kernel
theorem dX5_findBest_77 : decode cX5_findBest 77 = .ok (.aload_n 0, 1) := by decide +kernel
theorem dX5_findBest_78 : decode cX5_findBest 78 = .ok (.iload_n 3, 1) := by decide +kernel
theorem dX5_findBest_79 : decode cX5_findBest 79 = .ok (.invokevirtual 48, 3) := by decide +kernel
theorem dX5_findBest_82 : decode cX5_findBest 82 = .ok (.iastore, 1) := by decide +kernel
theorem dX5_findBest_83 : decode cX5_findBest 83 = .ok (.aload_n 0, 1) := by decide +kernel
theorem dX5_findBest_84 : decode cX5_findBest 84 = .ok (.getfield 31, 3) := by decide +kernel
theorem dX5_findBest_87 : decode cX5_findBest 87 = .ok (.iload_n 3, 1) := by decide +kernel
theorem dX5_findBest_88 : decode cX5_findBest 88 = .ok (.iaload, 1) := by decide +kernel
theorem dX5_findBest_89 : decode cX5_findBest 89 = .ok (.ldc 52, 2) := by decide +kernel
theorem dX5_findBest_91 : decode cX5_findBest 91 = .ok (.if_icmp .eq 16, 3) := by decide +kernel
theorem dX5_findBest_94 : decode cX5_findBest 94 = .ok (.aload_n 0, 1) := by decide +kernel
theorem dX5_findBest_95 : decode cX5_findBest 95 = .ok (.iload_n 3, 1) := by decide +kernel
theorem dX5_findBest_96 : decode cX5_findBest 96 = .ok (.invokevirtual 53, 3) := by decide +kernel
theorem dX5_findBest_99 : decode cX5_findBest 99 = .ok (.ifCond .eq 8, 3) := by decide +kernel
theorem dX5_findBest_102 : decode cX5_findBest 102 = .ok (.aload_n 0, 1) := by decide +kernel
theorem dX5_findBest_103 : decode cX5_findBest 103 = .ok (.iload_n 3, 1) := by decide +kernel
theorem dX5_findBest_104 : decode cX5_findBest 104 = .ok (.putfield 34, 3) := by decide +kernel
theorem dX5_findBest_107 : decode cX5_findBest 107 = .ok (.iinc 3 1, 3) := by decide +kernel
theorem dX5_findBest_110 : decode cX5_findBest 110 = .ok (.goto (-43), 3) := by decide +kernel
theorem dX5_findBest_113 : decode cX5_findBest 113 = .ok (.return_, 1) := by decide +kernel
theorem dX5_swapBest_0 : decode cX5_swapBest 0 = .ok (.aload_n 0, 1) := by decide +kernel
theorem dX5_swapBest_1 : decode cX5_swapBest 1 = .ok (.getfield 31, 3) := by decide +kernel
theorem dX5_swapBest_4 : decode cX5_swapBest 4 = .ok (.aload_n 0, 1) := by decide +kernel
theorem dX5_swapBest_5 : decode cX5_swapBest 5 = .ok (.getfield 34, 3) := by decide +kernel
theorem dX5_swapBest_8 : decode cX5_swapBest 8 = .ok (.iaload, 1) := by decide +kernel
theorem dX5_swapBest_9 : decode cX5_swapBest 9 = .ok (.istore_n 1, 1) := by decide +kernel
theorem dX5_swapBest_10 : decode cX5_swapBest 10 = .ok (.bipush 8, 2) := by decide +kernel
theorem dX5_swapBest_12 : decode cX5_swapBest 12 = .ok (.istore_n 2, 1) := by decide +kernel
theorem dX5_swapBest_13 : decode cX5_swapBest 13 = .ok (.iload_n 2, 1) := by decide +kernel
theorem dX5_swapBest_14 : decode cX5_swapBest 14 = .ok (.ifCond .lt 39, 3) := by decide +kernel
theorem dX5_swapBest_17 : decode cX5_swapBest 17 = .ok (.aload_n 0, 1) := by decide +kernel
theorem dX5_swapBest_18 : decode cX5_swapBest 18 = .ok (.getfield 34, 3) := by decide +kernel
theorem dX5_swapBest_21 : decode cX5_swapBest 21 = .ok (.iload_n 2, 1) := by decide +kernel
theorem dX5_swapBest_22 : decode cX5_swapBest 22 = .ok (.invokestatic 57, 3) := by decide +kernel
theorem dX5_swapBest_25 : decode cX5_swapBest 25 = .ok (.ifCond .eq 17, 3) := by decide +kernel
theorem dX5_swapBest_28 : decode cX5_swapBest 28 = .ok (.aload_n 0, 1) := by decide +kernel
theorem dX5_swapBest_29 : decode cX5_swapBest 29 = .ok (.aload_n 0, 1) := by decide +kernel
theorem dX5_swapBest_30 : decode cX5_swapBest 30 = .ok (.getfield 11, 3) := by decide +kernel
theorem dX5_swapBest_33 : decode cX5_swapBest 33 = .ok (.iload_n 2, 1) := by decide +kernel
theorem dX5_swapBest_34 : decode cX5_swapBest 34 = .ok (.aaload, 1) := by decide +kernel
theorem dX5_swapBest_35 : decode cX5_swapBest 35 = .ok (.iload_n 1, 1) := by decide +kernel
theorem dX5_swapBest_36 : decode cX5_swapBest 36 = .ok (.bipush 10, 2) := by decide +kernel
theorem dX5_swapBest_38 : decode cX5_swapBest 38 = .ok (.irem, 1) := by decide +kernel
theorem dX5_swapBest_39 : decode cX5_swapBest 39 = .ok (.invokevirtual 61, 3) := by decide +kernel
theorem dX5_swapBest_42 : decode cX5_swapBest 42 = .ok (.iload_n 1, 1) := by decide +kernel
theorem dX5_swapBest_43 : decode cX5_swapBest 43 = .ok (.bipush 10, 2) := by decide +kernel
theorem dX5_swapBest_45 : decode cX5_swapBest 45 = .ok (.idiv, 1) := by decide +kernel
theorem dX5_swapBest_46 : decode cX5_swapBest 46 = .ok (.istore_n 1, 1) := by decide +kernel
theorem dX5_swapBest_47 : decode cX5_swapBest 47 = .ok (.iinc 2 (-1), 3) := by decide +kernel
theorem dX5_swapBest_50 : decode cX5_swapBest 50 = .ok (.goto (-37), 3) := by decide +kernel
theorem dX5_swapBest_53 : decode cX5_swapBest 53 = .ok (.aload_n 0, 1) := by decide +kernel
theorem dX5_swapBest_54 : decode cX5_swapBest 54 = .ok (.getfield 34, 3) := by decide +kernel
theorem dX5_swapBest_57 : decode cX5_swapBest 57 = .ok (.invokestatic 65, 3) := by decide +kernel
theorem dX5_swapBest_60 : decode cX5_swapBest 60 = .ok (.ireturn, 1) := by decide +kernel
theorem dX5_swap_0 : decode cX5_swap 0 = .ok (.iload_n 2, 1) := by decide +kernel
theorem dX5_swap_1 : decode cX5_swap 1 = .ok (.ifCond .lt 39, 3) := by decide +kernel
theorem dX5_swap_4 : decode cX5_swap 4 = .ok (.iload_n 2, 1) := by decide +kernel
theorem dX5_swap_5 : decode cX5_swap 5 = .ok (.aload_n 0, 1) := by decide +kernel
theorem dX5_swap_6 : decode cX5_swap 6 = .ok (.getfield 17, 3) := by decide +kernel
theorem dX5_swap_9 : decode cX5_swap 9 = .ok (.if_icmp .ge 31, 3) := by decide +kernel
theorem dX5_swap_12 : decode cX5_swap 12 = .ok (.aload_n 1, 1) := by decide +kernel
theorem dX5_swap_13 : decode cX5_swap 13 = .ok (.iconst 1, 1) := by decide +kernel
theorem dX5_swap_14 : decode cX5_swap 14 = .ok (.putfield 70, 3) := by decide +kernel
theorem dX5_swap_17 : decode cX5_swap 17 = .ok (.aload_n 1, 1) := by decide +kernel
theorem dX5_swap_18 : decode cX5_swap 18 = .ok (.aload_n 0, 1) := by decide +kernel
theorem dX5_swap_19 : decode cX5_swap 19 = .ok (.getfield 11, 3) := by decide +kernel
theorem dX5_swap_22 : decode cX5_swap 22 = .ok (.iload_n 2, 1) := by decide +kernel
theorem dX5_swap_23 : decode cX5_swap 23 = .ok (.aaload, 1) := by decide +kernel
theorem dX5_swap_24 : decode cX5_swap 24 = .ok (.putfield 73, 3) := by decide +kernel
theorem dX5_swap_27 : decode cX5_swap 27 = .ok (.aload_n 0, 1) := by decide +kernel
theorem dX5_swap_28 : decode cX5_swap 28 = .ok (.getfield 11, 3) := by decide +kernel
theorem dX5_swap_31 : decode cX5_swap 31 = .ok (.iload_n 2, 1) := by decide +kernel
theorem dX5_swap_32 : decode cX5_swap 32 = .ok (.aaload, 1) := by decide +kernel
theorem dX5_swap_33 : decode cX5_swap 33 = .ok (.aload_n 1, 1) := by decide +kernel
theorem dX5_swap_34 : decode cX5_swap 34 = .ok (.getfield 77, 3) := by decide +kernel
theorem dX5_swap_37 : decode cX5_swap 37 = .ok (.putfield 81, 3) := by decide +kernel
theorem dX5_swap_40 : decode cX5_swap 40 = .ok (.return_, 1) := by decide +kernel
theorem dX5_forgetBefore_0 : decode cX5_forgetBefore 0 = .ok (.iconst 0, 1) := by decide +kernel
theorem dX5_forgetBefore_1 : decode cX5_forgetBefore 1 = .ok (.istore_n 2, 1) := by decide +kernel
theorem dX5_forgetBefore_2 : decode cX5_forgetBefore 2 = .ok (.iload_n 2, 1) := by decide +kernel
theorem dX5_forgetBefore_3 : decode cX5_forgetBefore 3 = .ok (.iload_n 1, 1) := by decide +kernel
theorem dX5_forgetBefore_4 : decode cX5_forgetBefore 4 = .ok (.bipush 9, 2) := by decide +kernel
theorem dX5_forgetBefore_6 : decode cX5_forgetBefore 6 = .ok (.imul, 1) := by decide +kernel
theorem dX5_forgetBefore_7 : decode cX5_forgetBefore 7 = .ok (.if_icmp .ge 17, 3) := by decide +kernel
theorem dX5_forgetBefore_10 : decode cX5_forgetBefore 10 = .ok (.aload_n 0, 1) := by decide +kernel
theorem dX5_forgetBefore_11 : decode cX5_forgetBefore 11 = .ok (.getfield 25, 3) := by decide +kernel
theorem dX5_forgetBefore_14 : decode cX5_forgetBefore 14 = .ok (.iload_n 2, 1) := by decide +kernel
theorem dX5_forgetBefore_15 : decode cX5_forgetBefore 15 = .ok (.ldc 52, 2) := by decide +kernel
theorem dX5_forgetBefore_17 : decode cX5_forgetBefore 17 = .ok (.iastore, 1) := by decide +kernel
theorem dX5_forgetBefore_18 : decode cX5_forgetBefore 18 = .ok (.iinc 2 1, 3) := by decide +kernel
theorem dX5_forgetBefore_21 : decode cX5_forgetBefore 21 = .ok (.goto (-19), 3) := by decide +kernel
theorem dX5_forgetBefore_24 : decode cX5_forgetBefore 24 = .ok (.iconst 0, 1) := by decide +kernel
theorem dX5_forgetBefore_25 : decode cX5_forgetBefore 25 = .ok (.istore_n 2, 1) := by decide +kernel
theorem dX5_forgetBefore_26 : decode cX5_forgetBefore 26 = .ok (.iload_n 2, 1) := by decide +kernel
theorem dX5_forgetBefore_27 : decode cX5_forgetBefore 27 = .ok (.iload_n 1, 1) := by decide +kernel
theorem dX5_forgetBefore_28 : decode cX5_forgetBefore 28 = .ok (.if_icmp .ge 17, 3) := by decide +kernel
theorem dX5_forgetBefore_31 : decode cX5_forgetBefore 31 = .ok (.aload_n 0, 1) := by decide +kernel
theorem dX5_forgetBefore_32 : decode cX5_forgetBefore 32 = .ok (.getfield 28, 3) := by decide +kernel
theorem dX5_forgetBefore_35 : decode cX5_forgetBefore 35 = .ok (.iload_n 2, 1) := by decide +kernel
theorem dX5_forgetBefore_36 : decode cX5_forgetBefore 36 = .ok (.ldc 52, 2) := by decide +kernel
theorem dX5_forgetBefore_38 : decode cX5_forgetBefore 38 = .ok (.iastore, 1) := by decide +kernel
theorem dX5_forgetBefore_39 : decode cX5_forgetBefore 39 = .ok (.iinc 2 1, 3) := by decide +kernel
theorem dX5_forgetBefore_42 : decode cX5_forgetBefore 42 = .ok (.goto (-16), 3) := by decide +kernel
theorem dX5_forgetBefore_45 : decode cX5_forgetBefore 45 = .ok (.return_, 1) := by decide +kernel
theorem dX5_leastOf_0 : decode cX5_leastOf 0 = .ok (.iload_n 0, 1) := by decide +kernel
theorem dX5_leastOf_1 : decode cX5_leastOf 1 = .ok (.iload_n 0, 1) := by decide +kernel
theorem dX5_leastOf_2 : decode cX5_leastOf 2 = .ok (.ineg, 1) := by decide +kernel
theorem dX5_leastOf_3 : decode cX5_leastOf 3 = .ok (.iand, 1) := by decide +kernel
theorem dX5_leastOf_4 : decode cX5_leastOf 4 = .ok (.iconst 1, 1) := by decide +kernel
theorem dX5_leastOf_5 : decode cX5_leastOf 5 = .ok (.isub, 1) := by decide +kernel
theorem dX5_leastOf_6 : decode cX5_leastOf 6 = .ok (.invokestatic 65, 3) := by decide +kernel
theorem dX5_leastOf_9 : decode cX5_leastOf 9 = .ok (.ireturn, 1) := by decide +kernel
theorem dX5_has_0 : decode cX5_has 0 = .ok (.iload_n 0, 1) := by decide +kernel
theorem dX5_has_1 : decode cX5_has 1 = .ok (.iload_n 1, 1) := by decide +kernel
theorem dX5_has_2 : decode cX5_has 2 = .ok (.ishr, 1) := by decide +kernel
theorem dX5_has_3 : decode cX5_has 3 = .ok (.iconst 1, 1) := by decide +kernel
theorem dX5_has_4 : decode cX5_has 4 = .ok (.iand, 1) := by decide +kernel
theorem dX5_has_5 : decode cX5_has 5 = .ok (.iconst 1, 1) := by decide +kernel
theorem dX5_has_6 : decode cX5_has 6 = .ok (.if_icmp .ne 7, 3) := by decide +kernel
theorem dX5_has_9 : decode cX5_has 9 = .ok (.iconst 1, 1) := by decide +kernel
theorem dX5_has_10 : decode cX5_has 10 = .ok (.goto 4, 3) := by decide +kernel
theorem dX5_has_13 : decode cX5_has 13 = .ok (.iconst 0, 1) := by decide +kernel
theorem dX5_has_14 : decode cX5_has 14 = .ok (.ireturn, 1) := by decide +kernel
theorem dX5_findSuiting_0 : decode cX5_findSuiting 0 = .ok (.iconst 0, 1) := by decide +kernel
theorem dX5_findSuiting_1 : decode cX5_findSuiting 1 = .ok (.istore_n 1, 1) := by decide +kernel
theorem dX5_findSuiting_2 : decode cX5_findSuiting 2 = .ok (.iload_n 1, 1) := by decide +kernel
theorem dX5_findSuiting_3 : decode cX5_findSuiting 3 = .ok (.aload_n 0, 1) := by decide +kernel
theorem dX5_findSuiting_4 : decode cX5_findSuiting 4 = .ok (.getfield 17, 3) := by decide +kernel
theorem dX5_findSuiting_7 : decode cX5_findSuiting 7 = .ok (.if_icmp .ge 70, 3) := by decide +kernel
theorem dX5_findSuiting_10 : decode cX5_findSuiting 10 = .ok (.aload_n 0, 1) := by decide +kernel
theorem dX5_findSuiting_11 : decode cX5_findSuiting 11 = .ok (.getfield 21, 3) := by decide +kernel
theorem dX5_findSuiting_14 : decode cX5_findSuiting 14 = .ok (.iload_n 1, 1) := by decide +kernel
theorem dX5_findSuiting_15 : decode cX5_findSuiting 15 = .ok (.iconst 0, 1) := by decide +kernel
theorem dX5_findSuiting_16 : decode cX5_findSuiting 16 = .ok (.iastore, 1) := by decide +kernel
theorem dX5_findSuiting_17 : decode cX5_findSuiting 17 = .ok (.iconst 0, 1) := by decide +kernel
theorem dX5_findSuiting_18 : decode cX5_findSuiting 18 = .ok (.istore_n 2, 1) := by decide +kernel
theorem dX5_findSuiting_19 : decode cX5_findSuiting 19 = .ok (.iload_n 2, 1) := by decide +kernel
theorem dX5_findSuiting_20 : decode cX5_findSuiting 20 = .ok (.aload_n 0, 1) := by decide +kernel
theorem dX5_findSuiting_21 : decode cX5_findSuiting 21 = .ok (.getfield 17, 3) := by decide +kernel
theorem dX5_findSuiting_24 : decode cX5_findSuiting 24 = .ok (.if_icmp .ge 47, 3) := by decide +kernel
theorem dX5_findSuiting_27 : decode cX5_findSuiting 27 = .ok (.iload_n 1, 1) := by decide +kernel
theorem dX5_findSuiting_28 : decode cX5_findSuiting 28 = .ok (.iload_n 2, 1) := by decide +kernel
theorem dX5_findSuiting_29 : decode cX5_findSuiting 29 = .ok (.if_icmp .eq 36, 3) := by decide +kernel
theorem dX5_findSuiting_32 : decode cX5_findSuiting 32 = .ok (.aload_n 0, 1) := by decide +kernel
theorem dX5_findSuiting_33 : decode cX5_findSuiting 33 = .ok (.getfield 11, 3) := by decide +kernel
theorem dX5_findSuiting_36 : decode cX5_findSuiting 36 = .ok (.iload_n 2, 1) := by decide +kernel
theorem dX5_findSuiting_37 : decode cX5_findSuiting 37 = .ok (.aaload, 1) := by decide +kernel
theorem dX5_findSuiting_38 : decode cX5_findSuiting 38 = .ok (.aload_n 0, 1) := by decide +kernel
theorem dX5_findSuiting_39 : decode cX5_findSuiting 39 = .ok (.getfield 11, 3) := by decide +kernel
theorem dX5_findSuiting_42 : decode cX5_findSuiting 42 = .ok (.iload_n 1, 1) := by decide +kernel
theorem dX5_findSuiting_43 : decode cX5_findSuiting 43 = .ok (.aaload, 1) := by decide +kernel
theorem dX5_findSuiting_44 : decode cX5_findSuiting 44 = .ok (.getfield 84, 3) := by decide +kernel
theorem dX5_findSuiting_47 : decode cX5_findSuiting 47 = .ok (.invokevirtual 88, 3) := by decide +kernel
theorem dX5_findSuiting_50 : decode cX5_findSuiting 50 = .ok (.ifCond .eq 15, 3) := by decide +kernel
theorem dX5_findSuiting_53 : decode cX5_findSuiting 53 = .ok (.aload_n 0, 1) := by decide +kernel
theorem dX5_findSuiting_54 : decode cX5_findSuiting 54 = .ok (.getfield 21, 3) := by decide +kernel
theorem dX5_findSuiting_57 : decode cX5_findSuiting 57 = .ok (.iload_n 1, 1) := by decide +kernel
theorem dX5_findSuiting_58 : decode cX5_findSuiting 58 = .ok (.dup2, 1) := by decide +kernel
theorem dX5_findSuiting_59 : decode cX5_findSuiting 59 = .ok (.iaload, 1) := by decide +kernel
theorem dX5_findSuiting_60 : decode cX5_findSuiting 60 = .ok (.iconst 1, 1) := by decide +kernel
theorem dX5_findSuiting_61 : decode cX5_findSuiting 61 = .ok (.iload_n 2, 1) := by decide +kernel
theorem dX5_findSuiting_62 : decode cX5_findSuiting 62 = .ok (.ishl, 1) := by decide +kernel
theorem dX5_findSuiting_63 : decode cX5_findSuiting 63 = .ok (.ior, 1) := by decide +kernel
theorem dX5_findSuiting_64 : decode cX5_findSuiting 64 = .ok (.iastore, 1) := by decide +kernel
theorem dX5_findSuiting_65 : decode cX5_findSuiting 65 = .ok (.iinc 2 1, 3) := by decide +kernel
theorem dX5_findSuiting_68 : decode cX5_findSuiting 68 = .ok (.goto (-49), 3) := by decide +kernel
theorem dX5_findSuiting_71 : decode cX5_findSuiting 71 = .ok (.iinc 1 1, 3) := by decide +kernel
theorem dX5_findSuiting_74 : decode cX5_findSuiting 74 = .ok (.goto (-72), 3) := by decide +kernel
theorem dX5_findSuiting_77 : decode cX5_findSuiting 77 = .ok (.return_, 1) := by decide +kernel
theorem dX5_goOnFrom_0 : decode cX5_goOnFrom 0 = .ok (.iload_n 1, 1) := by decide +kernel
theorem dX5_goOnFrom_1 : decode cX5_goOnFrom 1 = .ok (.invokestatic 92, 3) := by decide +kernel
theorem dX5_goOnFrom_4 : decode cX5_goOnFrom 4 = .ok (.istore_n 3, 1) := by decide +kernel
theorem dX5_goOnFrom_5 : decode cX5_goOnFrom 5 = .ok (.iload_n 1, 1) := by decide +kernel
theorem dX5_goOnFrom_6 : decode cX5_goOnFrom 6 = .ok (.invokestatic 65, 3) := by decide +kernel
theorem dX5_goOnFrom_9 : decode cX5_goOnFrom 9 = .ok (.istore 4, 2) := by decide +kernel
theorem dX5_goOnFrom_11 : decode cX5_goOnFrom 11 = .ok (.iload 4, 2) := by decide +kernel
theorem dX5_goOnFrom_13 : decode cX5_goOnFrom 13 = .ok (.iload_n 2, 1) := by decide +kernel
theorem dX5_goOnFrom_14 : decode cX5_goOnFrom 14 = .ok (.if_icmp .le 4, 3) := by decide +kernel
theorem dX5_goOnFrom_17 : decode cX5_goOnFrom 17 = .ok (.return_, 1) := by decide +kernel
theorem dX5_goOnFrom_18 : decode cX5_goOnFrom 18 = .ok (.iload_n 3, 1) := by decide +kernel
theorem dX5_goOnFrom_19 : decode cX5_goOnFrom 19 = .ok (.istore 5, 2) := by decide +kernel
theorem dX5_goOnFrom_21 : decode cX5_goOnFrom 21 = .ok (.iload 5, 2) := by decide +kernel
theorem dX5_goOnFrom_23 : decode cX5_goOnFrom 23 = .ok (.aload_n 0, 1) := by decide +kernel
theorem dX5_goOnFrom_24 : decode cX5_goOnFrom 24 = .ok (.getfield 17, 3) := by decide +kernel
theorem dX5_goOnFrom_27 : decode cX5_goOnFrom 27 = .ok (.if_icmp .ge 78, 3) := by decide +kernel
theorem dX5_goOnFrom_30 : decode cX5_goOnFrom 30 = .ok (.aload_n 0, 1) := by decide +kernel
theorem dX5_goOnFrom_31 : decode cX5_goOnFrom 31 = .ok (.getfield 25, 3) := by decide +kernel
theorem dX5_goOnFrom_34 : decode cX5_goOnFrom 34 = .ok (.iload_n 1, 1) := by decide +kernel
theorem dX5_goOnFrom_35 : decode cX5_goOnFrom 35 = .ok (.bipush 9, 2) := by decide +kernel
theorem dX5_goOnFrom_37 : decode cX5_goOnFrom 37 = .ok (.imul, 1) := by decide +kernel
theorem dX5_goOnFrom_38 : decode cX5_goOnFrom 38 = .ok (.iload 5, 2) := by decide +kernel
theorem dX5_goOnFrom_40 : decode cX5_goOnFrom 40 = .ok (.iadd, 1) := by decide +kernel
theorem dX5_goOnFrom_41 : decode cX5_goOnFrom 41 = .ok (.iaload, 1) := by decide +kernel
theorem dX5_goOnFrom_42 : decode cX5_goOnFrom 42 = .ok (.istore 6, 2) := by decide +kernel
theorem dX5_goOnFrom_44 : decode cX5_goOnFrom 44 = .ok (.iload 6, 2) := by decide +kernel
theorem dX5_goOnFrom_46 : decode cX5_goOnFrom 46 = .ok (.ldc 52, 2) := by decide +kernel
theorem dX5_goOnFrom_48 : decode cX5_goOnFrom 48 = .ok (.if_icmp .eq 51, 3) := by decide +kernel
theorem dX5_goOnFrom_51 : decode cX5_goOnFrom 51 = .ok (.aload_n 0, 1) := by decide +kernel
theorem dX5_goOnFrom_52 : decode cX5_goOnFrom 52 = .ok (.getfield 21, 3) := by decide +kernel
theorem dX5_goOnFrom_55 : decode cX5_goOnFrom 55 = .ok (.iload 5, 2) := by decide +kernel
theorem dX5_goOnFrom_57 : decode cX5_goOnFrom 57 = .ok (.iaload, 1) := by decide +kernel
theorem dX5_goOnFrom_58 : decode cX5_goOnFrom 58 = .ok (.iload_n 3, 1) := by decide +kernel
theorem dX5_goOnFrom_59 : decode cX5_goOnFrom 59 = .ok (.invokestatic 57, 3) := by decide +kernel
theorem dX5_goOnFrom_62 : decode cX5_goOnFrom 62 = .ok (.ifCond .eq 29, 3) := by decide +kernel
theorem dX5_goOnFrom_65 : decode cX5_goOnFrom 65 = .ok (.aload_n 0, 1) := by decide +kernel
theorem dX5_goOnFrom_66 : decode cX5_goOnFrom 66 = .ok (.getfield 28, 3) := by decide +kernel
theorem dX5_goOnFrom_69 : decode cX5_goOnFrom 69 = .ok (.iload_n 1, 1) := by decide +kernel
theorem dX5_goOnFrom_70 : decode cX5_goOnFrom 70 = .ok (.aload_n 0, 1) := by decide +kernel
theorem dX5_goOnFrom_71 : decode cX5_goOnFrom 71 = .ok (.getfield 28, 3) := by decide +kernel
theorem dX5_goOnFrom_74 : decode cX5_goOnFrom 74 = .ok (.iload_n 1, 1) := by decide +kernel
theorem dX5_goOnFrom_75 : decode cX5_goOnFrom 75 = .ok (.iaload, 1) := by decide +kernel
theorem dX5_goOnFrom_76 : decode cX5_goOnFrom 76 = .ok (.iload 6, 2) := by decide +kernel
theorem dX5_goOnFrom_78 : decode cX5_goOnFrom 78 = .ok (.iload_n 3, 1) := by decide +kernel
theorem dX5_goOnFrom_79 : decode cX5_goOnFrom 79 = .ok (.getstatic 95, 3) := by decide +kernel
theorem dX5_goOnFrom_82 : decode cX5_goOnFrom 82 = .ok (.iload 5, 2) := by decide +kernel
theorem dX5_goOnFrom_84 : decode cX5_goOnFrom 84 = .ok (.iaload, 1) := by decide +kernel
theorem dX5_goOnFrom_85 : decode cX5_goOnFrom 85 = .ok (.imul, 1) := by decide +kernel
theorem dX5_goOnFrom_86 : decode cX5_goOnFrom 86 = .ok (.iadd, 1) := by decide +kernel
theorem dX5_goOnFrom_87 : decode cX5_goOnFrom 87 = .ok (.invokestatic 98, 3) := by decide +kernel
theorem dX5_goOnFrom_90 : decode cX5_goOnFrom 90 = .ok (.iastore, 1) := by decide +kernel
theorem dX5_goOnFrom_91 : decode cX5_goOnFrom 91 = .ok (.aload_n 0, 1) := by decide +kernel
theorem dX5_goOnFrom_92 : decode cX5_goOnFrom 92 = .ok (.iload_n 1, 1) := by decide +kernel
theorem dX5_goOnFrom_93 : decode cX5_goOnFrom 93 = .ok (.iload_n 3, 1) := by decide +kernel
theorem dX5_goOnFrom_94 : decode cX5_goOnFrom 94 = .ok (.iload 5, 2) := by decide +kernel
theorem dX5_goOnFrom_96 : decode cX5_goOnFrom 96 = .ok (.invokevirtual 104, 3) := by decide +kernel
theorem dX5_goOnFrom_99 : decode cX5_goOnFrom 99 = .ok (.iinc 5 1, 3) := by decide +kernel
theorem dX5_goOnFrom_102 : decode cX5_goOnFrom 102 = .ok (.goto (-81), 3) := by decide +kernel
theorem dX5_goOnFrom_105 : decode cX5_goOnFrom 105 = .ok (.return_, 1) := by decide +kernel
theorem dX5_lengthen_0 : decode cX5_lengthen 0 = .ok (.aload_n 0, 1) := by decide +kernel
theorem dX5_lengthen_1 : decode cX5_lengthen 1 = .ok (.getfield 25, 3) := by decide +kernel
theorem dX5_lengthen_4 : decode cX5_lengthen 4 = .ok (.iload_n 1, 1) := by decide +kernel
theorem dX5_lengthen_5 : decode cX5_lengthen 5 = .ok (.bipush 9, 2) := by decide +kernel
theorem dX5_lengthen_7 : decode cX5_lengthen 7 = .ok (.imul, 1) := by decide +kernel
theorem dX5_lengthen_8 : decode cX5_lengthen 8 = .ok (.iload_n 3, 1) := by decide +kernel
theorem dX5_lengthen_9 : decode cX5_lengthen 9 = .ok (.iadd, 1) := by decide +kernel
theorem dX5_lengthen_10 : decode cX5_lengthen 10 = .ok (.iaload, 1) := by decide +kernel
theorem dX5_lengthen_11 : decode cX5_lengthen 11 = .ok (.istore 4, 2) := by decide +kernel
theorem dX5_lengthen_13 : decode cX5_lengthen 13 = .ok (.aload_n 0, 1) := by decide +kernel
theorem dX5_lengthen_14 : decode cX5_lengthen 14 = .ok (.getfield 21, 3) := by decide +kernel
theorem dX5_lengthen_17 : decode cX5_lengthen 17 = .ok (.iload_n 3, 1) := by decide +kernel
theorem dX5_lengthen_18 : decode cX5_lengthen 18 = .ok (.iaload, 1) := by decide +kernel
theorem dX5_lengthen_19 : decode cX5_lengthen 19 = .ok (.iload_n 1, 1) := by decide +kernel
theorem dX5_lengthen_20 : decode cX5_lengthen 20 = .ok (.iconst (-1), 1) := by decide +kernel
theorem dX5_lengthen_21 : decode cX5_lengthen 21 = .ok (.ixor, 1) := by decide +kernel
theorem dX5_lengthen_22 : decode cX5_lengthen 22 = .ok (.iand, 1) := by decide +kernel
theorem dX5_lengthen_23 : decode cX5_lengthen 23 = .ok (.istore 5, 2) := by decide +kernel
theorem dX5_lengthen_25 : decode cX5_lengthen 25 = .ok (.iload_n 2, 1) := by decide +kernel
theorem dX5_lengthen_26 : decode cX5_lengthen 26 = .ok (.iconst 1, 1) := by decide +kernel
theorem dX5_lengthen_27 : decode cX5_lengthen 27 = .ok (.iadd, 1) := by decide +kernel
theorem dX5_lengthen_28 : decode cX5_lengthen 28 = .ok (.istore 6, 2) := by decide +kernel
theorem dX5_lengthen_30 : decode cX5_lengthen 30 = .ok (.iload 6, 2) := by decide +kernel
theorem dX5_lengthen_32 : decode cX5_lengthen 32 = .ok (.aload_n 0, 1) := by decide +kernel
theorem dX5_lengthen_33 : decode cX5_lengthen 33 = .ok (.getfield 17, 3) := by decide +kernel
theorem dX5_lengthen_36 : decode cX5_lengthen 36 = .ok (.if_icmp .ge 61, 3) := by decide +kernel
theorem dX5_lengthen_39 : decode cX5_lengthen 39 = .ok (.iload 5, 2) := by decide +kernel
theorem dX5_lengthen_41 : decode cX5_lengthen 41 = .ok (.iload 6, 2) := by decide +kernel
theorem dX5_lengthen_43 : decode cX5_lengthen 43 = .ok (.invokestatic 57, 3) := by decide +kernel
theorem dX5_lengthen_46 : decode cX5_lengthen 46 = .ok (.ifCond .eq 45, 3) := by decide +kernel
theorem dX5_lengthen_49 : decode cX5_lengthen 49 = .ok (.iload_n 1, 1) := by decide +kernel
theorem dX5_lengthen_50 : decode cX5_lengthen 50 = .ok (.iconst 1, 1) := by decide +kernel
theorem dX5_lengthen_51 : decode cX5_lengthen 51 = .ok (.iload 6, 2) := by decide +kernel
theorem dX5_lengthen_53 : decode cX5_lengthen 53 = .ok (.ishl, 1) := by decide +kernel
theorem dX5_lengthen_54 : decode cX5_lengthen 54 = .ok (.ior, 1) := by decide +kernel
theorem dX5_lengthen_55 : decode cX5_lengthen 55 = .ok (.bipush 9, 2) := by decide +kernel
theorem dX5_lengthen_57 : decode cX5_lengthen 57 = .ok (.imul, 1) := by decide +kernel
theorem dX5_lengthen_58 : decode cX5_lengthen 58 = .ok (.iload 6, 2) := by decide +kernel
theorem dX5_lengthen_60 : decode cX5_lengthen 60 = .ok (.iadd, 1) := by decide +kernel
theorem dX5_lengthen_61 : decode cX5_lengthen 61 = .ok (.istore 7, 2) := by decide +kernel
theorem dX5_lengthen_63 : decode cX5_lengthen 63 = .ok (.aload_n 0, 1) := by decide +kernel
theorem dX5_lengthen_64 : decode cX5_lengthen 64 = .ok (.getfield 25, 3) := by decide +kernel
theorem dX5_lengthen_67 : decode cX5_lengthen 67 = .ok (.iload 7, 2) := by decide +kernel
theorem dX5_lengthen_69 : decode cX5_lengthen 69 = .ok (.aload_n 0, 1) := by decide +kernel
theorem dX5_lengthen_70 : decode cX5_lengthen 70 = .ok (.getfield 25, 3) := by decide +kernel
theorem dX5_lengthen_73 : decode cX5_lengthen 73 = .ok (.iload 7, 2) := by decide +kernel
theorem dX5_lengthen_75 : decode cX5_lengthen 75 = .ok (.iaload, 1) := by decide +kernel
theorem dX5_lengthen_76 : decode cX5_lengthen 76 = .ok (.iload 4, 2) := by decide +kernel
theorem dX5_lengthen_78 : decode cX5_lengthen 78 = .ok (.iload 6, 2) := by decide +kernel
theorem dX5_lengthen_80 : decode cX5_lengthen 80 = .ok (.getstatic 95, 3) := by decide +kernel
theorem dX5_lengthen_83 : decode cX5_lengthen 83 = .ok (.iload_n 3, 1) := by decide +kernel
theorem dX5_lengthen_84 : decode cX5_lengthen 84 = .ok (.iaload, 1) := by decide +kernel
theorem dX5_lengthen_85 : decode cX5_lengthen 85 = .ok (.imul, 1) := by decide +kernel
theorem dX5_lengthen_86 : decode cX5_lengthen 86 = .ok (.iadd, 1) := by decide +kernel
theorem dX5_lengthen_87 : decode cX5_lengthen 87 = .ok (.invokestatic 98, 3) := by decide +kernel
theorem dX5_lengthen_90 : decode cX5_lengthen 90 = .ok (.iastore, 1) := by decide +kernel
theorem dX5_lengthen_91 : decode cX5_lengthen 91 = .ok (.iinc 6 1, 3) := by decide +kernel
theorem dX5_lengthen_94 : decode cX5_lengthen 94 = .ok (.goto (-64), 3) := by decide +kernel
theorem dX5_lengthen_97 : decode cX5_lengthen 97 = .ok (.return_, 1) := by decide +kernel
theorem dX5_firstWay_0 : decode cX5_firstWay 0 = .ok (.iload_n 1, 1) := by decide +kernel
theorem dX5_firstWay_1 : decode cX5_firstWay 1 = .ok (.iload_n 1, 1) := by decide +kernel
theorem dX5_firstWay_2 : decode cX5_firstWay 2 = .ok (.iconst 1, 1) := by decide +kernel
theorem dX5_firstWay_3 : decode cX5_firstWay 3 = .ok (.isub, 1) := by decide +kernel
theorem dX5_firstWay_4 : decode cX5_firstWay 4 = .ok (.iand, 1) := by decide +kernel
theorem dX5_firstWay_5 : decode cX5_firstWay 5 = .ok (.istore_n 2, 1) := by decide +kernel
theorem dX5_firstWay_6 : decode cX5_firstWay 6 = .ok (.aload_n 0, 1) := by decide +kernel
theorem dX5_firstWay_7 : decode cX5_firstWay 7 = .ok (.getfield 28, 3) := by decide +kernel
theorem dX5_firstWay_10 : decode cX5_firstWay 10 = .ok (.iload_n 1, 1) := by decide +kernel
theorem dX5_firstWay_11 : decode cX5_firstWay 11 = .ok (.iaload, 1) := by decide +kernel
theorem dX5_firstWay_12 : decode cX5_firstWay 12 = .ok (.istore_n 3, 1) := by decide +kernel
theorem dX5_firstWay_13 : decode cX5_firstWay 13 = .ok (.iload_n 2, 1) := by decide +kernel
theorem dX5_firstWay_14 : decode cX5_firstWay 14 = .ok (.istore 4, 2) := by decide +kernel
theorem dX5_firstWay_16 : decode cX5_firstWay 16 = .ok (.iload 4, 2) := by decide +kernel
theorem dX5_firstWay_18 : decode cX5_firstWay 18 = .ok (.ifCond .le 61, 3) := by decide +kernel
theorem dX5_firstWay_21 : decode cX5_firstWay 21 = .ok (.aload_n 0, 1) := by decide +kernel
theorem dX5_firstWay_22 : decode cX5_firstWay 22 = .ok (.getfield 28, 3) := by decide +kernel
theorem dX5_firstWay_25 : decode cX5_firstWay 25 = .ok (.iload_n 1, 1) := by decide +kernel
theorem dX5_firstWay_26 : decode cX5_firstWay 26 = .ok (.iload 4, 2) := by decide +kernel
theorem dX5_firstWay_28 : decode cX5_firstWay 28 = .ok (.iconst (-1), 1) := by decide +kernel
theorem dX5_firstWay_29 : decode cX5_firstWay 29 = .ok (.ixor, 1) := by decide +kernel
theorem dX5_firstWay_30 : decode cX5_firstWay 30 = .ok (.iand, 1) := by decide +kernel
theorem dX5_firstWay_31 : decode cX5_firstWay 31 = .ok (.iaload, 1) := by decide +kernel
theorem dX5_firstWay_32 : decode cX5_firstWay 32 = .ok (.istore 5, 2) := by decide +kernel
theorem dX5_firstWay_34 : decode cX5_firstWay 34 = .ok (.iload 5, 2) := by decide +kernel
theorem dX5_firstWay_36 : decode cX5_firstWay 36 = .ok (.ldc 52, 2) := by decide +kernel
theorem dX5_firstWay_38 : decode cX5_firstWay 38 = .ok (.if_icmp .eq 30, 3) := by decide +kernel
theorem dX5_firstWay_41 : decode cX5_firstWay 41 = .ok (.aload_n 0, 1) := by decide +kernel
theorem dX5_firstWay_42 : decode cX5_firstWay 42 = .ok (.getfield 31, 3) := by decide +kernel
theorem dX5_firstWay_45 : decode cX5_firstWay 45 = .ok (.iload 4, 2) := by decide +kernel
theorem dX5_firstWay_47 : decode cX5_firstWay 47 = .ok (.iaload, 1) := by decide +kernel
theorem dX5_firstWay_48 : decode cX5_firstWay 48 = .ok (.ldc 52, 2) := by decide +kernel
theorem dX5_firstWay_50 : decode cX5_firstWay 50 = .ok (.if_icmp .eq 18, 3) := by decide +kernel
theorem dX5_firstWay_53 : decode cX5_firstWay 53 = .ok (.iload_n 3, 1) := by decide +kernel
theorem dX5_firstWay_54 : decode cX5_firstWay 54 = .ok (.iload 5, 2) := by decide +kernel
theorem dX5_firstWay_56 : decode cX5_firstWay 56 = .ok (.aload_n 0, 1) := by decide +kernel
theorem dX5_firstWay_57 : decode cX5_firstWay 57 = .ok (.getfield 31, 3) := by decide +kernel
theorem dX5_firstWay_60 : decode cX5_firstWay 60 = .ok (.iload 4, 2) := by decide +kernel
theorem dX5_firstWay_62 : decode cX5_firstWay 62 = .ok (.iaload, 1) := by decide +kernel
theorem dX5_firstWay_63 : decode cX5_firstWay 63 = .ok (.iadd, 1) := by decide +kernel
theorem dX5_firstWay_64 : decode cX5_firstWay 64 = .ok (.invokestatic 98, 3) := by decide +kernel
theorem dX5_firstWay_67 : decode cX5_firstWay 67 = .ok (.istore_n 3, 1) := by decide +kernel
theorem dX5_firstWay_68 : decode cX5_firstWay 68 = .ok (.iload 4, 2) := by decide +kernel
theorem dX5_firstWay_70 : decode cX5_firstWay 70 = .ok (.iconst 1, 1) := by decide +kernel
theorem dX5_firstWay_71 : decode cX5_firstWay 71 = .ok (.isub, 1) := by decide +kernel
theorem dX5_firstWay_72 : decode cX5_firstWay 72 = .ok (.iload_n 2, 1) := by decide +kernel
theorem dX5_firstWay_73 : decode cX5_firstWay 73 = .ok (.iand, 1) := by decide +kernel
theorem dX5_firstWay_74 : decode cX5_firstWay 74 = .ok (.istore 4, 2) := by decide +kernel
theorem dX5_firstWay_76 : decode cX5_firstWay 76 = .ok (.goto (-60), 3) := by decide +kernel
theorem dX5_firstWay_79 : decode cX5_firstWay 79 = .ok (.iload_n 3, 1) := by decide +kernel
theorem dX5_firstWay_80 : decode cX5_firstWay 80 = .ok (.ireturn, 1) := by decide +kernel
theorem dX5_isBetter_0 : decode cX5_isBetter 0 = .ok (.iload_n 1, 1) := by decide +kernel
theorem dX5_isBetter_1 : decode cX5_isBetter 1 = .ok (.invokestatic 65, 3) := by decide +kernel
theorem dX5_isBetter_4 : decode cX5_isBetter 4 = .ok (.aload_n 0, 1) := by decide +kernel
theorem dX5_isBetter_5 : decode cX5_isBetter 5 = .ok (.getfield 34, 3) := by decide +kernel
theorem dX5_isBetter_8 : decode cX5_isBetter 8 = .ok (.invokestatic 65, 3) := by decide +kernel
theorem dX5_isBetter_11 : decode cX5_isBetter 11 = .ok (.isub, 1) := by decide +kernel
theorem dX5_isBetter_12 : decode cX5_isBetter 12 = .ok (.istore_n 2, 1) := by decide +kernel
theorem dX5_isBetter_13 : decode cX5_isBetter 13 = .ok (.iload_n 2, 1) := by decide +kernel
theorem dX5_isBetter_14 : decode cX5_isBetter 14 = .ok (.ifCond .eq 13, 3) := by decide +kernel
theorem dX5_isBetter_17 : decode cX5_isBetter 17 = .ok (.iload_n 2, 1) := by decide +kernel
theorem dX5_isBetter_18 : decode cX5_isBetter 18 = .ok (.ifCond .le 7, 3) := by decide +kernel
theorem dX5_isBetter_21 : decode cX5_isBetter 21 = .ok (.iconst 1, 1) := by decide +kernel
theorem dX5_isBetter_22 : decode cX5_isBetter 22 = .ok (.goto 4, 3) := by decide +kernel
theorem dX5_isBetter_25 : decode cX5_isBetter 25 = .ok (.iconst 0, 1) := by decide +kernel
theorem dX5_isBetter_26 : decode cX5_isBetter 26 = .ok (.ireturn, 1) := by decide +kernel
theorem dX5_isBetter_27 : decode cX5_isBetter 27 = .ok (.aload_n 0, 1) := by decide +kernel
theorem dX5_isBetter_28 : decode cX5_isBetter 28 = .ok (.iload_n 1, 1) := by decide +kernel
theorem dX5_isBetter_29 : decode cX5_isBetter 29 = .ok (.invokevirtual 108, 3) := by decide +kernel
theorem dX5_isBetter_32 : decode cX5_isBetter 32 = .ok (.aload_n 0, 1) := by decide +kernel
theorem dX5_isBetter_33 : decode cX5_isBetter 33 = .ok (.aload_n 0, 1) := by decide +kernel
theorem dX5_isBetter_34 : decode cX5_isBetter 34 = .ok (.getfield 34, 3) := by decide +kernel
theorem dX5_isBetter_37 : decode cX5_isBetter 37 = .ok (.invokevirtual 108, 3) := by decide +kernel
theorem dX5_isBetter_40 : decode cX5_isBetter 40 = .ok (.isub, 1) := by decide +kernel
theorem dX5_isBetter_41 : decode cX5_isBetter 41 = .ok (.istore_n 3, 1) := by decide +kernel
theorem dX5_isBetter_42 : decode cX5_isBetter 42 = .ok (.iload_n 3, 1) := by decide +kernel
theorem dX5_isBetter_43 : decode cX5_isBetter 43 = .ok (.ifCond .eq 13, 3) := by decide +kernel
theorem dX5_isBetter_46 : decode cX5_isBetter 46 = .ok (.iload_n 3, 1) := by decide +kernel
theorem dX5_isBetter_47 : decode cX5_isBetter 47 = .ok (.ifCond .le 7, 3) := by decide +kernel
theorem dX5_isBetter_50 : decode cX5_isBetter 50 = .ok (.iconst 1, 1) := by decide +kernel
theorem dX5_isBetter_51 : decode cX5_isBetter 51 = .ok (.goto 4, 3) := by decide +kernel
theorem dX5_isBetter_54 : decode cX5_isBetter 54 = .ok (.iconst 0, 1) := by decide +kernel
theorem dX5_isBetter_55 : decode cX5_isBetter 55 = .ok (.ireturn, 1) := by decide +kernel
theorem dX5_isBetter_56 : decode cX5_isBetter 56 = .ok (.aload_n 0, 1) := by decide +kernel
theorem dX5_isBetter_57 : decode cX5_isBetter 57 = .ok (.iload_n 1, 1) := by decide +kernel
theorem dX5_isBetter_58 : decode cX5_isBetter 58 = .ok (.invokevirtual 111, 3) := by decide +kernel
theorem dX5_isBetter_61 : decode cX5_isBetter 61 = .ok (.aload_n 0, 1) := by decide +kernel
theorem dX5_isBetter_62 : decode cX5_isBetter 62 = .ok (.aload_n 0, 1) := by decide +kernel
theorem dX5_isBetter_63 : decode cX5_isBetter 63 = .ok (.getfield 34, 3) := by decide +kernel
theorem dX5_isBetter_66 : decode cX5_isBetter 66 = .ok (.invokevirtual 111, 3) := by decide +kernel
theorem dX5_isBetter_69 : decode cX5_isBetter 69 = .ok (.if_icmp .ge 7, 3) := by decide +kernel
theorem dX5_isBetter_72 : decode cX5_isBetter 72 = .ok (.iconst 1, 1) := by decide +kernel
theorem dX5_isBetter_73 : decode cX5_isBetter 73 = .ok (.goto 4, 3) := by decide +kernel
theorem dX5_isBetter_76 : decode cX5_isBetter 76 = .ok (.iconst 0, 1) := by decide +kernel
theorem dX5_isBetter_77 : decode cX5_isBetter 77 = .ok (.ireturn, 1) := by decide +kernel
theorem dX5_sumWorth_0 : decode cX5_sumWorth 0 = .ok (.iconst 0, 1) := by decide +kernel
theorem dX5_sumWorth_1 : decode cX5_sumWorth 1 = .ok (.istore_n 2, 1) := by decide +kernel
theorem dX5_sumWorth_2 : decode cX5_sumWorth 2 = .ok (.iconst 0, 1) := by decide +kernel
theorem dX5_sumWorth_3 : decode cX5_sumWorth 3 = .ok (.istore_n 3, 1) := by decide +kernel
theorem dX5_sumWorth_4 : decode cX5_sumWorth 4 = .ok (.iload_n 3, 1) := by decide +kernel
theorem dX5_sumWorth_5 : decode cX5_sumWorth 5 = .ok (.aload_n 0, 1) := by decide +kernel
theorem dX5_sumWorth_6 : decode cX5_sumWorth 6 = .ok (.getfield 17, 3) := by decide +kernel
theorem dX5_sumWorth_9 : decode cX5_sumWorth 9 = .ok (.if_icmp .ge 29, 3) := by decide +kernel
theorem dX5_sumWorth_12 : decode cX5_sumWorth 12 = .ok (.iload_n 1, 1) := by decide +kernel
theorem dX5_sumWorth_13 : decode cX5_sumWorth 13 = .ok (.iload_n 3, 1) := by decide +kernel
theorem dX5_sumWorth_14 : decode cX5_sumWorth 14 = .ok (.invokestatic 57, 3) := by decide +kernel
theorem dX5_sumWorth_17 : decode cX5_sumWorth 17 = .ok (.ifCond .eq 15, 3) := by decide +kernel
theorem dX5_sumWorth_20 : decode cX5_sumWorth 20 = .ok (.iload_n 2, 1) := by decide +kernel
theorem dX5_sumWorth_21 : decode cX5_sumWorth 21 = .ok (.aload_n 0, 1) := by decide +kernel
theorem dX5_sumWorth_22 : decode cX5_sumWorth 22 = .ok (.getfield 11, 3) := by decide +kernel
theorem dX5_sumWorth_25 : decode cX5_sumWorth 25 = .ok (.iload_n 3, 1) := by decide +kernel
theorem dX5_sumWorth_26 : decode cX5_sumWorth 26 = .ok (.aaload, 1) := by decide +kernel
theorem dX5_sumWorth_27 : decode cX5_sumWorth 27 = .ok (.getfield 114, 3) := by decide +kernel
theorem dX5_sumWorth_30 : decode cX5_sumWorth 30 = .ok (.iadd, 1) := by decide +kernel
theorem dX5_sumWorth_31 : decode cX5_sumWorth 31 = .ok (.istore_n 2, 1) := by decide +kernel
theorem dX5_sumWorth_32 : decode cX5_sumWorth 32 = .ok (.iinc 3 1, 3) := by decide +kernel
theorem dX5_sumWorth_35 : decode cX5_sumWorth 35 = .ok (.goto (-31), 3) := by decide +kernel
theorem dX5_sumWorth_38 : decode cX5_sumWorth 38 = .ok (.iload_n 2, 1) := by decide +kernel
theorem dX5_sumWorth_39 : decode cX5_sumWorth 39 = .ok (.ireturn, 1) := by decide +kernel
theorem dX5_wholeWay_0 : decode cX5_wholeWay 0 = .ok (.aload_n 0, 1) := by decide +kernel
theorem dX5_wholeWay_1 : decode cX5_wholeWay 1 = .ok (.getfield 31, 3) := by decide +kernel
theorem dX5_wholeWay_4 : decode cX5_wholeWay 4 = .ok (.iload_n 1, 1) := by decide +kernel
theorem dX5_wholeWay_5 : decode cX5_wholeWay 5 = .ok (.iaload, 1) := by decide +kernel
theorem dX5_wholeWay_6 : decode cX5_wholeWay 6 = .ok (.istore_n 2, 1) := by decide +kernel
theorem dX5_wholeWay_7 : decode cX5_wholeWay 7 = .ok (.iconst 0, 1) := by decide +kernel
theorem dX5_wholeWay_8 : decode cX5_wholeWay 8 = .ok (.istore_n 3, 1) := by decide +kernel
theorem dX5_wholeWay_9 : decode cX5_wholeWay 9 = .ok (.iload_n 3, 1) := by decide +kernel
theorem dX5_wholeWay_10 : decode cX5_wholeWay 10 = .ok (.aload_n 0, 1) := by decide +kernel
theorem dX5_wholeWay_11 : decode cX5_wholeWay 11 = .ok (.getfield 17, 3) := by decide +kernel
theorem dX5_wholeWay_14 : decode cX5_wholeWay 14 = .ok (.if_icmp .ge 28, 3) := by decide +kernel
theorem dX5_wholeWay_17 : decode cX5_wholeWay 17 = .ok (.iload_n 1, 1) := by decide +kernel
theorem dX5_wholeWay_18 : decode cX5_wholeWay 18 = .ok (.iload_n 3, 1) := by decide +kernel
theorem dX5_wholeWay_19 : decode cX5_wholeWay 19 = .ok (.invokestatic 57, 3) := by decide +kernel
theorem dX5_wholeWay_22 : decode cX5_wholeWay 22 = .ok (.ifCond .ne 14, 3) := by decide +kernel
theorem dX5_wholeWay_25 : decode cX5_wholeWay 25 = .ok (.iload_n 2, 1) := by decide +kernel
theorem dX5_wholeWay_26 : decode cX5_wholeWay 26 = .ok (.bipush 9, 2) := by decide +kernel
theorem dX5_wholeWay_28 : decode cX5_wholeWay 28 = .ok (.getstatic 95, 3) := by decide +kernel
theorem dX5_wholeWay_31 : decode cX5_wholeWay 31 = .ok (.iload_n 3, 1) := by decide +kernel
theorem dX5_wholeWay_32 : decode cX5_wholeWay 32 = .ok (.iaload, 1) := by decide +kernel
theorem dX5_wholeWay_33 : decode cX5_wholeWay 33 = .ok (.imul, 1) := by decide +kernel
theorem dX5_wholeWay_34 : decode cX5_wholeWay 34 = .ok (.iadd, 1) := by decide +kernel
theorem dX5_wholeWay_35 : decode cX5_wholeWay 35 = .ok (.istore_n 2, 1) := by decide +kernel
theorem dX5_wholeWay_36 : decode cX5_wholeWay 36 = .ok (.iinc 3 1, 3) := by decide +kernel
theorem dX5_wholeWay_39 : decode cX5_wholeWay 39 = .ok (.goto (-30), 3) := by decide +kernel
theorem dX5_wholeWay_42 : decode cX5_wholeWay 42 = .ok (.iload_n 2, 1) := by decide +kernel
theorem dX5_wholeWay_43 : decode cX5_wholeWay 43 = .ok (.ireturn, 1) := by decide +kernel
theorem dX6_init_0 : decode cX6_init 0 = .ok (.aload_n 0, 1) := by decide +kernel
theorem dX6_init_1 : decode cX6_init 1 = .ok (.invokespecial 3, 3) := by decide +kernel
theorem dX6_init_4 : decode cX6_init 4 = .ok (.aload_n 0, 1) := by decide +kernel
theorem dX6_init_5 : decode cX6_init 5 = .ok (.bipush 53, 2) := by decide +kernel
theorem dX6_init_7 : decode cX6_init 7 = .ok (.newarray .int, 2) := by decide +kernel
theorem dX6_init_9 : decode cX6_init 9 = .ok (.putfield 9, 3) := by decide +kernel
theorem dX6_init_12 : decode cX6_init 12 = .ok (.aload_n 0, 1) := by decide +kernel
theorem dX6_init_13 : decode cX6_init 13 = .ok (.iconst 5, 1) := by decide +kernel
theorem dX6_init_14 : decode cX6_init 14 = .ok (.newarray .int, 2) := by decide +kernel
theorem dX6_init_16 : decode cX6_init 16 = .ok (.putfield 15, 3) := by decide +kernel
theorem dX6_init_19 : decode cX6_init 19 = .ok (.aload_n 0, 1) := by decide +kernel
theorem dX6_init_20 : decode cX6_init 20 = .ok (.bipush 53, 2) := by decide +kernel
theorem dX6_init_22 : decode cX6_init 22 = .ok (.newarray .int, 2) := by decide +kernel
theorem dX6_init_24 : decode cX6_init 24 = .ok (.putfield 18, 3) := by decide +kernel
theorem dX6_init_27 : decode cX6_init 27 = .ok (.aload_n 0, 1) := by decide +kernel
theorem dX6_init_28 : decode cX6_init 28 = .ok (.iconst 0, 1) := by decide +kernel
theorem dX6_init_29 : decode cX6_init 29 = .ok (.putfield 21, 3) := by decide +kernel
theorem dX6_init_32 : decode cX6_init 32 = .ok (.aload_n 0, 1) := by decide +kernel
theorem dX6_init_33 : decode cX6_init 33 = .ok (.iconst 0, 1) := by decide +kernel
theorem dX6_init_34 : decode cX6_init 34 = .ok (.putfield 25, 3) := by decide +kernel
theorem dX6_init_37 : decode cX6_init 37 = .ok (.aload_n 0, 1) := by decide +kernel
theorem dX6_init_38 : decode cX6_init 38 = .ok (.getfield 18, 3) := by decide +kernel
theorem dX6_init_41 : decode cX6_init 41 = .ok (.iconst (-1), 1) := by decide +kernel
theorem dX6_init_42 : decode cX6_init 42 = .ok (.invokestatic 29, 3) := by decide +kernel
theorem dX6_init_45 : decode cX6_init 45 = .ok (.return_, 1) := by decide +kernel
theorem dX6_clear_0 : decode cX6_clear 0 = .ok (.aload_n 0, 1) := by decide +kernel
theorem dX6_clear_1 : decode cX6_clear 1 = .ok (.getfield 9, 3) := by decide +kernel
theorem dX6_clear_4 : decode cX6_clear 4 = .ok (.iconst 0, 1) := by decide +kernel
theorem dX6_clear_5 : decode cX6_clear 5 = .ok (.invokestatic 29, 3) := by decide +kernel
theorem dX6_clear_8 : decode cX6_clear 8 = .ok (.aload_n 0, 1) := by decide +kernel
theorem dX6_clear_9 : decode cX6_clear 9 = .ok (.getfield 15, 3) := by decide +kernel
theorem dX6_clear_12 : decode cX6_clear 12 = .ok (.iconst 0, 1) := by decide +kernel
theorem dX6_clear_13 : decode cX6_clear 13 = .ok (.invokestatic 29, 3) := by decide +kernel
theorem dX6_clear_16 : decode cX6_clear 16 = .ok (.aload_n 0, 1) := by decide +kernel
theorem dX6_clear_17 : decode cX6_clear 17 = .ok (.getfield 18, 3) := by decide +kernel
theorem dX6_clear_20 : decode cX6_clear 20 = .ok (.iconst (-1), 1) := by decide +kernel
theorem dX6_clear_21 : decode cX6_clear 21 = .ok (.invokestatic 29, 3) := by decide +kernel
theorem dX6_clear_24 : decode cX6_clear 24 = .ok (.aload_n 0, 1) := by decide +kernel
theorem dX6_clear_25 : decode cX6_clear 25 = .ok (.iconst 0, 1) := by decide +kernel
theorem dX6_clear_26 : decode cX6_clear 26 = .ok (.putfield 21, 3) := by decide +kernel
theorem dX6_clear_29 : decode cX6_clear 29 = .ok (.aload_n 0, 1) := by decide +kernel
theorem dX6_clear_30 : decode cX6_clear 30 = .ok (.iconst 0, 1) := by decide +kernel
theorem dX6_clear_31 : decode cX6_clear 31 = .ok (.putfield 25, 3) := by decide +kernel
theorem dX6_clear_34 : decode cX6_clear 34 = .ok (.return_, 1) := by decide +kernel
theorem dX6_setSeason_0 : decode cX6_setSeason 0 = .ok (.iload_n 1, 1) := by decide +kernel
theorem dX6_setSeason_1 : decode cX6_setSeason 1 = .ok (.iconst 0, 1) := by decide +kernel
theorem dX6_setSeason_2 : decode cX6_setSeason 2 = .ok (.invokestatic 35, 3) := by decide +kernel
theorem dX6_setSeason_5 : decode cX6_setSeason 5 = .ok (.istore 4, 2) := by decide +kernel
theorem dX6_setSeason_7 : decode cX6_setSeason 7 = .ok (.iload 4, 2) := by decide +kernel
theorem dX6_setSeason_9 : decode cX6_setSeason 9 = .ok (.iload_n 2, 1) := by decide +kernel
theorem dX6_setSeason_10 : decode cX6_setSeason 10 = .ok (.if_icmp .gt 24, 3) := by decide +kernel
theorem dX6_setSeason_13 : decode cX6_setSeason 13 = .ok (.iload 4, 2) := by decide +kernel
theorem dX6_setSeason_15 : decode cX6_setSeason 15 = .ok (.bipush 53, 2) := by decide +kernel
theorem dX6_setSeason_17 : decode cX6_setSeason 17 = .ok (.if_icmp .ge 17, 3) := by decide +kernel
theorem dX6_setSeason_20 : decode cX6_setSeason 20 = .ok (.aload_n 0, 1) := by decide +kernel
theorem dX6_setSeason_21 : decode cX6_setSeason 21 = .ok (.getfield 9, 3) := by decide +kernel
theorem dX6_setSeason_24 : decode cX6_setSeason 24 = .ok (.iload 4, 2) := by decide +kernel
theorem dX6_setSeason_26 : decode cX6_setSeason 26 = .ok (.iload_n 3, 1) := by decide +kernel
theorem dX6_setSeason_27 : decode cX6_setSeason 27 = .ok (.iastore, 1) := by decide +kernel
theorem dX6_setSeason_28 : decode cX6_setSeason 28 = .ok (.iinc 4 1, 3) := by decide +kernel
theorem dX6_setSeason_31 : decode cX6_setSeason 31 = .ok (.goto (-24), 3) := by decide +kernel
theorem dX6_setSeason_34 : decode cX6_setSeason 34 = .ok (.return_, 1) := by decide +kernel
theorem dX6_setSize_0 : decode cX6_setSize 0 = .ok (.iload_n 1, 1) := by decide +kernel
theorem dX6_setSize_1 : decode cX6_setSize 1 = .ok (.invokestatic 41, 3) := by decide +kernel
theorem dX6_setSize_4 : decode cX6_setSize 4 = .ok (.ifCond .eq 10, 3) := by decide +kernel
theorem dX6_setSize_7 : decode cX6_setSize 7 = .ok (.aload_n 0, 1) := by decide +kernel
theorem dX6_setSize_8 : decode cX6_setSize 8 = .ok (.getfield 15, 3) := by decide +kernel
theorem dX6_setSize_11 : decode cX6_setSize 11 = .ok (.iload_n 1, 1) := by decide +kernel
theorem dX6_setSize_12 : decode cX6_setSize 12 = .ok (.iload_n 2, 1) := by decide +kernel
theorem dX6_setSize_13 : decode cX6_setSize 13 = .ok (.iastore, 1) := by decide +kernel
theorem dX6_setSize_14 : decode cX6_setSize 14 = .ok (.return_, 1) := by decide +kernel
theorem dX6_setEarly_0 : decode cX6_setEarly 0 = .ok (.iload_n 1, 1) := by decide +kernel
theorem dX6_setEarly_1 : decode cX6_setEarly 1 = .ok (.invokestatic 45, 3) := by decide +kernel
theorem dX6_setEarly_4 : decode cX6_setEarly 4 = .ok (.ifCond .eq 10, 3) := by decide +kernel
theorem dX6_setEarly_7 : decode cX6_setEarly 7 = .ok (.aload_n 0, 1) := by decide +kernel
theorem dX6_setEarly_8 : decode cX6_setEarly 8 = .ok (.getfield 18, 3) := by decide +kernel
theorem dX6_setEarly_11 : decode cX6_setEarly 11 = .ok (.iload_n 1, 1) := by decide +kernel
theorem dX6_setEarly_12 : decode cX6_setEarly 12 = .ok (.iload_n 2, 1) := by decide +kernel
theorem dX6_setEarly_13 : decode cX6_setEarly 13 = .ok (.iastore, 1) := by decide +kernel
theorem dX6_setEarly_14 : decode cX6_setEarly 14 = .ok (.return_, 1) := by decide +kernel
theorem dX6_worthOf_0 : decode cX6_worthOf 0 = .ok (.iload_n 1, 1) := by decide +kernel
theorem dX6_worthOf_1 : decode cX6_worthOf 1 = .ok (.invokestatic 41, 3) := by decide +kernel
theorem dX6_worthOf_4 : decode cX6_worthOf 4 = .ok (.ifCond .eq 10, 3) := by decide +kernel
theorem dX6_worthOf_7 : decode cX6_worthOf 7 = .ok (.iload_n 2, 1) := by decide +kernel
theorem dX6_worthOf_8 : decode cX6_worthOf 8 = .ok (.invokestatic 45, 3) := by decide +kernel
theorem dX6_worthOf_11 : decode cX6_worthOf 11 = .ok (.ifCond .ne 5, 3) := by decide +kernel
theorem dX6_worthOf_14 : decode cX6_worthOf 14 = .ok (.iconst 0, 1) := by decide +kernel
theorem dX6_worthOf_15 : decode cX6_worthOf 15 = .ok (.ireturn, 1) := by decide +kernel
theorem dX6_worthOf_16 : decode cX6_worthOf 16 = .ok (.aload_n 0, 1) := by decide +kernel
theorem dX6_worthOf_17 : decode cX6_worthOf 17 = .ok (.getfield 9, 3) := by decide +kernel
theorem dX6_worthOf_20 : decode cX6_worthOf 20 = .ok (.iload_n 2, 1) := by decide +kernel
theorem dX6_worthOf_21 : decode cX6_worthOf 21 = .ok (.iaload, 1) := by decide +kernel
theorem dX6_worthOf_22 : decode cX6_worthOf 22 = .ok (.aload_n 0, 1) := by decide +kernel
theorem dX6_worthOf_23 : decode cX6_worthOf 23 = .ok (.getfield 15, 3) := by decide +kernel
theorem dX6_worthOf_26 : decode cX6_worthOf 26 = .ok (.iload_n 1, 1) := by decide +kernel
theorem dX6_worthOf_27 : decode cX6_worthOf 27 = .ok (.iaload, 1) := by decide +kernel
theorem dX6_worthOf_28 : decode cX6_worthOf 28 = .ok (.iadd, 1) := by decide +kernel
theorem dX6_worthOf_29 : decode cX6_worthOf 29 = .ok (.aload_n 0, 1) := by decide +kernel
theorem dX6_worthOf_30 : decode cX6_worthOf 30 = .ok (.iload_n 3, 1) := by decide +kernel
theorem dX6_worthOf_31 : decode cX6_worthOf 31 = .ok (.invokevirtual 48, 3) := by decide +kernel
theorem dX6_worthOf_34 : decode cX6_worthOf 34 = .ok (.iadd, 1) := by decide +kernel
theorem dX6_worthOf_35 : decode cX6_worthOf 35 = .ok (.ireturn, 1) := by decide +kernel
theorem dX6_earlyOf_0 : decode cX6_earlyOf 0 = .ok (.iload_n 1, 1) := by decide +kernel
theorem dX6_earlyOf_1 : decode cX6_earlyOf 1 = .ok (.bipush 52, 2) := by decide +kernel
theorem dX6_earlyOf_3 : decode cX6_earlyOf 3 = .ok (.invokestatic 52, 3) := by decide +kernel
theorem dX6_earlyOf_6 : decode cX6_earlyOf 6 = .ok (.istore_n 2, 1) := by decide +kernel
theorem dX6_earlyOf_7 : decode cX6_earlyOf 7 = .ok (.iload_n 2, 1) := by decide +kernel
theorem dX6_earlyOf_8 : decode cX6_earlyOf 8 = .ok (.ifCond .lt 26, 3) := by decide +kernel
theorem dX6_earlyOf_11 : decode cX6_earlyOf 11 = .ok (.aload_n 0, 1) := by decide +kernel
theorem dX6_earlyOf_12 : decode cX6_earlyOf 12 = .ok (.getfield 18, 3) := by decide +kernel
theorem dX6_earlyOf_15 : decode cX6_earlyOf 15 = .ok (.iload_n 2, 1) := by decide +kernel
theorem dX6_earlyOf_16 : decode cX6_earlyOf 16 = .ok (.iaload, 1) := by decide +kernel
theorem dX6_earlyOf_17 : decode cX6_earlyOf 17 = .ok (.iconst (-1), 1) := by decide +kernel
theorem dX6_earlyOf_18 : decode cX6_earlyOf 18 = .ok (.if_icmp .eq 10, 3) := by decide +kernel
theorem dX6_earlyOf_21 : decode cX6_earlyOf 21 = .ok (.aload_n 0, 1) := by decide +kernel
theorem dX6_earlyOf_22 : decode cX6_earlyOf 22 = .ok (.getfield 18, 3) := by decide +kernel
theorem dX6_earlyOf_25 : decode cX6_earlyOf 25 = .ok (.iload_n 2, 1) := by decide +kernel
theorem dX6_earlyOf_26 : decode cX6_earlyOf 26 = .ok (.iaload, 1) := by decide +kernel
theorem dX6_earlyOf_27 : decode cX6_earlyOf 27 = .ok (.ireturn, 1) := by decide +kernel
theorem dX6_earlyOf_28 : decode cX6_earlyOf 28 = .ok (.iinc 2 (-1), 3) := by decide +kernel
theorem dX6_earlyOf_31 : decode cX6_earlyOf 31 = .ok (.goto (-24), 3) := by decide +kernel
theorem dX6_earlyOf_34 : decode cX6_earlyOf 34 = .ok (.iconst 0, 1) := by decide +kernel
theorem dX6_earlyOf_35 : decode cX6_earlyOf 35 = .ok (.ireturn, 1) := by decide +kernel
theorem dX7_init_0 : decode cX7_init 0 = .ok (.aload_n 0, 1) := by decide +kernel
theorem dX7_init_1 : decode cX7_init 1 = .ok (.invokespecial 1, 3) := by decide +kernel
theorem dX7_init_4 : decode cX7_init 4 = .ok (.aload_n 0, 1) := by decide +kernel
theorem dX7_init_5 : decode cX7_init 5 = .ok (.iload_n 1, 1) := by decide +kernel
theorem dX7_init_6 : decode cX7_init 6 = .ok (.putfield 7, 3) := by decide +kernel
theorem dX7_init_9 : decode cX7_init 9 = .ok (.aload_n 0, 1) := by decide +kernel
theorem dX7_init_10 : decode cX7_init 10 = .ok (.iload_n 2, 1) := by decide +kernel
theorem dX7_init_11 : decode cX7_init 11 = .ok (.putfield 13, 3) := by decide +kernel
theorem dX7_init_14 : decode cX7_init 14 = .ok (.aload_n 0, 1) := by decide +kernel
theorem dX7_init_15 : decode cX7_init 15 = .ok (.iload_n 3, 1) := by decide +kernel
theorem dX7_init_16 : decode cX7_init 16 = .ok (.putfield 16, 3) := by decide +kernel
theorem dX7_init_19 : decode cX7_init 19 = .ok (.aload_n 0, 1) := by decide +kernel
theorem dX7_init_20 : decode cX7_init 20 = .ok (.iload 4, 2) := by decide +kernel
theorem dX7_init_22 : decode cX7_init 22 = .ok (.putfield 19, 3) := by decide +kernel
theorem dX7_init_25 : decode cX7_init 25 = .ok (.return_, 1) := by decide +kernel
theorem dX8_init_0 : decode cX8_init 0 = .ok (.aload_n 0, 1) := by decide +kernel
theorem dX8_init_1 : decode cX8_init 1 = .ok (.invokespecial 1, 3) := by decide +kernel
theorem dX8_init_4 : decode cX8_init 4 = .ok (.aload_n 0, 1) := by decide +kernel
theorem dX8_init_5 : decode cX8_init 5 = .ok (.bipush 6, 2) := by decide +kernel
theorem dX8_init_7 : decode cX8_init 7 = .ok (.anewarray 9, 3) := by decide +kernel
theorem dX8_init_10 : decode cX8_init 10 = .ok (.putfield 11, 3) := by decide +kernel
theorem dX8_init_13 : decode cX8_init 13 = .ok (.aload_n 0, 1) := by decide +kernel
theorem dX8_init_14 : decode cX8_init 14 = .ok (.iconst 0, 1) := by decide +kernel
theorem dX8_init_15 : decode cX8_init 15 = .ok (.putfield 15, 3) := by decide +kernel
theorem dX8_init_18 : decode cX8_init 18 = .ok (.aload_n 0, 1) := by decide +kernel
theorem dX8_init_19 : decode cX8_init 19 = .ok (.bipush 10, 2) := by decide +kernel
theorem dX8_init_21 : decode cX8_init 21 = .ok (.anewarray 19, 3) := by decide +kernel
theorem dX8_init_24 : decode cX8_init 24 = .ok (.putfield 21, 3) := by decide +kernel
theorem dX8_init_27 : decode cX8_init 27 = .ok (.aload_n 0, 1) := by decide +kernel
theorem dX8_init_28 : decode cX8_init 28 = .ok (.iconst 0, 1) := by decide +kernel
theorem dX8_init_29 : decode cX8_init 29 = .ok (.putfield 25, 3) := by decide +kernel
theorem dX8_init_32 : decode cX8_init 32 = .ok (.aload_n 0, 1) := by decide +kernel
theorem dX8_init_33 : decode cX8_init 33 = .ok (.sipush 200, 3) := by decide +kernel
theorem dX8_init_36 : decode cX8_init 36 = .ok (.anewarray 28, 3) := by decide +kernel
theorem dX8_init_39 : decode cX8_init 39 = .ok (.putfield 30, 3) := by decide +kernel
theorem dX8_init_42 : decode cX8_init 42 = .ok (.aload_n 0, 1) := by decide +kernel
theorem dX8_init_43 : decode cX8_init 43 = .ok (.iconst 0, 1) := by decide +kernel
theorem dX8_init_44 : decode cX8_init 44 = .ok (.putfield 34, 3) := by decide +kernel
theorem dX8_init_47 : decode cX8_init 47 = .ok (.aload_n 0, 1) := by decide +kernel
theorem dX8_init_48 : decode cX8_init 48 = .ok (.new 37, 3) := by decide +kernel
theorem dX8_init_51 : decode cX8_init 51 = .ok (.dup, 1) := by decide +kernel
theorem dX8_init_52 : decode cX8_init 52 = .ok (.invokespecial 39, 3) := by decide +kernel
theorem dX8_init_55 : decode cX8_init 55 = .ok (.putfield 40, 3) := by decide +kernel
theorem dX8_init_58 : decode cX8_init 58 = .ok (.aload_n 0, 1) := by decide +kernel
theorem dX8_init_59 : decode cX8_init 59 = .ok (.new 44, 3) := by decide +kernel
theorem dX8_init_62 : decode cX8_init 62 = .ok (.dup, 1) := by decide +kernel
theorem dX8_init_63 : decode cX8_init 63 = .ok (.invokespecial 46, 3) := by decide +kernel
theorem dX8_init_66 : decode cX8_init 66 = .ok (.putfield 47, 3) := by decide +kernel
theorem dX8_init_69 : decode cX8_init 69 = .ok (.aload_n 0, 1) := by decide +kernel
theorem dX8_init_70 : decode cX8_init 70 = .ok (.new 44, 3) := by decide +kernel
theorem dX8_init_73 : decode cX8_init 73 = .ok (.dup, 1) := by decide +kernel
theorem dX8_init_74 : decode cX8_init 74 = .ok (.invokespecial 46, 3) := by decide +kernel
theorem dX8_init_77 : decode cX8_init 77 = .ok (.putfield 51, 3) := by decide +kernel
theorem dX8_init_80 : decode cX8_init 80 = .ok (.aload_n 0, 1) := by decide +kernel
theorem dX8_init_81 : decode cX8_init 81 = .ok (.iconst 0, 1) := by decide +kernel
theorem dX8_init_82 : decode cX8_init 82 = .ok (.putfield 54, 3) := by decide +kernel
theorem dX8_init_85 : decode cX8_init 85 = .ok (.aload_n 0, 1) := by decide +kernel
theorem dX8_init_86 : decode cX8_init 86 = .ok (.iconst 0, 1) := by decide +kernel
theorem dX8_init_87 : decode cX8_init 87 = .ok (.putfield 57, 3) := by decide +kernel
theorem dX8_init_90 : decode cX8_init 90 = .ok (.aload_n 0, 1) := by decide +kernel
theorem dX8_init_91 : decode cX8_init 91 = .ok (.new 60, 3) := by decide +kernel
theorem dX8_init_94 : decode cX8_init 94 = .ok (.dup, 1) := by decide +kernel
theorem dX8_init_95 : decode cX8_init 95 = .ok (.invokespecial 62, 3) := by decide +kernel
theorem dX8_init_98 : decode cX8_init 98 = .ok (.putfield 63, 3) := by decide +kernel
theorem dX8_init_101 : decode cX8_init 101 = .ok (.aload_n 0, 1) := by decide +kernel
theorem dX8_init_102 : decode cX8_init 102 = .ok (.new 67, 3) := by decide +kernel
theorem dX8_init_105 : decode cX8_init 105 = .ok (.dup, 1) := by decide +kernel
theorem dX8_init_106 : decode cX8_init 106 = .ok (.invokespecial 69, 3) := by decide +kernel
theorem dX8_init_109 : decode cX8_init 109 = .ok (.putfield 70, 3) := by decide +kernel
theorem dX8_init_112 : decode cX8_init 112 = .ok (.return_, 1) := by decide +kernel
theorem dX8_flat_0 : decode cX8_flat 0 = .ok (.iload_n 1, 1) := by decide +kernel
theorem dX8_flat_1 : decode cX8_flat 1 = .ok (.ifCond .lt 24, 3) := by decide +kernel
theorem dX8_flat_4 : decode cX8_flat 4 = .ok (.iload_n 1, 1) := by decide +kernel
theorem dX8_flat_5 : decode cX8_flat 5 = .ok (.iconst 3, 1) := by decide +kernel
theorem dX8_flat_6 : decode cX8_flat 6 = .ok (.if_icmp .gt 19, 3) := by decide +kernel
theorem dX8_flat_9 : decode cX8_flat 9 = .ok (.iload_n 2, 1) := by decide +kernel
theorem dX8_flat_10 : decode cX8_flat 10 = .ok (.invokestatic 74, 3) := by decide +kernel
theorem dX8_flat_13 : decode cX8_flat 13 = .ok (.ifCond .eq 12, 3) := by decide +kernel
theorem dX8_flat_16 : decode cX8_flat 16 = .ok (.aload_n 0, 1) := by decide +kernel
theorem dX8_flat_17 : decode cX8_flat 17 = .ok (.getfield 15, 3) := by decide +kernel
theorem dX8_flat_20 : decode cX8_flat 20 = .ok (.bipush 6, 2) := by decide +kernel
theorem dX8_flat_22 : decode cX8_flat 22 = .ok (.if_icmp .lt 5, 3) := by decide +kernel
theorem dX8_flat_25 : decode cX8_flat 25 = .ok (.iconst (-1), 1) := by decide +kernel
theorem dX8_flat_26 : decode cX8_flat 26 = .ok (.ireturn, 1) := by decide +kernel
theorem dX8_flat_27 : decode cX8_flat 27 = .ok (.aload_n 0, 1) := by decide +kernel
theorem dX8_flat_28 : decode cX8_flat 28 = .ok (.getfield 15, 3) := by decide +kernel
theorem dX8_flat_31 : decode cX8_flat 31 = .ok (.istore_n 3, 1) := by decide +kernel
theorem dX8_flat_32 : decode cX8_flat 32 = .ok (.aload_n 0, 1) := by decide +kernel
theorem dX8_flat_33 : decode cX8_flat 33 = .ok (.getfield 11, 3) := by decide +kernel
theorem dX8_flat_36 : decode cX8_flat 36 = .ok (.iload_n 3, 1) := by decide +kernel
theorem dX8_flat_37 : decode cX8_flat 37 = .ok (.new 9, 3) := by decide +kernel
theorem dX8_flat_40 : decode cX8_flat 40 = .ok (.dup, 1) := by decide +kernel
theorem dX8_flat_41 : decode cX8_flat 41 = .ok (.iload_n 3, 1) := by decide +kernel
theorem dX8_flat_42 : decode cX8_flat 42 = .ok (.iload_n 1, 1) := by decide +kernel
theorem dX8_flat_43 : decode cX8_flat 43 = .ok (.iload_n 2, 1) := by decide +kernel
theorem dX8_flat_44 : decode cX8_flat 44 = .ok (.invokespecial 78, 3) := by decide +kernel
theorem dX8_flat_47 : decode cX8_flat 47 = .ok (.aastore, 1) := by decide +kernel
theorem dX8_flat_48 : decode cX8_flat 48 = .ok (.aload_n 0, 1) := by decide +kernel
theorem dX8_flat_49 : decode cX8_flat 49 = .ok (.dup, 1) := by decide +kernel
theorem dX8_flat_50 : decode cX8_flat 50 = .ok (.getfield 15, 3) := by decide +kernel
theorem dX8_flat_53 : decode cX8_flat 53 = .ok (.iconst 1, 1) := by decide +kernel
theorem dX8_flat_54 : decode cX8_flat 54 = .ok (.iadd, 1) := by decide +kernel
theorem dX8_flat_55 : decode cX8_flat 55 = .ok (.putfield 15, 3) := by decide +kernel
theorem dX8_flat_58 : decode cX8_flat 58 = .ok (.iload_n 3, 1) := by decide +kernel
theorem dX8_flat_59 : decode cX8_flat 59 = .ok (.ireturn, 1) := by decide +kernel
theorem dX8_owner_0 : decode cX8_owner 0 = .ok (.iload_n 1, 1) := by decide +kernel
theorem dX8_owner_1 : decode cX8_owner 1 = .ok (.ifCond .lt 19, 3) := by decide +kernel
theorem dX8_owner_4 : decode cX8_owner 4 = .ok (.iload_n 1, 1) := by decide +kernel
theorem dX8_owner_5 : decode cX8_owner 5 = .ok (.sipush 9999, 3) := by decide +kernel
theorem dX8_owner_8 : decode cX8_owner 8 = .ok (.if_icmp .gt 12, 3) := by decide +kernel
theorem dX8_owner_11 : decode cX8_owner 11 = .ok (.aload_n 0, 1) := by decide +kernel
theorem dX8_owner_12 : decode cX8_owner 12 = .ok (.getfield 25, 3) := by decide +kernel
theorem dX8_owner_15 : decode cX8_owner 15 = .ok (.bipush 10, 2) := by decide +kernel
theorem dX8_owner_17 : decode cX8_owner 17 = .ok (.if_icmp .lt 5, 3) := by decide +kernel
theorem dX8_owner_20 : decode cX8_owner 20 = .ok (.iconst (-1), 1) := by decide +kernel
theorem dX8_owner_21 : decode cX8_owner 21 = .ok (.ireturn, 1) := by decide +kernel
theorem dX8_owner_22 : decode cX8_owner 22 = .ok (.aload_n 0, 1) := by decide +kernel
theorem dX8_owner_23 : decode cX8_owner 23 = .ok (.getfield 25, 3) := by decide +kernel
theorem dX8_owner_26 : decode cX8_owner 26 = .ok (.istore_n 2, 1) := by decide +kernel
theorem dX8_owner_27 : decode cX8_owner 27 = .ok (.aload_n 0, 1) := by decide +kernel
theorem dX8_owner_28 : decode cX8_owner 28 = .ok (.getfield 21, 3) := by decide +kernel
theorem dX8_owner_31 : decode cX8_owner 31 = .ok (.iload_n 2, 1) := by decide +kernel
theorem dX8_owner_32 : decode cX8_owner 32 = .ok (.new 19, 3) := by decide +kernel
theorem dX8_owner_35 : decode cX8_owner 35 = .ok (.dup, 1) := by decide +kernel
theorem dX8_owner_36 : decode cX8_owner 36 = .ok (.iload_n 2, 1) := by decide +kernel
theorem dX8_owner_37 : decode cX8_owner 37 = .ok (.iload_n 1, 1) := by decide +kernel
theorem dX8_owner_38 : decode cX8_owner 38 = .ok (.invokespecial 81, 3) := by decide +kernel
theorem dX8_owner_41 : decode cX8_owner 41 = .ok (.aastore, 1) := by decide +kernel
theorem dX8_owner_42 : decode cX8_owner 42 = .ok (.aload_n 0, 1) := by decide +kernel
theorem dX8_owner_43 : decode cX8_owner 43 = .ok (.dup, 1) := by decide +kernel
theorem dX8_owner_44 : decode cX8_owner 44 = .ok (.getfield 25, 3) := by decide +kernel
theorem dX8_owner_47 : decode cX8_owner 47 = .ok (.iconst 1, 1) := by decide +kernel
theorem dX8_owner_48 : decode cX8_owner 48 = .ok (.iadd, 1) := by decide +kernel
theorem dX8_owner_49 : decode cX8_owner 49 = .ok (.putfield 25, 3) := by decide +kernel
theorem dX8_owner_52 : decode cX8_owner 52 = .ok (.iload_n 2, 1) := by decide +kernel
theorem dX8_owner_53 : decode cX8_owner 53 = .ok (.ireturn, 1) := by decide +kernel
theorem dX8_own_0 : decode cX8_own 0 = .ok (.aload_n 0, 1) := by decide +kernel
theorem dX8_own_1 : decode cX8_own 1 = .ok (.iload_n 1, 1) := by decide +kernel
theorem dX8_own_2 : decode cX8_own 2 = .ok (.invokevirtual 84, 3) := by decide +kernel
theorem dX8_own_5 : decode cX8_own 5 = .ok (.astore 4, 2) := by decide +kernel
theorem dX8_own_7 : decode cX8_own 7 = .ok (.aload_n 0, 1) := by decide +kernel
theorem dX8_own_8 : decode cX8_own 8 = .ok (.iload_n 3, 1) := by decide +kernel
theorem dX8_own_9 : decode cX8_own 9 = .ok (.invokevirtual 88, 3) := by decide +kernel
theorem dX8_own_12 : decode cX8_own 12 = .ok (.astore 5, 2) := by decide +kernel
theorem dX8_own_14 : decode cX8_own 14 = .ok (.aload 4, 2) := by decide +kernel
theorem dX8_own_16 : decode cX8_own 16 = .ok (.ifnull 20, 3) := by decide +kernel
theorem dX8_own_19 : decode cX8_own 19 = .ok (.iload_n 2, 1) := by decide +kernel
theorem dX8_own_20 : decode cX8_own 20 = .ok (.invokestatic 92, 3) := by decide +kernel
theorem dX8_own_23 : decode cX8_own 23 = .ok (.ifCond .eq 13, 3) := by decide +kernel
theorem dX8_own_26 : decode cX8_own 26 = .ok (.aload 5, 2) := by decide +kernel
theorem dX8_own_28 : decode cX8_own 28 = .ok (.ifnonnull 10, 3) := by decide +kernel
theorem dX8_own_31 : decode cX8_own 31 = .ok (.iload_n 3, 1) := by decide +kernel
theorem dX8_own_32 : decode cX8_own 32 = .ok (.iconst (-1), 1) := by decide +kernel
theorem dX8_own_33 : decode cX8_own 33 = .ok (.if_icmp .eq 5, 3) := by decide +kernel
theorem dX8_own_36 : decode cX8_own 36 = .ok (.iconst 0, 1) := by decide +kernel
theorem dX8_own_37 : decode cX8_own 37 = .ok (.ireturn, 1) := by decide +kernel
theorem dX8_own_38 : decode cX8_own 38 = .ok (.aload 4, 2) := by decide +kernel
theorem dX8_own_40 : decode cX8_own 40 = .ok (.getfield 95, 3) := by decide +kernel
theorem dX8_own_43 : decode cX8_own 43 = .ok (.iload_n 2, 1) := by decide +kernel
theorem dX8_own_44 : decode cX8_own 44 = .ok (.aaload, 1) := by decide +kernel
theorem dX8_own_45 : decode cX8_own 45 = .ok (.astore 6, 2) := by decide +kernel
theorem dX8_own_47 : decode cX8_own 47 = .ok (.aload 6, 2) := by decide +kernel
theorem dX8_own_49 : decode cX8_own 49 = .ok (.ifnull 13, 3) := by decide +kernel
theorem dX8_own_52 : decode cX8_own 52 = .ok (.aload 6, 2) := by decide +kernel
theorem dX8_own_54 : decode cX8_own 54 = .ok (.invokevirtual 96, 3) := by decide +kernel
theorem dX8_own_57 : decode cX8_own 57 = .ok (.ifCond .eq 5, 3) := by decide +kernel
theorem dX8_own_60 : decode cX8_own 60 = .ok (.iconst 0, 1) := by decide +kernel
theorem dX8_own_61 : decode cX8_own 61 = .ok (.ireturn, 1) := by decide +kernel
theorem dX8_own_62 : decode cX8_own 62 = .ok (.aload 4, 2) := by decide +kernel
theorem dX8_own_64 : decode cX8_own 64 = .ok (.iload_n 2, 1) := by decide +kernel
theorem dX8_own_65 : decode cX8_own 65 = .ok (.aload 5, 2) := by decide +kernel
theorem dX8_own_67 : decode cX8_own 67 = .ok (.invokevirtual 100, 3) := by decide +kernel
theorem dX8_own_70 : decode cX8_own 70 = .ok (.iconst 1, 1) := by decide +kernel
theorem dX8_own_71 : decode cX8_own 71 = .ok (.ireturn, 1) := by decide +kernel
theorem dX8_feed_0 : decode cX8_feed 0 = .ok (.aload_n 0, 1) := by decide +kernel
theorem dX8_feed_1 : decode cX8_feed 1 = .ok (.getfield 40, 3) := by decide +kernel
theorem dX8_feed_4 : decode cX8_feed 4 = .ok (.getfield 104, 3) := by decide +kernel
theorem dX8_feed_7 : decode cX8_feed 7 = .ok (.bipush 20, 2) := by decide +kernel
theorem dX8_feed_9 : decode cX8_feed 9 = .ok (.iadd, 1) := by decide +kernel
theorem dX8_feed_10 : decode cX8_feed 10 = .ok (.sipush 300, 3) := by decide +kernel
theorem dX8_feed_13 : decode cX8_feed 13 = .ok (.if_icmp .le 5, 3) := by decide +kernel
theorem dX8_feed_16 : decode cX8_feed 16 = .ok (.iconst (-1), 1) := by decide +kernel
theorem dX8_feed_17 : decode cX8_feed 17 = .ok (.ireturn, 1) := by decide +kernel
theorem dX8_feed_18 : decode cX8_feed 18 = .ok (.aload_n 0, 1) := by decide +kernel
theorem dX8_feed_19 : decode cX8_feed 19 = .ok (.getfield 40, 3) := by decide +kernel
theorem dX8_feed_22 : decode cX8_feed 22 = .ok (.iload_n 1, 1) := by decide +kernel
theorem dX8_feed_23 : decode cX8_feed 23 = .ok (.invokevirtual 107, 3) := by decide +kernel
theorem dX8_feed_26 : decode cX8_feed 26 = .ok (.aload_n 0, 1) := by decide +kernel
theorem dX8_feed_27 : decode cX8_feed 27 = .ok (.getfield 40, 3) := by decide +kernel
theorem dX8_feed_30 : decode cX8_feed 30 = .ok (.iload_n 2, 1) := by decide +kernel
theorem dX8_feed_31 : decode cX8_feed 31 = .ok (.invokevirtual 107, 3) := by decide +kernel
theorem dX8_feed_34 : decode cX8_feed 34 = .ok (.aload_n 0, 1) := by decide +kernel
theorem dX8_feed_35 : decode cX8_feed 35 = .ok (.getfield 40, 3) := by decide +kernel
theorem dX8_feed_38 : decode cX8_feed 38 = .ok (.iload_n 3, 1) := by decide +kernel
theorem dX8_feed_39 : decode cX8_feed 39 = .ok (.invokevirtual 107, 3) := by decide +kernel
theorem dX8_feed_42 : decode cX8_feed 42 = .ok (.aload_n 0, 1) := by decide +kernel
theorem dX8_feed_43 : decode cX8_feed 43 = .ok (.getfield 40, 3) := by decide +kernel
theorem dX8_feed_46 : decode cX8_feed 46 = .ok (.iload 4, 2) := by decide +kernel
theorem dX8_feed_48 : decode cX8_feed 48 = .ok (.invokevirtual 107, 3) := by decide +kernel
theorem dX8_feed_51 : decode cX8_feed 51 = .ok (.aload_n 0, 1) := by decide +kernel
theorem dX8_feed_52 : decode cX8_feed 52 = .ok (.getfield 40, 3) := by decide +kernel
theorem dX8_feed_55 : decode cX8_feed 55 = .ok (.iload 5, 2) := by decide +kernel
theorem dX8_feed_57 : decode cX8_feed 57 = .ok (.invokevirtual 107, 3) := by decide +kernel
theorem dX8_feed_60 : decode cX8_feed 60 = .ok (.aload_n 0, 1) := by decide +kernel
theorem dX8_feed_61 : decode cX8_feed 61 = .ok (.getfield 40, 3) := by decide +kernel
theorem dX8_feed_64 : decode cX8_feed 64 = .ok (.getfield 104, 3) := by decide +kernel
theorem dX8_feed_67 : decode cX8_feed 67 = .ok (.ireturn, 1) := by decide +kernel
theorem dX8_end_0 : decode cX8_end 0 = .ok (.iload_n 1, 1) := by decide +kernel
theorem dX8_end_1 : decode cX8_end 1 = .ok (.ifCond .lt 14, 3) := by decide +kernel
theorem dX8_end_4 : decode cX8_end 4 = .ok (.iload_n 1, 1) := by decide +kernel
theorem dX8_end_5 : decode cX8_end 5 = .ok (.aload_n 0, 1) := by decide +kernel
theorem dX8_end_6 : decode cX8_end 6 = .ok (.getfield 40, 3) := by decide +kernel
theorem dX8_end_9 : decode cX8_end 9 = .ok (.getfield 104, 3) := by decide +kernel
theorem dX8_end_12 : decode cX8_end 12 = .ok (.if_icmp .le 5, 3) := by decide +kernel
theorem dX8_end_15 : decode cX8_end 15 = .ok (.iconst (-1), 1) := by decide +kernel
theorem dX8_end_16 : decode cX8_end 16 = .ok (.ireturn, 1) := by decide +kernel
theorem dX8_end_17 : decode cX8_end 17 = .ok (.aload_n 0, 1) := by decide +kernel
theorem dX8_end_18 : decode cX8_end 18 = .ok (.getfield 40, 3) := by decide +kernel
theorem dX8_end_21 : decode cX8_end 21 = .ok (.iload_n 1, 1) := by decide +kernel
theorem dX8_end_22 : decode cX8_end 22 = .ok (.putfield 104, 3) := by decide +kernel
theorem dX8_end_25 : decode cX8_end 25 = .ok (.iload_n 1, 1) := by decide +kernel
theorem dX8_end_26 : decode cX8_end 26 = .ok (.ireturn, 1) := by decide +kernel
theorem dX8_rules_0 : decode cX8_rules 0 = .ok (.aload_n 0, 1) := by decide +kernel
theorem dX8_rules_1 : decode cX8_rules 1 = .ok (.getfield 40, 3) := by decide +kernel
theorem dX8_rules_4 : decode cX8_rules 4 = .ok (.aload_n 0, 1) := by decide +kernel
theorem dX8_rules_5 : decode cX8_rules 5 = .ok (.getfield 51, 3) := by decide +kernel
theorem dX8_rules_8 : decode cX8_rules 8 = .ok (.invokevirtual 111, 3) := by decide +kernel
theorem dX8_rules_11 : decode cX8_rules 11 = .ok (.aload_n 0, 1) := by decide +kernel
theorem dX8_rules_12 : decode cX8_rules 12 = .ok (.getfield 40, 3) := by decide +kernel
theorem dX8_rules_15 : decode cX8_rules 15 = .ok (.iconst 0, 1) := by decide +kernel
theorem dX8_rules_16 : decode cX8_rules 16 = .ok (.putfield 104, 3) := by decide +kernel
theorem dX8_rules_19 : decode cX8_rules 19 = .ok (.aload_n 0, 1) := by decide +kernel
theorem dX8_rules_20 : decode cX8_rules 20 = .ok (.getfield 40, 3) := by decide +kernel
theorem dX8_rules_23 : decode cX8_rules 23 = .ok (.getfield 115, 3) := by decide +kernel
theorem dX8_rules_26 : decode cX8_rules 26 = .ok (.ifCond .eq 14, 3) := by decide +kernel
theorem dX8_rules_29 : decode cX8_rules 29 = .ok (.aload_n 0, 1) := by decide +kernel
theorem dX8_rules_30 : decode cX8_rules 30 = .ok (.getfield 40, 3) := by decide +kernel
theorem dX8_rules_33 : decode cX8_rules 33 = .ok (.getfield 115, 3) := by decide +kernel
theorem dX8_rules_36 : decode cX8_rules 36 = .ok (.ineg, 1) := by decide +kernel
theorem dX8_rules_37 : decode cX8_rules 37 = .ok (.iconst 1, 1) := by decide +kernel
theorem dX8_rules_38 : decode cX8_rules 38 = .ok (.isub, 1) := by decide +kernel
theorem dX8_rules_39 : decode cX8_rules 39 = .ok (.ireturn, 1) := by decide +kernel
theorem dX8_rules_40 : decode cX8_rules 40 = .ok (.aload_n 0, 1) := by decide +kernel
theorem dX8_rules_41 : decode cX8_rules 41 = .ok (.getfield 47, 3) := by decide +kernel
theorem dX8_rules_44 : decode cX8_rules 44 = .ok (.astore_n 1, 1) := by decide +kernel
theorem dX8_rules_45 : decode cX8_rules 45 = .ok (.aload_n 0, 1) := by decide +kernel
theorem dX8_rules_46 : decode cX8_rules 46 = .ok (.aload_n 0, 1) := by decide +kernel
theorem dX8_rules_47 : decode cX8_rules 47 = .ok (.getfield 51, 3) := by decide +kernel
theorem dX8_rules_50 : decode cX8_rules 50 = .ok (.putfield 47, 3) := by decide +kernel
theorem dX8_rules_53 : decode cX8_rules 53 = .ok (.aload_n 0, 1) := by decide +kernel
theorem dX8_rules_54 : decode cX8_rules 54 = .ok (.aload_n 1, 1) := by decide +kernel
theorem dX8_rules_55 : decode cX8_rules 55 = .ok (.putfield 51, 3) := by decide +kernel
theorem dX8_rules_58 : decode cX8_rules 58 = .ok (.aload_n 0, 1) := by decide +kernel
theorem dX8_rules_59 : decode cX8_rules 59 = .ok (.getfield 47, 3) := by decide +kernel
theorem dX8_rules_62 : decode cX8_rules 62 = .ok (.getfield 118, 3) := by decide +kernel
theorem dX8_rules_65 : decode cX8_rules 65 = .ok (.ireturn, 1) := by decide +kernel
theorem dX8_place_0 : decode cX8_place 0 = .ok (.aload_n 0, 1) := by decide +kernel
theorem dX8_place_1 : decode cX8_place 1 = .ok (.getfield 40, 3) := by decide +kernel
theorem dX8_place_4 : decode cX8_place 4 = .ok (.getfield 121, 3) := by decide +kernel
theorem dX8_place_7 : decode cX8_place 7 = .ok (.ireturn, 1) := by decide +kernel
theorem dX8_worth_0 : decode cX8_worth 0 = .ok (.aload_n 0, 1) := by decide +kernel
theorem dX8_worth_1 : decode cX8_worth 1 = .ok (.iload_n 1, 1) := by decide +kernel
theorem dX8_worth_2 : decode cX8_worth 2 = .ok (.invokevirtual 84, 3) := by decide +kernel
theorem dX8_worth_5 : decode cX8_worth 5 = .ok (.astore_n 3, 1) := by decide +kernel
theorem dX8_worth_6 : decode cX8_worth 6 = .ok (.aload_n 3, 1) := by decide +kernel
theorem dX8_worth_7 : decode cX8_worth 7 = .ok (.ifnull 10, 3) := by decide +kernel
theorem dX8_worth_10 : decode cX8_worth 10 = .ok (.iload_n 2, 1) := by decide +kernel
theorem dX8_worth_11 : decode cX8_worth 11 = .ok (.invokestatic 92, 3) := by decide +kernel
theorem dX8_worth_14 : decode cX8_worth 14 = .ok (.ifCond .ne 5, 3) := by decide +kernel
theorem dX8_worth_17 : decode cX8_worth 17 = .ok (.iconst (-1), 1) := by decide +kernel
theorem dX8_worth_18 : decode cX8_worth 18 = .ok (.ireturn, 1) := by decide +kernel
theorem dX8_worth_19 : decode cX8_worth 19 = .ok (.aload_n 0, 1) := by decide +kernel
theorem dX8_worth_20 : decode cX8_worth 20 = .ok (.getfield 47, 3) := by decide +kernel
theorem dX8_worth_23 : decode cX8_worth 23 = .ok (.aload_n 3, 1) := by decide +kernel
theorem dX8_worth_24 : decode cX8_worth 24 = .ok (.getfield 124, 3) := by decide +kernel
theorem dX8_worth_27 : decode cX8_worth 27 = .ok (.iload_n 2, 1) := by decide +kernel
theorem dX8_worth_28 : decode cX8_worth 28 = .ok (.iload_n 2, 1) := by decide +kernel
theorem dX8_worth_29 : decode cX8_worth 29 = .ok (.aload_n 0, 1) := by decide +kernel
theorem dX8_worth_30 : decode cX8_worth 30 = .ok (.getfield 57, 3) := by decide +kernel
theorem dX8_worth_33 : decode cX8_worth 33 = .ok (.isub, 1) := by decide +kernel
theorem dX8_worth_34 : decode cX8_worth 34 = .ok (.invokevirtual 127, 3) := by decide +kernel
theorem dX8_worth_37 : decode cX8_worth 37 = .ok (.ireturn, 1) := by decide +kernel
theorem dX8_give_0 : decode cX8_give 0 = .ok (.aload_n 0, 1) := by decide +kernel
theorem dX8_give_1 : decode cX8_give 1 = .ok (.iload_n 1, 1) := by decide +kernel
theorem dX8_give_2 : decode cX8_give 2 = .ok (.invokevirtual 88, 3) := by decide +kernel
theorem dX8_give_5 : decode cX8_give 5 = .ok (.astore 4, 2) := by decide +kernel
theorem dX8_give_7 : decode cX8_give 7 = .ok (.aload_n 0, 1) := by decide +kernel
theorem dX8_give_8 : decode cX8_give 8 = .ok (.iload_n 2, 1) := by decide +kernel
theorem dX8_give_9 : decode cX8_give 9 = .ok (.invokevirtual 84, 3) := by decide +kernel
theorem dX8_give_12 : decode cX8_give 12 = .ok (.astore 5, 2) := by decide +kernel
theorem dX8_give_14 : decode cX8_give 14 = .ok (.aload 4, 2) := by decide +kernel
theorem dX8_give_16 : decode cX8_give 16 = .ok (.ifnull 15, 3) := by decide +kernel
theorem dX8_give_19 : decode cX8_give 19 = .ok (.aload 5, 2) := by decide +kernel
theorem dX8_give_21 : decode cX8_give 21 = .ok (.ifnull 10, 3) := by decide +kernel
theorem dX8_give_24 : decode cX8_give 24 = .ok (.iload_n 3, 1) := by decide +kernel
theorem dX8_give_25 : decode cX8_give 25 = .ok (.invokestatic 92, 3) := by decide +kernel
theorem dX8_give_28 : decode cX8_give 28 = .ok (.ifCond .ne 5, 3) := by decide +kernel
theorem dX8_give_31 : decode cX8_give 31 = .ok (.iconst (-1), 1) := by decide +kernel
theorem dX8_give_32 : decode cX8_give 32 = .ok (.ireturn, 1) := by decide +kernel
theorem dX8_give_33 : decode cX8_give 33 = .ok (.aload 5, 2) := by decide +kernel
theorem dX8_give_35 : decode cX8_give 35 = .ok (.getfield 131, 3) := by decide +kernel
theorem dX8_give_38 : decode cX8_give 38 = .ok (.iload_n 3, 1) := by decide +kernel
theorem dX8_give_39 : decode cX8_give 39 = .ok (.aaload, 1) := by decide +kernel
theorem dX8_give_40 : decode cX8_give 40 = .ok (.aload 4, 2) := by decide +kernel
theorem dX8_give_42 : decode cX8_give 42 = .ok (.if_acmp .eq 6, 3) := by decide +kernel
theorem dX8_give_45 : decode cX8_give 45 = .ok (.bipush (-2), 2) := by decide +kernel
theorem dX8_give_47 : decode cX8_give 47 = .ok (.ireturn, 1) := by decide +kernel
theorem dX8_give_48 : decode cX8_give 48 = .ok (.iload_n 3, 1) := by decide +kernel
theorem dX8_give_49 : decode cX8_give 49 = .ok (.aload_n 0, 1) := by decide +kernel
theorem dX8_give_50 : decode cX8_give 50 = .ok (.getfield 57, 3) := by decide +kernel
theorem dX8_give_53 : decode cX8_give 53 = .ok (.if_icmp .gt 6, 3) := by decide +kernel
theorem dX8_give_56 : decode cX8_give 56 = .ok (.bipush (-3), 2) := by decide +kernel
theorem dX8_give_58 : decode cX8_give 58 = .ok (.ireturn, 1) := by decide +kernel
theorem dX8_give_59 : decode cX8_give 59 = .ok (.aload 5, 2) := by decide +kernel
theorem dX8_give_61 : decode cX8_give 61 = .ok (.getfield 132, 3) := by decide +kernel
theorem dX8_give_64 : decode cX8_give 64 = .ok (.iload_n 3, 1) := by decide +kernel
theorem dX8_give_65 : decode cX8_give 65 = .ok (.baload, 1) := by decide +kernel
theorem dX8_give_66 : decode cX8_give 66 = .ok (.ifCond .eq 6, 3) := by decide +kernel
theorem dX8_give_69 : decode cX8_give 69 = .ok (.bipush (-4), 2) := by decide +kernel
theorem dX8_give_71 : decode cX8_give 71 = .ok (.ireturn, 1) := by decide +kernel
theorem dX8_give_72 : decode cX8_give 72 = .ok (.aload 5, 2) := by decide +kernel
theorem dX8_give_74 : decode cX8_give 74 = .ok (.getfield 95, 3) := by decide +kernel
theorem dX8_give_77 : decode cX8_give 77 = .ok (.iload_n 3, 1) := by decide +kernel
theorem dX8_give_78 : decode cX8_give 78 = .ok (.aaload, 1) := by decide +kernel
theorem dX8_give_79 : decode cX8_give 79 = .ok (.astore 6, 2) := by decide +kernel
theorem dX8_give_81 : decode cX8_give 81 = .ok (.aload 6, 2) := by decide +kernel
theorem dX8_give_83 : decode cX8_give 83 = .ok (.ifnull 15, 3) := by decide +kernel
theorem dX8_give_86 : decode cX8_give 86 = .ok (.aload 6, 2) := by decide +kernel
theorem dX8_give_88 : decode cX8_give 88 = .ok (.getfield 136, 3) := by decide +kernel
theorem dX8_give_91 : decode cX8_give 91 = .ok (.iconst 4, 1) := by decide +kernel
theorem dX8_give_92 : decode cX8_give 92 = .ok (.if_icmp .eq 6, 3) := by decide +kernel
theorem dX8_give_95 : decode cX8_give 95 = .ok (.bipush (-5), 2) := by decide +kernel
theorem dX8_give_97 : decode cX8_give 97 = .ok (.ireturn, 1) := by decide +kernel
theorem dX8_give_98 : decode cX8_give 98 = .ok (.aload_n 0, 1) := by decide +kernel
theorem dX8_give_99 : decode cX8_give 99 = .ok (.getfield 34, 3) := by decide +kernel
theorem dX8_give_102 : decode cX8_give 102 = .ok (.sipush 200, 3) := by decide +kernel
theorem dX8_give_105 : decode cX8_give 105 = .ok (.if_icmp .ge 13, 3) := by decide +kernel
theorem dX8_give_108 : decode cX8_give 108 = .ok (.aload_n 0, 1) := by decide +kernel
theorem dX8_give_109 : decode cX8_give 109 = .ok (.iconst 0, 1) := by decide +kernel
theorem dX8_give_110 : decode cX8_give 110 = .ok (.invokevirtual 139, 3) := by decide +kernel
theorem dX8_give_113 : decode cX8_give 113 = .ok (.bipush 9, 2) := by decide +kernel
theorem dX8_give_115 : decode cX8_give 115 = .ok (.if_icmp .lt 6, 3) := by decide +kernel
theorem dX8_give_118 : decode cX8_give 118 = .ok (.bipush (-6), 2) := by decide +kernel
theorem dX8_give_120 : decode cX8_give 120 = .ok (.ireturn, 1) := by decide +kernel
theorem dX8_give_121 : decode cX8_give 121 = .ok (.aload_n 0, 1) := by decide +kernel
theorem dX8_give_122 : decode cX8_give 122 = .ok (.aload 4, 2) := by decide +kernel
theorem dX8_give_124 : decode cX8_give 124 = .ok (.aload 5, 2) := by decide +kernel
theorem dX8_give_126 : decode cX8_give 126 = .ok (.iload_n 3, 1) := by decide +kernel
theorem dX8_give_127 : decode cX8_give 127 = .ok (.invokevirtual 143, 3) := by decide +kernel
theorem dX8_give_130 : decode cX8_give 130 = .ok (.ireturn, 1) := by decide +kernel
theorem dX8_wish_0 : decode cX8_wish 0 = .ok (.aload_n 0, 1) := by decide +kernel
theorem dX8_wish_1 : decode cX8_wish 1 = .ok (.iload_n 1, 1) := by decide +kernel
theorem dX8_wish_2 : decode cX8_wish 2 = .ok (.iconst 0, 1) := by decide +kernel
theorem dX8_wish_3 : decode cX8_wish 3 = .ok (.invokevirtual 147, 3) := by decide +kernel
theorem dX8_wish_6 : decode cX8_wish 6 = .ok (.astore 6, 2) := by decide +kernel
theorem dX8_wish_8 : decode cX8_wish 8 = .ok (.aload 6, 2) := by decide +kernel
theorem dX8_wish_10 : decode cX8_wish 10 = .ok (.ifnull 15, 3) := by decide +kernel
theorem dX8_wish_13 : decode cX8_wish 13 = .ok (.iload_n 2, 1) := by decide +kernel
theorem dX8_wish_14 : decode cX8_wish 14 = .ok (.iload_n 3, 1) := by decide +kernel
theorem dX8_wish_15 : decode cX8_wish 15 = .ok (.iload 4, 2) := by decide +kernel
theorem dX8_wish_17 : decode cX8_wish 17 = .ok (.iload 5, 2) := by decide +kernel
theorem dX8_wish_19 : decode cX8_wish 19 = .ok (.invokestatic 151, 3) := by decide +kernel
theorem dX8_wish_22 : decode cX8_wish 22 = .ok (.ifCond .ne 5, 3) := by decide +kernel
theorem dX8_wish_25 : decode cX8_wish 25 = .ok (.iconst 0, 1) := by decide +kernel
theorem dX8_wish_26 : decode cX8_wish 26 = .ok (.ireturn, 1) := by decide +kernel
theorem dX8_wish_27 : decode cX8_wish 27 = .ok (.aload 6, 2) := by decide +kernel
theorem dX8_wish_29 : decode cX8_wish 29 = .ok (.new 155, 3) := by decide +kernel
theorem dX8_wish_32 : decode cX8_wish 32 = .ok (.dup, 1) := by decide +kernel
theorem dX8_wish_33 : decode cX8_wish 33 = .ok (.iload_n 2, 1) := by decide +kernel
theorem dX8_wish_34 : decode cX8_wish 34 = .ok (.iload_n 3, 1) := by decide +kernel
theorem dX8_wish_35 : decode cX8_wish 35 = .ok (.iload 4, 2) := by decide +kernel
theorem dX8_wish_37 : decode cX8_wish 37 = .ok (.iload 5, 2) := by decide +kernel
theorem dX8_wish_39 : decode cX8_wish 39 = .ok (.invokespecial 157, 3) := by decide +kernel
theorem dX8_wish_42 : decode cX8_wish 42 = .ok (.putfield 160, 3) := by decide +kernel
theorem dX8_wish_45 : decode cX8_wish 45 = .ok (.iconst 1, 1) := by decide +kernel
theorem dX8_wish_46 : decode cX8_wish 46 = .ok (.ireturn, 1) := by decide +kernel
theorem dX8_rushWish_0 : decode cX8_rushWish 0 = .ok (.aload_n 0, 1) := by decide +kernel
theorem dX8_rushWish_1 : decode cX8_rushWish 1 = .ok (.iload_n 1, 1) := by decide +kernel
theorem dX8_rushWish_2 : decode cX8_rushWish 2 = .ok (.invokevirtual 88, 3) := by decide +kernel
theorem dX8_rushWish_5 : decode cX8_rushWish 5 = .ok (.astore 6, 2) := by decide +kernel
theorem dX8_rushWish_7 : decode cX8_rushWish 7 = .ok (.aload 6, 2) := by decide +kernel
theorem dX8_rushWish_9 : decode cX8_rushWish 9 = .ok (.ifnull 15, 3) := by decide +kernel
theorem dX8_rushWish_12 : decode cX8_rushWish 12 = .ok (.iload_n 2, 1) := by decide +kernel
theorem dX8_rushWish_13 : decode cX8_rushWish 13 = .ok (.iload_n 3, 1) := by decide +kernel
theorem dX8_rushWish_14 : decode cX8_rushWish 14 = .ok (.iload 4, 2) := by decide +kernel
theorem dX8_rushWish_16 : decode cX8_rushWish 16 = .ok (.iload 5, 2) := by decide +kernel
theorem dX8_rushWish_18 : decode cX8_rushWish 18 = .ok (.invokestatic 151, 3) := by decide +kernel
theorem dX8_rushWish_21 : decode cX8_rushWish 21 = .ok (.ifCond .ne 5, 3) := by decide +kernel
theorem dX8_rushWish_24 : decode cX8_rushWish 24 = .ok (.iconst 0, 1) := by decide +kernel
theorem dX8_rushWish_25 : decode cX8_rushWish 25 = .ok (.ireturn, 1) := by decide +kernel
theorem dX8_rushWish_26 : decode cX8_rushWish 26 = .ok (.aload 6, 2) := by decide +kernel
theorem dX8_rushWish_28 : decode cX8_rushWish 28 = .ok (.new 155, 3) := by decide +kernel
theorem dX8_rushWish_31 : decode cX8_rushWish 31 = .ok (.dup, 1) := by decide +kernel
theorem dX8_rushWish_32 : decode cX8_rushWish 32 = .ok (.iload_n 2, 1) := by decide +kernel
theorem dX8_rushWish_33 : decode cX8_rushWish 33 = .ok (.iload_n 3, 1) := by decide +kernel
theorem dX8_rushWish_34 : decode cX8_rushWish 34 = .ok (.iload 4, 2) := by decide +kernel
theorem dX8_rushWish_36 : decode cX8_rushWish 36 = .ok (.iload 5, 2) := by decide +kernel
theorem dX8_rushWish_38 : decode cX8_rushWish 38 = .ok (.invokespecial 157, 3) := by decide +kernel
theorem dX8_rushWish_41 : decode cX8_rushWish 41 = .ok (.putfield 164, 3) := by decide +kernel
theorem dX8_rushWish_44 : decode cX8_rushWish 44 = .ok (.iconst 1, 1) := by decide +kernel
theorem dX8_rushWish_45 : decode cX8_rushWish 45 = .ok (.ireturn, 1) := by decide +kernel
theorem dX8_rings_0 : decode cX8_rings 0 = .ok (.iload_n 1, 1) := by decide +kernel
theorem dX8_rings_1 : decode cX8_rings 1 = .ok (.iconst 2, 1) := by decide +kernel
theorem dX8_rings_2 : decode cX8_rings 2 = .ok (.if_icmp .lt 9, 3) := by decide +kernel
theorem dX8_rings_5 : decode cX8_rings 5 = .ok (.iload_n 1, 1) := by decide +kernel
theorem dX8_rings_6 : decode cX8_rings 6 = .ok (.bipush 9, 2) := by decide +kernel
theorem dX8_rings_8 : decode cX8_rings 8 = .ok (.if_icmp .le 5, 3) := by decide +kernel
theorem dX8_rings_11 : decode cX8_rings 11 = .ok (.iconst (-1), 1) := by decide +kernel
theorem dX8_rings_12 : decode cX8_rings 12 = .ok (.ireturn, 1) := by decide +kernel
theorem dX8_rings_13 : decode cX8_rings 13 = .ok (.aload_n 0, 1) := by decide +kernel
theorem dX8_rings_14 : decode cX8_rings 14 = .ok (.getfield 63, 3) := by decide +kernel
theorem dX8_rings_17 : decode cX8_rings 17 = .ok (.invokevirtual 165, 3) := by decide +kernel
theorem dX8_rings_20 : decode cX8_rings 20 = .ok (.iconst 0, 1) := by decide +kernel
theorem dX8_rings_21 : decode cX8_rings 21 = .ok (.istore_n 2, 1) := by decide +kernel
theorem dX8_rings_22 : decode cX8_rings 22 = .ok (.iload_n 2, 1) := by decide +kernel
theorem dX8_rings_23 : decode cX8_rings 23 = .ok (.aload_n 0, 1) := by decide +kernel
theorem dX8_rings_24 : decode cX8_rings 24 = .ok (.getfield 34, 3) := by decide +kernel
theorem dX8_rings_27 : decode cX8_rings 27 = .ok (.if_icmp .ge 46, 3) := by decide +kernel
theorem dX8_rings_30 : decode cX8_rings 30 = .ok (.aload_n 0, 1) := by decide +kernel
theorem dX8_rings_31 : decode cX8_rings 31 = .ok (.getfield 30, 3) := by decide +kernel
theorem dX8_rings_34 : decode cX8_rings 34 = .ok (.iload_n 2, 1) := by decide +kernel
theorem dX8_rings_35 : decode cX8_rings 35 = .ok (.aaload, 1) := by decide +kernel
theorem dX8_rings_36 : decode cX8_rings 36 = .ok (.getfield 136, 3) := by decide +kernel
theorem dX8_rings_39 : decode cX8_rings 39 = .ok (.ifCond .ne 28, 3) := by decide +kernel
theorem dX8_rings_42 : decode cX8_rings 42 = .ok (.aload_n 0, 1) := by decide +kernel
theorem dX8_rings_43 : decode cX8_rings 43 = .ok (.getfield 30, 3) := by decide +kernel
theorem dX8_rings_46 : decode cX8_rings 46 = .ok (.iload_n 2, 1) := by decide +kernel
theorem dX8_rings_47 : decode cX8_rings 47 = .ok (.aaload, 1) := by decide +kernel
theorem dX8_rings_48 : decode cX8_rings 48 = .ok (.getfield 160, 3) := by decide +kernel
theorem dX8_rings_51 : decode cX8_rings 51 = .ok (.ifnull 16, 3) := by decide +kernel
