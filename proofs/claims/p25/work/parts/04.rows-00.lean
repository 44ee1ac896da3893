theorem dX0_init_0 : decode cX0_init 0 = .ok (.aload_n 0, 1) := by decide +kernel
theorem dX0_init_1 : decode cX0_init 1 = .ok (.invokespecial 3, 3) := by decide +kernel
theorem dX0_init_4 : decode cX0_init 4 = .ok (.aload_n 0, 1) := by decide +kernel
theorem dX0_init_5 : decode cX0_init 5 = .ok (.bipush 10, 2) := by decide +kernel
theorem dX0_init_7 : decode cX0_init 7 = .ok (.newarray .int, 2) := by decide +kernel
theorem dX0_init_9 : decode cX0_init 9 = .ok (.putfield 9, 3) := by decide +kernel
theorem dX0_init_12 : decode cX0_init 12 = .ok (.aload_n 0, 1) := by decide +kernel
theorem dX0_init_13 : decode cX0_init 13 = .ok (.bipush 10, 2) := by decide +kernel
theorem dX0_init_15 : decode cX0_init 15 = .ok (.newarray .int, 2) := by decide +kernel
theorem dX0_init_17 : decode cX0_init 17 = .ok (.putfield 15, 3) := by decide +kernel
theorem dX0_init_20 : decode cX0_init 20 = .ok (.aload_n 0, 1) := by decide +kernel
theorem dX0_init_21 : decode cX0_init 21 = .ok (.bipush 10, 2) := by decide +kernel
theorem dX0_init_23 : decode cX0_init 23 = .ok (.newarray .boolean, 2) := by decide +kernel
theorem dX0_init_25 : decode cX0_init 25 = .ok (.putfield 18, 3) := by decide +kernel
theorem dX0_init_28 : decode cX0_init 28 = .ok (.aload_n 0, 1) := by decide +kernel
theorem dX0_init_29 : decode cX0_init 29 = .ok (.iconst 0, 1) := by decide +kernel
theorem dX0_init_30 : decode cX0_init 30 = .ok (.putfield 22, 3) := by decide +kernel
theorem dX0_init_33 : decode cX0_init 33 = .ok (.aload_n 0, 1) := by decide +kernel
theorem dX0_init_34 : decode cX0_init 34 = .ok (.iconst 0, 1) := by decide +kernel
theorem dX0_init_35 : decode cX0_init 35 = .ok (.putfield 26, 3) := by decide +kernel
theorem dX0_init_38 : decode cX0_init 38 = .ok (.aload_n 0, 1) := by decide +kernel
theorem dX0_init_39 : decode cX0_init 39 = .ok (.iconst 0, 1) := by decide +kernel
theorem dX0_init_40 : decode cX0_init 40 = .ok (.putfield 29, 3) := by decide +kernel
theorem dX0_init_43 : decode cX0_init 43 = .ok (.return_, 1) := by decide +kernel
theorem dX0_clear_0 : decode cX0_clear 0 = .ok (.aload_n 0, 1) := by decide +kernel
theorem dX0_clear_1 : decode cX0_clear 1 = .ok (.iconst 0, 1) := by decide +kernel
theorem dX0_clear_2 : decode cX0_clear 2 = .ok (.putfield 22, 3) := by decide +kernel
theorem dX0_clear_5 : decode cX0_clear 5 = .ok (.aload_n 0, 1) := by decide +kernel
theorem dX0_clear_6 : decode cX0_clear 6 = .ok (.iconst 0, 1) := by decide +kernel
theorem dX0_clear_7 : decode cX0_clear 7 = .ok (.putfield 26, 3) := by decide +kernel
theorem dX0_clear_10 : decode cX0_clear 10 = .ok (.aload_n 0, 1) := by decide +kernel
theorem dX0_clear_11 : decode cX0_clear 11 = .ok (.iconst 0, 1) := by decide +kernel
theorem dX0_clear_12 : decode cX0_clear 12 = .ok (.putfield 29, 3) := by decide +kernel
theorem dX0_clear_15 : decode cX0_clear 15 = .ok (.return_, 1) := by decide +kernel
theorem dX0_add_0 : decode cX0_add 0 = .ok (.aload_n 0, 1) := by decide +kernel
theorem dX0_add_1 : decode cX0_add 1 = .ok (.getfield 22, 3) := by decide +kernel
theorem dX0_add_4 : decode cX0_add 4 = .ok (.bipush 10, 2) := by decide +kernel
theorem dX0_add_6 : decode cX0_add 6 = .ok (.if_icmp .ge 43, 3) := by decide +kernel
theorem dX0_add_9 : decode cX0_add 9 = .ok (.aload_n 0, 1) := by decide +kernel
theorem dX0_add_10 : decode cX0_add 10 = .ok (.getfield 9, 3) := by decide +kernel
theorem dX0_add_13 : decode cX0_add 13 = .ok (.aload_n 0, 1) := by decide +kernel
theorem dX0_add_14 : decode cX0_add 14 = .ok (.getfield 22, 3) := by decide +kernel
theorem dX0_add_17 : decode cX0_add 17 = .ok (.iload_n 1, 1) := by decide +kernel
theorem dX0_add_18 : decode cX0_add 18 = .ok (.iastore, 1) := by decide +kernel
theorem dX0_add_19 : decode cX0_add 19 = .ok (.aload_n 0, 1) := by decide +kernel
theorem dX0_add_20 : decode cX0_add 20 = .ok (.getfield 15, 3) := by decide +kernel
theorem dX0_add_23 : decode cX0_add 23 = .ok (.aload_n 0, 1) := by decide +kernel
theorem dX0_add_24 : decode cX0_add 24 = .ok (.getfield 22, 3) := by decide +kernel
theorem dX0_add_27 : decode cX0_add 27 = .ok (.iload_n 2, 1) := by decide +kernel
theorem dX0_add_28 : decode cX0_add 28 = .ok (.iastore, 1) := by decide +kernel
theorem dX0_add_29 : decode cX0_add 29 = .ok (.aload_n 0, 1) := by decide +kernel
theorem dX0_add_30 : decode cX0_add 30 = .ok (.getfield 18, 3) := by decide +kernel
theorem dX0_add_33 : decode cX0_add 33 = .ok (.aload_n 0, 1) := by decide +kernel
theorem dX0_add_34 : decode cX0_add 34 = .ok (.getfield 22, 3) := by decide +kernel
theorem dX0_add_37 : decode cX0_add 37 = .ok (.iconst 0, 1) := by decide +kernel
theorem dX0_add_38 : decode cX0_add 38 = .ok (.bastore, 1) := by decide +kernel
theorem dX0_add_39 : decode cX0_add 39 = .ok (.aload_n 0, 1) := by decide +kernel
theorem dX0_add_40 : decode cX0_add 40 = .ok (.dup, 1) := by decide +kernel
theorem dX0_add_41 : decode cX0_add 41 = .ok (.getfield 22, 3) := by decide +kernel
theorem dX0_add_44 : decode cX0_add 44 = .ok (.iconst 1, 1) := by decide +kernel
theorem dX0_add_45 : decode cX0_add 45 = .ok (.iadd, 1) := by decide +kernel
theorem dX0_add_46 : decode cX0_add 46 = .ok (.putfield 22, 3) := by decide +kernel
theorem dX0_add_49 : decode cX0_add 49 = .ok (.return_, 1) := by decide +kernel
theorem dX0_reckon_0 : decode cX0_reckon 0 = .ok (.iconst 0, 1) := by decide +kernel
theorem dX0_reckon_1 : decode cX0_reckon 1 = .ok (.istore_n 2, 1) := by decide +kernel
theorem dX0_reckon_2 : decode cX0_reckon 2 = .ok (.iload_n 2, 1) := by decide +kernel
theorem dX0_reckon_3 : decode cX0_reckon 3 = .ok (.bipush 10, 2) := by decide +kernel
theorem dX0_reckon_5 : decode cX0_reckon 5 = .ok (.if_icmp .gt 53, 3) := by decide +kernel
theorem dX0_reckon_8 : decode cX0_reckon 8 = .ok (.aload_n 0, 1) := by decide +kernel
theorem dX0_reckon_9 : decode cX0_reckon 9 = .ok (.invokevirtual 32, 3) := by decide +kernel
theorem dX0_reckon_12 : decode cX0_reckon 12 = .ok (.istore_n 3, 1) := by decide +kernel
theorem dX0_reckon_13 : decode cX0_reckon 13 = .ok (.iload_n 3, 1) := by decide +kernel
theorem dX0_reckon_14 : decode cX0_reckon 14 = .ok (.ifCond .gt 9, 3) := by decide +kernel
theorem dX0_reckon_17 : decode cX0_reckon 17 = .ok (.aload_n 0, 1) := by decide +kernel
theorem dX0_reckon_18 : decode cX0_reckon 18 = .ok (.iconst 0, 1) := by decide +kernel
theorem dX0_reckon_19 : decode cX0_reckon 19 = .ok (.putfield 26, 3) := by decide +kernel
theorem dX0_reckon_22 : decode cX0_reckon 22 = .ok (.return_, 1) := by decide +kernel
theorem dX0_reckon_23 : decode cX0_reckon 23 = .ok (.aload_n 0, 1) := by decide +kernel
theorem dX0_reckon_24 : decode cX0_reckon 24 = .ok (.iload_n 1, 1) := by decide +kernel
theorem dX0_reckon_25 : decode cX0_reckon 25 = .ok (.iload_n 3, 1) := by decide +kernel
theorem dX0_reckon_26 : decode cX0_reckon 26 = .ok (.iadd, 1) := by decide +kernel
theorem dX0_reckon_27 : decode cX0_reckon 27 = .ok (.iconst 1, 1) := by decide +kernel
theorem dX0_reckon_28 : decode cX0_reckon 28 = .ok (.isub, 1) := by decide +kernel
theorem dX0_reckon_29 : decode cX0_reckon 29 = .ok (.iload_n 3, 1) := by decide +kernel
theorem dX0_reckon_30 : decode cX0_reckon 30 = .ok (.idiv, 1) := by decide +kernel
theorem dX0_reckon_31 : decode cX0_reckon 31 = .ok (.putfield 26, 3) := by decide +kernel
theorem dX0_reckon_34 : decode cX0_reckon 34 = .ok (.aload_n 0, 1) := by decide +kernel
theorem dX0_reckon_35 : decode cX0_reckon 35 = .ok (.invokevirtual 36, 3) := by decide +kernel
theorem dX0_reckon_38 : decode cX0_reckon 38 = .ok (.ifCond .ne 4, 3) := by decide +kernel
theorem dX0_reckon_41 : decode cX0_reckon 41 = .ok (.return_, 1) := by decide +kernel
theorem dX0_reckon_42 : decode cX0_reckon 42 = .ok (.aload_n 0, 1) := by decide +kernel
theorem dX0_reckon_43 : decode cX0_reckon 43 = .ok (.dup, 1) := by decide +kernel
theorem dX0_reckon_44 : decode cX0_reckon 44 = .ok (.getfield 29, 3) := by decide +kernel
theorem dX0_reckon_47 : decode cX0_reckon 47 = .ok (.iconst 1, 1) := by decide +kernel
theorem dX0_reckon_48 : decode cX0_reckon 48 = .ok (.iadd, 1) := by decide +kernel
theorem dX0_reckon_49 : decode cX0_reckon 49 = .ok (.putfield 29, 3) := by decide +kernel
theorem dX0_reckon_52 : decode cX0_reckon 52 = .ok (.iinc 2 1, 3) := by decide +kernel
theorem dX0_reckon_55 : decode cX0_reckon 55 = .ok (.goto (-53), 3) := by decide +kernel
theorem dX0_reckon_58 : decode cX0_reckon 58 = .ok (.return_, 1) := by decide +kernel
theorem dX0_countStaying_0 : decode cX0_countStaying 0 = .ok (.iconst 0, 1) := by decide +kernel
theorem dX0_countStaying_1 : decode cX0_countStaying 1 = .ok (.istore_n 1, 1) := by decide +kernel
theorem dX0_countStaying_2 : decode cX0_countStaying 2 = .ok (.iconst 0, 1) := by decide +kernel
theorem dX0_countStaying_3 : decode cX0_countStaying 3 = .ok (.istore_n 2, 1) := by decide +kernel
theorem dX0_countStaying_4 : decode cX0_countStaying 4 = .ok (.iload_n 2, 1) := by decide +kernel
theorem dX0_countStaying_5 : decode cX0_countStaying 5 = .ok (.aload_n 0, 1) := by decide +kernel
theorem dX0_countStaying_6 : decode cX0_countStaying 6 = .ok (.getfield 22, 3) := by decide +kernel
theorem dX0_countStaying_9 : decode cX0_countStaying 9 = .ok (.if_icmp .ge 30, 3) := by decide +kernel
theorem dX0_countStaying_12 : decode cX0_countStaying 12 = .ok (.aload_n 0, 1) := by decide +kernel
theorem dX0_countStaying_13 : decode cX0_countStaying 13 = .ok (.getfield 18, 3) := by decide +kernel
theorem dX0_countStaying_16 : decode cX0_countStaying 16 = .ok (.iload_n 2, 1) := by decide +kernel
theorem dX0_countStaying_17 : decode cX0_countStaying 17 = .ok (.baload, 1) := by decide +kernel
theorem dX0_countStaying_18 : decode cX0_countStaying 18 = .ok (.ifCond .ne 15, 3) := by decide +kernel
theorem dX0_countStaying_21 : decode cX0_countStaying 21 = .ok (.aload_n 0, 1) := by decide +kernel
theorem dX0_countStaying_22 : decode cX0_countStaying 22 = .ok (.getfield 15, 3) := by decide +kernel
theorem dX0_countStaying_25 : decode cX0_countStaying 25 = .ok (.iload_n 2, 1) := by decide +kernel
theorem dX0_countStaying_26 : decode cX0_countStaying 26 = .ok (.iaload, 1) := by decide +kernel
theorem dX0_countStaying_27 : decode cX0_countStaying 27 = .ok (.ifCond .le 6, 3) := by decide +kernel
theorem dX0_countStaying_30 : decode cX0_countStaying 30 = .ok (.iinc 1 1, 3) := by decide +kernel
theorem dX0_countStaying_33 : decode cX0_countStaying 33 = .ok (.iinc 2 1, 3) := by decide +kernel
theorem dX0_countStaying_36 : decode cX0_countStaying 36 = .ok (.goto (-32), 3) := by decide +kernel
theorem dX0_countStaying_39 : decode cX0_countStaying 39 = .ok (.iload_n 1, 1) := by decide +kernel
theorem dX0_countStaying_40 : decode cX0_countStaying 40 = .ok (.ireturn, 1) := by decide +kernel
theorem dX0_countOwned_0 : decode cX0_countOwned 0 = .ok (.iconst 0, 1) := by decide +kernel
theorem dX0_countOwned_1 : decode cX0_countOwned 1 = .ok (.istore_n 1, 1) := by decide +kernel
theorem dX0_countOwned_2 : decode cX0_countOwned 2 = .ok (.iconst 0, 1) := by decide +kernel
theorem dX0_countOwned_3 : decode cX0_countOwned 3 = .ok (.istore_n 2, 1) := by decide +kernel
theorem dX0_countOwned_4 : decode cX0_countOwned 4 = .ok (.iload_n 2, 1) := by decide +kernel
theorem dX0_countOwned_5 : decode cX0_countOwned 5 = .ok (.aload_n 0, 1) := by decide +kernel
theorem dX0_countOwned_6 : decode cX0_countOwned 6 = .ok (.getfield 22, 3) := by decide +kernel
theorem dX0_countOwned_9 : decode cX0_countOwned 9 = .ok (.if_icmp .ge 27, 3) := by decide +kernel
theorem dX0_countOwned_12 : decode cX0_countOwned 12 = .ok (.aload_n 0, 1) := by decide +kernel
theorem dX0_countOwned_13 : decode cX0_countOwned 13 = .ok (.getfield 18, 3) := by decide +kernel
theorem dX0_countOwned_16 : decode cX0_countOwned 16 = .ok (.iload_n 2, 1) := by decide +kernel
theorem dX0_countOwned_17 : decode cX0_countOwned 17 = .ok (.baload, 1) := by decide +kernel
theorem dX0_countOwned_18 : decode cX0_countOwned 18 = .ok (.ifCond .ne 12, 3) := by decide +kernel
theorem dX0_countOwned_21 : decode cX0_countOwned 21 = .ok (.iload_n 1, 1) := by decide +kernel
theorem dX0_countOwned_22 : decode cX0_countOwned 22 = .ok (.aload_n 0, 1) := by decide +kernel
theorem dX0_countOwned_23 : decode cX0_countOwned 23 = .ok (.getfield 15, 3) := by decide +kernel
theorem dX0_countOwned_26 : decode cX0_countOwned 26 = .ok (.iload_n 2, 1) := by decide +kernel
theorem dX0_countOwned_27 : decode cX0_countOwned 27 = .ok (.iaload, 1) := by decide +kernel
theorem dX0_countOwned_28 : decode cX0_countOwned 28 = .ok (.iadd, 1) := by decide +kernel
theorem dX0_countOwned_29 : decode cX0_countOwned 29 = .ok (.istore_n 1, 1) := by decide +kernel
theorem dX0_countOwned_30 : decode cX0_countOwned 30 = .ok (.iinc 2 1, 3) := by decide +kernel
theorem dX0_countOwned_33 : decode cX0_countOwned 33 = .ok (.goto (-29), 3) := by decide +kernel
theorem dX0_countOwned_36 : decode cX0_countOwned 36 = .ok (.iload_n 1, 1) := by decide +kernel
theorem dX0_countOwned_37 : decode cX0_countOwned 37 = .ok (.ireturn, 1) := by decide +kernel
theorem dX0_someLeave_0 : decode cX0_someLeave 0 = .ok (.iconst 0, 1) := by decide +kernel
theorem dX0_someLeave_1 : decode cX0_someLeave 1 = .ok (.istore_n 1, 1) := by decide +kernel
theorem dX0_someLeave_2 : decode cX0_someLeave 2 = .ok (.iconst 0, 1) := by decide +kernel
theorem dX0_someLeave_3 : decode cX0_someLeave 3 = .ok (.istore_n 2, 1) := by decide +kernel
theorem dX0_someLeave_4 : decode cX0_someLeave 4 = .ok (.iload_n 2, 1) := by decide +kernel
theorem dX0_someLeave_5 : decode cX0_someLeave 5 = .ok (.aload_n 0, 1) := by decide +kernel
theorem dX0_someLeave_6 : decode cX0_someLeave 6 = .ok (.getfield 22, 3) := by decide +kernel
theorem dX0_someLeave_9 : decode cX0_someLeave 9 = .ok (.if_icmp .ge 40, 3) := by decide +kernel
theorem dX0_someLeave_12 : decode cX0_someLeave 12 = .ok (.aload_n 0, 1) := by decide +kernel
theorem dX0_someLeave_13 : decode cX0_someLeave 13 = .ok (.getfield 18, 3) := by decide +kernel
theorem dX0_someLeave_16 : decode cX0_someLeave 16 = .ok (.iload_n 2, 1) := by decide +kernel
theorem dX0_someLeave_17 : decode cX0_someLeave 17 = .ok (.baload, 1) := by decide +kernel
theorem dX0_someLeave_18 : decode cX0_someLeave 18 = .ok (.ifCond .ne 25, 3) := by decide +kernel
theorem dX0_someLeave_21 : decode cX0_someLeave 21 = .ok (.aload_n 0, 1) := by decide +kernel
theorem dX0_someLeave_22 : decode cX0_someLeave 22 = .ok (.getfield 9, 3) := by decide +kernel
theorem dX0_someLeave_25 : decode cX0_someLeave 25 = .ok (.iload_n 2, 1) := by decide +kernel
theorem dX0_someLeave_26 : decode cX0_someLeave 26 = .ok (.iaload, 1) := by decide +kernel
theorem dX0_someLeave_27 : decode cX0_someLeave 27 = .ok (.aload_n 0, 1) := by decide +kernel
theorem dX0_someLeave_28 : decode cX0_someLeave 28 = .ok (.getfield 26, 3) := by decide +kernel
theorem dX0_someLeave_31 : decode cX0_someLeave 31 = .ok (.if_icmp .ge 12, 3) := by decide +kernel
theorem dX0_someLeave_34 : decode cX0_someLeave 34 = .ok (.aload_n 0, 1) := by decide +kernel
theorem dX0_someLeave_35 : decode cX0_someLeave 35 = .ok (.getfield 18, 3) := by decide +kernel
theorem dX0_someLeave_38 : decode cX0_someLeave 38 = .ok (.iload_n 2, 1) := by decide +kernel
theorem dX0_someLeave_39 : decode cX0_someLeave 39 = .ok (.iconst 1, 1) := by decide +kernel
theorem dX0_someLeave_40 : decode cX0_someLeave 40 = .ok (.bastore, 1) := by decide +kernel
theorem dX0_someLeave_41 : decode cX0_someLeave 41 = .ok (.iconst 1, 1) := by decide +kernel
theorem dX0_someLeave_42 : decode cX0_someLeave 42 = .ok (.istore_n 1, 1) := by decide +kernel
theorem dX0_someLeave_43 : decode cX0_someLeave 43 = .ok (.iinc 2 1, 3) := by decide +kernel
theorem dX0_someLeave_46 : decode cX0_someLeave 46 = .ok (.goto (-42), 3) := by decide +kernel
theorem dX0_someLeave_49 : decode cX0_someLeave 49 = .ok (.iload_n 1, 1) := by decide +kernel
theorem dX0_someLeave_50 : decode cX0_someLeave 50 = .ok (.ireturn, 1) := by decide +kernel
theorem dX1_init_0 : decode cX1_init 0 = .ok (.aload_n 0, 1) := by decide +kernel
theorem dX1_init_1 : decode cX1_init 1 = .ok (.invokespecial 3, 3) := by decide +kernel
theorem dX1_init_4 : decode cX1_init 4 = .ok (.aload_n 0, 1) := by decide +kernel
theorem dX1_init_5 : decode cX1_init 5 = .ok (.bipush 53, 2) := by decide +kernel
theorem dX1_init_7 : decode cX1_init 7 = .ok (.anewarray 9, 3) := by decide +kernel
theorem dX1_init_10 : decode cX1_init 10 = .ok (.putfield 11, 3) := by decide +kernel
theorem dX1_init_13 : decode cX1_init 13 = .ok (.aload_n 0, 1) := by decide +kernel
theorem dX1_init_14 : decode cX1_init 14 = .ok (.bipush 53, 2) := by decide +kernel
theorem dX1_init_16 : decode cX1_init 16 = .ok (.newarray .boolean, 2) := by decide +kernel
theorem dX1_init_18 : decode cX1_init 18 = .ok (.putfield 17, 3) := by decide +kernel
theorem dX1_init_21 : decode cX1_init 21 = .ok (.aload_n 0, 1) := by decide +kernel
theorem dX1_init_22 : decode cX1_init 22 = .ok (.bipush 53, 2) := by decide +kernel
theorem dX1_init_24 : decode cX1_init 24 = .ok (.anewarray 21, 3) := by decide +kernel
theorem dX1_init_27 : decode cX1_init 27 = .ok (.putfield 23, 3) := by decide +kernel
theorem dX1_init_30 : decode cX1_init 30 = .ok (.aload_n 0, 1) := by decide +kernel
theorem dX1_init_31 : decode cX1_init 31 = .ok (.iload_n 1, 1) := by decide +kernel
theorem dX1_init_32 : decode cX1_init 32 = .ok (.putfield 27, 3) := by decide +kernel
theorem dX1_init_35 : decode cX1_init 35 = .ok (.aload_n 0, 1) := by decide +kernel
theorem dX1_init_36 : decode cX1_init 36 = .ok (.iload_n 2, 1) := by decide +kernel
theorem dX1_init_37 : decode cX1_init 37 = .ok (.putfield 31, 3) := by decide +kernel
theorem dX1_init_40 : decode cX1_init 40 = .ok (.aload_n 0, 1) := by decide +kernel
theorem dX1_init_41 : decode cX1_init 41 = .ok (.iload_n 3, 1) := by decide +kernel
theorem dX1_init_42 : decode cX1_init 42 = .ok (.putfield 34, 3) := by decide +kernel
theorem dX1_init_45 : decode cX1_init 45 = .ok (.return_, 1) := by decide +kernel
theorem dX1_passTo_0 : decode cX1_passTo 0 = .ok (.iload_n 1, 1) := by decide +kernel
theorem dX1_passTo_1 : decode cX1_passTo 1 = .ok (.invokestatic 37, 3) := by decide +kernel
theorem dX1_passTo_4 : decode cX1_passTo 4 = .ok (.ifCond .ne 4, 3) := by decide +kernel
theorem dX1_passTo_7 : decode cX1_passTo 7 = .ok (.return_, 1) := by decide +kernel
theorem dX1_passTo_8 : decode cX1_passTo 8 = .ok (.aload_n 0, 1) := by decide +kernel
theorem dX1_passTo_9 : decode cX1_passTo 9 = .ok (.getfield 11, 3) := by decide +kernel
theorem dX1_passTo_12 : decode cX1_passTo 12 = .ok (.iload_n 1, 1) := by decide +kernel
theorem dX1_passTo_13 : decode cX1_passTo 13 = .ok (.aaload, 1) := by decide +kernel
theorem dX1_passTo_14 : decode cX1_passTo 14 = .ok (.astore_n 3, 1) := by decide +kernel
theorem dX1_passTo_15 : decode cX1_passTo 15 = .ok (.aload_n 3, 1) := by decide +kernel
theorem dX1_passTo_16 : decode cX1_passTo 16 = .ok (.ifnull 13, 3) := by decide +kernel
theorem dX1_passTo_19 : decode cX1_passTo 19 = .ok (.aload_n 3, 1) := by decide +kernel
theorem dX1_passTo_20 : decode cX1_passTo 20 = .ok (.dup, 1) := by decide +kernel
theorem dX1_passTo_21 : decode cX1_passTo 21 = .ok (.getfield 41, 3) := by decide +kernel
theorem dX1_passTo_24 : decode cX1_passTo 24 = .ok (.iconst 1, 1) := by decide +kernel
theorem dX1_passTo_25 : decode cX1_passTo 25 = .ok (.isub, 1) := by decide +kernel
theorem dX1_passTo_26 : decode cX1_passTo 26 = .ok (.putfield 41, 3) := by decide +kernel
theorem dX1_passTo_29 : decode cX1_passTo 29 = .ok (.aload_n 2, 1) := by decide +kernel
theorem dX1_passTo_30 : decode cX1_passTo 30 = .ok (.ifnull 13, 3) := by decide +kernel
theorem dX1_passTo_33 : decode cX1_passTo 33 = .ok (.aload_n 2, 1) := by decide +kernel
theorem dX1_passTo_34 : decode cX1_passTo 34 = .ok (.dup, 1) := by decide +kernel
theorem dX1_passTo_35 : decode cX1_passTo 35 = .ok (.getfield 41, 3) := by decide +kernel
theorem dX1_passTo_38 : decode cX1_passTo 38 = .ok (.iconst 1, 1) := by decide +kernel
theorem dX1_passTo_39 : decode cX1_passTo 39 = .ok (.iadd, 1) := by decide +kernel
theorem dX1_passTo_40 : decode cX1_passTo 40 = .ok (.putfield 41, 3) := by decide +kernel
theorem dX1_passTo_43 : decode cX1_passTo 43 = .ok (.aload_n 0, 1) := by decide +kernel
theorem dX1_passTo_44 : decode cX1_passTo 44 = .ok (.getfield 11, 3) := by decide +kernel
theorem dX1_passTo_47 : decode cX1_passTo 47 = .ok (.iload_n 1, 1) := by decide +kernel
theorem dX1_passTo_48 : decode cX1_passTo 48 = .ok (.aload_n 2, 1) := by decide +kernel
theorem dX1_passTo_49 : decode cX1_passTo 49 = .ok (.aastore, 1) := by decide +kernel
theorem dX1_passTo_50 : decode cX1_passTo 50 = .ok (.return_, 1) := by decide +kernel
theorem dX1_beginYear_0 : decode cX1_beginYear 0 = .ok (.iconst 0, 1) := by decide +kernel
theorem dX1_beginYear_1 : decode cX1_beginYear 1 = .ok (.istore_n 1, 1) := by decide +kernel
theorem dX1_beginYear_2 : decode cX1_beginYear 2 = .ok (.iload_n 1, 1) := by decide +kernel
theorem dX1_beginYear_3 : decode cX1_beginYear 3 = .ok (.bipush 53, 2) := by decide +kernel
theorem dX1_beginYear_5 : decode cX1_beginYear 5 = .ok (.if_icmp .ge 23, 3) := by decide +kernel
theorem dX1_beginYear_8 : decode cX1_beginYear 8 = .ok (.aload_n 0, 1) := by decide +kernel
theorem dX1_beginYear_9 : decode cX1_beginYear 9 = .ok (.getfield 17, 3) := by decide +kernel
theorem dX1_beginYear_12 : decode cX1_beginYear 12 = .ok (.iload_n 1, 1) := by decide +kernel
theorem dX1_beginYear_13 : decode cX1_beginYear 13 = .ok (.iconst 0, 1) := by decide +kernel
theorem dX1_beginYear_14 : decode cX1_beginYear 14 = .ok (.bastore, 1) := by decide +kernel
theorem dX1_beginYear_15 : decode cX1_beginYear 15 = .ok (.aload_n 0, 1) := by decide +kernel
theorem dX1_beginYear_16 : decode cX1_beginYear 16 = .ok (.getfield 23, 3) := by decide +kernel
theorem dX1_beginYear_19 : decode cX1_beginYear 19 = .ok (.iload_n 1, 1) := by decide +kernel
theorem dX1_beginYear_20 : decode cX1_beginYear 20 = .ok (.aconst_null, 1) := by decide +kernel
theorem dX1_beginYear_21 : decode cX1_beginYear 21 = .ok (.aastore, 1) := by decide +kernel
theorem dX1_beginYear_22 : decode cX1_beginYear 22 = .ok (.iinc 1 1, 3) := by decide +kernel
theorem dX1_beginYear_25 : decode cX1_beginYear 25 = .ok (.goto (-23), 3) := by decide +kernel
theorem dX1_beginYear_28 : decode cX1_beginYear 28 = .ok (.return_, 1) := by decide +kernel
theorem dX2_init_0 : decode cX2_init 0 = .ok (.aload_n 0, 1) := by decide +kernel
theorem dX2_init_1 : decode cX2_init 1 = .ok (.invokespecial 3, 3) := by decide +kernel
theorem dX2_init_4 : decode cX2_init 4 = .ok (.aload_n 0, 1) := by decide +kernel
theorem dX2_init_5 : decode cX2_init 5 = .ok (.iconst 0, 1) := by decide +kernel
theorem dX2_init_6 : decode cX2_init 6 = .ok (.putfield 9, 3) := by decide +kernel
theorem dX2_init_9 : decode cX2_init 9 = .ok (.aload_n 0, 1) := by decide +kernel
theorem dX2_init_10 : decode cX2_init 10 = .ok (.iconst 0, 1) := by decide +kernel
theorem dX2_init_11 : decode cX2_init 11 = .ok (.putfield 15, 3) := by decide +kernel
theorem dX2_init_14 : decode cX2_init 14 = .ok (.aload_n 0, 1) := by decide +kernel
theorem dX2_init_15 : decode cX2_init 15 = .ok (.iconst 0, 1) := by decide +kernel
theorem dX2_init_16 : decode cX2_init 16 = .ok (.putfield 18, 3) := by decide +kernel
theorem dX2_init_19 : decode cX2_init 19 = .ok (.aload_n 0, 1) := by decide +kernel
theorem dX2_init_20 : decode cX2_init 20 = .ok (.aconst_null, 1) := by decide +kernel
theorem dX2_init_21 : decode cX2_init 21 = .ok (.putfield 21, 3) := by decide +kernel
theorem dX2_init_24 : decode cX2_init 24 = .ok (.aload_n 0, 1) := by decide +kernel
theorem dX2_init_25 : decode cX2_init 25 = .ok (.aconst_null, 1) := by decide +kernel
theorem dX2_init_26 : decode cX2_init 26 = .ok (.putfield 25, 3) := by decide +kernel
theorem dX2_init_29 : decode cX2_init 29 = .ok (.aload_n 0, 1) := by decide +kernel
theorem dX2_init_30 : decode cX2_init 30 = .ok (.aconst_null, 1) := by decide +kernel
theorem dX2_init_31 : decode cX2_init 31 = .ok (.putfield 29, 3) := by decide +kernel
theorem dX2_init_34 : decode cX2_init 34 = .ok (.aload_n 0, 1) := by decide +kernel
theorem dX2_init_35 : decode cX2_init 35 = .ok (.iload_n 1, 1) := by decide +kernel
theorem dX2_init_36 : decode cX2_init 36 = .ok (.putfield 33, 3) := by decide +kernel
theorem dX2_init_39 : decode cX2_init 39 = .ok (.aload_n 0, 1) := by decide +kernel
theorem dX2_init_40 : decode cX2_init 40 = .ok (.aload_n 2, 1) := by decide +kernel
theorem dX2_init_41 : decode cX2_init 41 = .ok (.putfield 36, 3) := by decide +kernel
theorem dX2_init_44 : decode cX2_init 44 = .ok (.aload_n 0, 1) := by decide +kernel
theorem dX2_init_45 : decode cX2_init 45 = .ok (.aload_n 3, 1) := by decide +kernel
theorem dX2_init_46 : decode cX2_init 46 = .ok (.putfield 39, 3) := by decide +kernel
theorem dX2_init_49 : decode cX2_init 49 = .ok (.aload_n 0, 1) := by decide +kernel
theorem dX2_init_50 : decode cX2_init 50 = .ok (.iload 4, 2) := by decide +kernel
theorem dX2_init_52 : decode cX2_init 52 = .ok (.putfield 43, 3) := by decide +kernel
theorem dX2_init_55 : decode cX2_init 55 = .ok (.return_, 1) := by decide +kernel
theorem dX2_isGot_0 : decode cX2_isGot 0 = .ok (.aload_n 0, 1) := by decide +kernel
theorem dX2_isGot_1 : decode cX2_isGot 1 = .ok (.getfield 18, 3) := by decide +kernel
theorem dX2_isGot_4 : decode cX2_isGot 4 = .ok (.iconst 1, 1) := by decide +kernel
theorem dX2_isGot_5 : decode cX2_isGot 5 = .ok (.if_icmp .eq 11, 3) := by decide +kernel
theorem dX2_isGot_8 : decode cX2_isGot 8 = .ok (.aload_n 0, 1) := by decide +kernel
theorem dX2_isGot_9 : decode cX2_isGot 9 = .ok (.getfield 18, 3) := by decide +kernel
theorem dX2_isGot_12 : decode cX2_isGot 12 = .ok (.iconst 3, 1) := by decide +kernel
theorem dX2_isGot_13 : decode cX2_isGot 13 = .ok (.if_icmp .ne 7, 3) := by decide +kernel
theorem dX2_isGot_16 : decode cX2_isGot 16 = .ok (.iconst 1, 1) := by decide +kernel
theorem dX2_isGot_17 : decode cX2_isGot 17 = .ok (.goto 4, 3) := by decide +kernel
theorem dX2_isGot_20 : decode cX2_isGot 20 = .ok (.iconst 0, 1) := by decide +kernel
theorem dX2_isGot_21 : decode cX2_isGot 21 = .ok (.ireturn, 1) := by decide +kernel
theorem dX2_isOut_0 : decode cX2_isOut 0 = .ok (.aload_n 0, 1) := by decide +kernel
theorem dX2_isOut_1 : decode cX2_isOut 1 = .ok (.getfield 18, 3) := by decide +kernel
theorem dX2_isOut_4 : decode cX2_isOut 4 = .ok (.ifCond .eq 18, 3) := by decide +kernel
theorem dX2_isOut_7 : decode cX2_isOut 7 = .ok (.aload_n 0, 1) := by decide +kernel
theorem dX2_isOut_8 : decode cX2_isOut 8 = .ok (.getfield 18, 3) := by decide +kernel
theorem dX2_isOut_11 : decode cX2_isOut 11 = .ok (.iconst 2, 1) := by decide +kernel
theorem dX2_isOut_12 : decode cX2_isOut 12 = .ok (.if_icmp .eq 10, 3) := by decide +kernel
theorem dX2_isOut_15 : decode cX2_isOut 15 = .ok (.aload_n 0, 1) := by decide +kernel
theorem dX2_isOut_16 : decode cX2_isOut 16 = .ok (.invokevirtual 46, 3) := by decide +kernel
theorem dX2_isOut_19 : decode cX2_isOut 19 = .ok (.ifCond .eq 7, 3) := by decide +kernel
theorem dX2_isOut_22 : decode cX2_isOut 22 = .ok (.iconst 1, 1) := by decide +kernel
theorem dX2_isOut_23 : decode cX2_isOut 23 = .ok (.goto 4, 3) := by decide +kernel
theorem dX2_isOut_26 : decode cX2_isOut 26 = .ok (.iconst 0, 1) := by decide +kernel
theorem dX2_isOut_27 : decode cX2_isOut 27 = .ok (.ireturn, 1) := by decide +kernel
theorem dX2_meets_0 : decode cX2_meets 0 = .ok (.aload_n 1, 1) := by decide +kernel
theorem dX2_meets_1 : decode cX2_meets 1 = .ok (.ifnonnull 5, 3) := by decide +kernel
theorem dX2_meets_4 : decode cX2_meets 4 = .ok (.iconst 0, 1) := by decide +kernel
theorem dX2_meets_5 : decode cX2_meets 5 = .ok (.ireturn, 1) := by decide +kernel
theorem dX2_meets_6 : decode cX2_meets 6 = .ok (.aload_n 1, 1) := by decide +kernel
theorem dX2_meets_7 : decode cX2_meets 7 = .ok (.getfield 50, 3) := by decide +kernel
theorem dX2_meets_10 : decode cX2_meets 10 = .ok (.iconst (-1), 1) := by decide +kernel
theorem dX2_meets_11 : decode cX2_meets 11 = .ok (.if_icmp .eq 17, 3) := by decide +kernel
theorem dX2_meets_14 : decode cX2_meets 14 = .ok (.aload_n 1, 1) := by decide +kernel
theorem dX2_meets_15 : decode cX2_meets 15 = .ok (.getfield 50, 3) := by decide +kernel
theorem dX2_meets_18 : decode cX2_meets 18 = .ok (.aload_n 0, 1) := by decide +kernel
theorem dX2_meets_19 : decode cX2_meets 19 = .ok (.getfield 39, 3) := by decide +kernel
theorem dX2_meets_22 : decode cX2_meets 22 = .ok (.getfield 55, 3) := by decide +kernel
theorem dX2_meets_25 : decode cX2_meets 25 = .ok (.if_icmp .ne 7, 3) := by decide +kernel
theorem dX2_meets_28 : decode cX2_meets 28 = .ok (.iconst 1, 1) := by decide +kernel
theorem dX2_meets_29 : decode cX2_meets 29 = .ok (.goto 4, 3) := by decide +kernel
theorem dX2_meets_32 : decode cX2_meets 32 = .ok (.iconst 0, 1) := by decide +kernel
theorem dX2_meets_33 : decode cX2_meets 33 = .ok (.istore_n 2, 1) := by decide +kernel
theorem dX2_meets_34 : decode cX2_meets 34 = .ok (.iload_n 2, 1) := by decide +kernel
theorem dX2_meets_35 : decode cX2_meets 35 = .ok (.ifCond .eq 43, 3) := by decide +kernel
theorem dX2_meets_38 : decode cX2_meets 38 = .ok (.aload_n 0, 1) := by decide +kernel
theorem dX2_meets_39 : decode cX2_meets 39 = .ok (.getfield 43, 3) := by decide +kernel
theorem dX2_meets_42 : decode cX2_meets 42 = .ok (.aload_n 1, 1) := by decide +kernel
theorem dX2_meets_43 : decode cX2_meets 43 = .ok (.getfield 58, 3) := by decide +kernel
theorem dX2_meets_46 : decode cX2_meets 46 = .ok (.if_icmp .lt 32, 3) := by decide +kernel
theorem dX2_meets_49 : decode cX2_meets 49 = .ok (.aload_n 0, 1) := by decide +kernel
theorem dX2_meets_50 : decode cX2_meets 50 = .ok (.getfield 43, 3) := by decide +kernel
theorem dX2_meets_53 : decode cX2_meets 53 = .ok (.aload_n 1, 1) := by decide +kernel
theorem dX2_meets_54 : decode cX2_meets 54 = .ok (.getfield 61, 3) := by decide +kernel
theorem dX2_meets_57 : decode cX2_meets 57 = .ok (.if_icmp .gt 21, 3) := by decide +kernel
theorem dX2_meets_60 : decode cX2_meets 60 = .ok (.aload_n 0, 1) := by decide +kernel
theorem dX2_meets_61 : decode cX2_meets 61 = .ok (.getfield 39, 3) := by decide +kernel
theorem dX2_meets_64 : decode cX2_meets 64 = .ok (.getfield 64, 3) := by decide +kernel
theorem dX2_meets_67 : decode cX2_meets 67 = .ok (.aload_n 1, 1) := by decide +kernel
theorem dX2_meets_68 : decode cX2_meets 68 = .ok (.getfield 67, 3) := by decide +kernel
theorem dX2_meets_71 : decode cX2_meets 71 = .ok (.if_icmp .lt 7, 3) := by decide +kernel
theorem dX2_meets_74 : decode cX2_meets 74 = .ok (.iconst 1, 1) := by decide +kernel
theorem dX2_meets_75 : decode cX2_meets 75 = .ok (.goto 4, 3) := by decide +kernel
theorem dX2_meets_78 : decode cX2_meets 78 = .ok (.iconst 0, 1) := by decide +kernel
theorem dX2_meets_79 : decode cX2_meets 79 = .ok (.ireturn, 1) := by decide +kernel
theorem dX2_goTo_0 : decode cX2_goTo 0 = .ok (.aload_n 0, 1) := by decide +kernel
theorem dX2_goTo_1 : decode cX2_goTo 1 = .ok (.iconst 3, 1) := by decide +kernel
theorem dX2_goTo_2 : decode cX2_goTo 2 = .ok (.putfield 18, 3) := by decide +kernel
theorem dX2_goTo_5 : decode cX2_goTo 5 = .ok (.aload_n 0, 1) := by decide +kernel
theorem dX2_goTo_6 : decode cX2_goTo 6 = .ok (.aload_n 1, 1) := by decide +kernel
theorem dX2_goTo_7 : decode cX2_goTo 7 = .ok (.putfield 29, 3) := by decide +kernel
theorem dX2_goTo_10 : decode cX2_goTo 10 = .ok (.aload_n 1, 1) := by decide +kernel
theorem dX2_goTo_11 : decode cX2_goTo 11 = .ok (.dup, 1) := by decide +kernel
theorem dX2_goTo_12 : decode cX2_goTo 12 = .ok (.getfield 70, 3) := by decide +kernel
theorem dX2_goTo_15 : decode cX2_goTo 15 = .ok (.aload_n 0, 1) := by decide +kernel
theorem dX2_goTo_16 : decode cX2_goTo 16 = .ok (.getfield 15, 3) := by decide +kernel
theorem dX2_goTo_19 : decode cX2_goTo 19 = .ok (.isub, 1) := by decide +kernel
theorem dX2_goTo_20 : decode cX2_goTo 20 = .ok (.putfield 70, 3) := by decide +kernel
theorem dX2_goTo_23 : decode cX2_goTo 23 = .ok (.return_, 1) := by decide +kernel
theorem dX2_endByShutting_0 : decode cX2_endByShutting 0 = .ok (.aload_n 0, 1) := by decide +kernel
theorem dX2_endByShutting_1 : decode cX2_endByShutting 1 = .ok (.invokevirtual 46, 3) := by decide +kernel
theorem dX2_endByShutting_4 : decode cX2_endByShutting 4 = .ok (.ifCond .eq 32, 3) := by decide +kernel
theorem dX2_endByShutting_7 : decode cX2_endByShutting 7 = .ok (.aload_n 0, 1) := by decide +kernel
theorem dX2_endByShutting_8 : decode cX2_endByShutting 8 = .ok (.getfield 29, 3) := by decide +kernel
theorem dX2_endByShutting_11 : decode cX2_endByShutting 11 = .ok (.ifnull 19, 3) := by decide +kernel
theorem dX2_endByShutting_14 : decode cX2_endByShutting 14 = .ok (.aload_n 0, 1) := by decide +kernel
theorem dX2_endByShutting_15 : decode cX2_endByShutting 15 = .ok (.getfield 29, 3) := by decide +kernel
theorem dX2_endByShutting_18 : decode cX2_endByShutting 18 = .ok (.dup, 1) := by decide +kernel
theorem dX2_endByShutting_19 : decode cX2_endByShutting 19 = .ok (.getfield 70, 3) := by decide +kernel
theorem dX2_endByShutting_22 : decode cX2_endByShutting 22 = .ok (.aload_n 0, 1) := by decide +kernel
theorem dX2_endByShutting_23 : decode cX2_endByShutting 23 = .ok (.getfield 15, 3) := by decide +kernel
theorem dX2_endByShutting_26 : decode cX2_endByShutting 26 = .ok (.iadd, 1) := by decide +kernel
theorem dX2_endByShutting_27 : decode cX2_endByShutting 27 = .ok (.putfield 70, 3) := by decide +kernel
theorem dX2_endByShutting_30 : decode cX2_endByShutting 30 = .ok (.aload_n 0, 1) := by decide +kernel
theorem dX2_endByShutting_31 : decode cX2_endByShutting 31 = .ok (.iconst 5, 1) := by decide +kernel
theorem dX2_endByShutting_32 : decode cX2_endByShutting 32 = .ok (.putfield 18, 3) := by decide +kernel
theorem dX2_endByShutting_35 : decode cX2_endByShutting 35 = .ok (.return_, 1) := by decide +kernel
theorem dX2_endByShutting_36 : decode cX2_endByShutting 36 = .ok (.aload_n 0, 1) := by decide +kernel
theorem dX2_endByShutting_37 : decode cX2_endByShutting 37 = .ok (.getfield 18, 3) := by decide +kernel
theorem dX2_endByShutting_40 : decode cX2_endByShutting 40 = .ok (.iconst 2, 1) := by decide +kernel
theorem dX2_endByShutting_41 : decode cX2_endByShutting 41 = .ok (.if_icmp .ne 26, 3) := by decide +kernel
theorem dX2_endByShutting_44 : decode cX2_endByShutting 44 = .ok (.aload_n 0, 1) := by decide +kernel
theorem dX2_endByShutting_45 : decode cX2_endByShutting 45 = .ok (.getfield 36, 3) := by decide +kernel
theorem dX2_endByShutting_48 : decode cX2_endByShutting 48 = .ok (.iconst 0, 1) := by decide +kernel
theorem dX2_endByShutting_49 : decode cX2_endByShutting 49 = .ok (.aload_n 0, 1) := by decide +kernel
theorem dX2_endByShutting_50 : decode cX2_endByShutting 50 = .ok (.getfield 36, 3) := by decide +kernel
theorem dX2_endByShutting_53 : decode cX2_endByShutting 53 = .ok (.getfield 70, 3) := by decide +kernel
theorem dX2_endByShutting_56 : decode cX2_endByShutting 56 = .ok (.aload_n 0, 1) := by decide +kernel
theorem dX2_endByShutting_57 : decode cX2_endByShutting 57 = .ok (.getfield 15, 3) := by decide +kernel
theorem dX2_endByShutting_60 : decode cX2_endByShutting 60 = .ok (.isub, 1) := by decide +kernel
theorem dX2_endByShutting_61 : decode cX2_endByShutting 61 = .ok (.invokestatic 75, 3) := by decide +kernel
theorem dX2_endByShutting_64 : decode cX2_endByShutting 64 = .ok (.putfield 70, 3) := by decide +kernel
theorem dX2_endByShutting_67 : decode cX2_endByShutting 67 = .ok (.aload_n 0, 1) := by decide +kernel
theorem dX2_endByShutting_68 : decode cX2_endByShutting 68 = .ok (.iconst 4, 1) := by decide +kernel
theorem dX2_endByShutting_69 : decode cX2_endByShutting 69 = .ok (.putfield 18, 3) := by decide +kernel
theorem dX2_endByShutting_72 : decode cX2_endByShutting 72 = .ok (.return_, 1) := by decide +kernel
theorem dX3_init_0 : decode cX3_init 0 = .ok (.aload_n 0, 1) := by decide +kernel
theorem dX3_init_1 : decode cX3_init 1 = .ok (.invokespecial 1, 3) := by decide +kernel
theorem dX3_init_4 : decode cX3_init 4 = .ok (.aload_n 0, 1) := by decide +kernel
theorem dX3_init_5 : decode cX3_init 5 = .ok (.iconst 0, 1) := by decide +kernel
theorem dX3_init_6 : decode cX3_init 6 = .ok (.putfield 7, 3) := by decide +kernel
theorem dX3_init_9 : decode cX3_init 9 = .ok (.aload_n 0, 1) := by decide +kernel
theorem dX3_init_10 : decode cX3_init 10 = .ok (.iconst 0, 1) := by decide +kernel
theorem dX3_init_11 : decode cX3_init 11 = .ok (.putfield 13, 3) := by decide +kernel
theorem dX3_init_14 : decode cX3_init 14 = .ok (.aload_n 0, 1) := by decide +kernel
theorem dX3_init_15 : decode cX3_init 15 = .ok (.iconst 0, 1) := by decide +kernel
theorem dX3_init_16 : decode cX3_init 16 = .ok (.putfield 16, 3) := by decide +kernel
theorem dX3_init_19 : decode cX3_init 19 = .ok (.aload_n 0, 1) := by decide +kernel
theorem dX3_init_20 : decode cX3_init 20 = .ok (.iconst 0, 1) := by decide +kernel
theorem dX3_init_21 : decode cX3_init 21 = .ok (.putfield 19, 3) := by decide +kernel
theorem dX3_init_24 : decode cX3_init 24 = .ok (.aload_n 0, 1) := by decide +kernel
theorem dX3_init_25 : decode cX3_init 25 = .ok (.iconst 0, 1) := by decide +kernel
theorem dX3_init_26 : decode cX3_init 26 = .ok (.putfield 23, 3) := by decide +kernel
theorem dX3_init_29 : decode cX3_init 29 = .ok (.aload_n 0, 1) := by decide +kernel
theorem dX3_init_30 : decode cX3_init 30 = .ok (.aconst_null, 1) := by decide +kernel
theorem dX3_init_31 : decode cX3_init 31 = .ok (.putfield 26, 3) := by decide +kernel
theorem dX3_init_34 : decode cX3_init 34 = .ok (.aload_n 0, 1) := by decide +kernel
theorem dX3_init_35 : decode cX3_init 35 = .ok (.iload_n 1, 1) := by decide +kernel
theorem dX3_init_36 : decode cX3_init 36 = .ok (.putfield 30, 3) := by decide +kernel
theorem dX3_init_39 : decode cX3_init 39 = .ok (.aload_n 0, 1) := by decide +kernel
theorem dX3_init_40 : decode cX3_init 40 = .ok (.iload_n 2, 1) := by decide +kernel
theorem dX3_init_41 : decode cX3_init 41 = .ok (.putfield 33, 3) := by decide +kernel
theorem dX3_init_44 : decode cX3_init 44 = .ok (.return_, 1) := by decide +kernel
theorem dX4_init_0 : decode cX4_init 0 = .ok (.aload_n 0, 1) := by decide +kernel
theorem dX4_init_1 : decode cX4_init 1 = .ok (.invokespecial 3, 3) := by decide +kernel
theorem dX4_init_4 : decode cX4_init 4 = .ok (.aload_n 0, 1) := by decide +kernel
theorem dX4_init_5 : decode cX4_init 5 = .ok (.sipush 300, 3) := by decide +kernel
theorem dX4_init_8 : decode cX4_init 8 = .ok (.newarray .int, 2) := by decide +kernel
theorem dX4_init_10 : decode cX4_init 10 = .ok (.putfield 9, 3) := by decide +kernel
theorem dX4_init_13 : decode cX4_init 13 = .ok (.aload_n 0, 1) := by decide +kernel
theorem dX4_init_14 : decode cX4_init 14 = .ok (.iconst 0, 1) := by decide +kernel
theorem dX4_init_15 : decode cX4_init 15 = .ok (.putfield 15, 3) := by decide +kernel
theorem dX4_init_18 : decode cX4_init 18 = .ok (.aload_n 0, 1) := by decide +kernel
theorem dX4_init_19 : decode cX4_init 19 = .ok (.iconst 0, 1) := by decide +kernel
theorem dX4_init_20 : decode cX4_init 20 = .ok (.putfield 19, 3) := by decide +kernel
theorem dX4_init_23 : decode cX4_init 23 = .ok (.aload_n 0, 1) := by decide +kernel
theorem dX4_init_24 : decode cX4_init 24 = .ok (.iconst (-1), 1) := by decide +kernel
theorem dX4_init_25 : decode cX4_init 25 = .ok (.putfield 22, 3) := by decide +kernel
theorem dX4_init_28 : decode cX4_init 28 = .ok (.aload_n 0, 1) := by decide +kernel
theorem dX4_init_29 : decode cX4_init 29 = .ok (.iconst 0, 1) := by decide +kernel
theorem dX4_init_30 : decode cX4_init 30 = .ok (.putfield 25, 3) := by decide +kernel
theorem dX4_init_33 : decode cX4_init 33 = .ok (.aload_n 0, 1) := by decide +kernel
theorem dX4_init_34 : decode cX4_init 34 = .ok (.iconst 0, 1) := by decide +kernel
theorem dX4_init_35 : decode cX4_init 35 = .ok (.putfield 28, 3) := by decide +kernel
theorem dX4_init_38 : decode cX4_init 38 = .ok (.aload_n 0, 1) := by decide +kernel
theorem dX4_init_39 : decode cX4_init 39 = .ok (.iconst 0, 1) := by decide +kernel
theorem dX4_init_40 : decode cX4_init 40 = .ok (.putfield 31, 3) := by decide +kernel
theorem dX4_init_43 : decode cX4_init 43 = .ok (.aload_n 0, 1) := by decide +kernel
theorem dX4_init_44 : decode cX4_init 44 = .ok (.iconst 0, 1) := by decide +kernel
theorem dX4_init_45 : decode cX4_init 45 = .ok (.putfield 34, 3) := by decide +kernel
theorem dX4_init_48 : decode cX4_init 48 = .ok (.return_, 1) := by decide +kernel
theorem dX4_addBytes_0 : decode cX4_addBytes 0 = .ok (.bipush 24, 2) := by decide +kernel
theorem dX4_addBytes_2 : decode cX4_addBytes 2 = .ok (.istore_n 2, 1) := by decide +kernel
theorem dX4_addBytes_3 : decode cX4_addBytes 3 = .ok (.iload_n 2, 1) := by decide +kernel
theorem dX4_addBytes_4 : decode cX4_addBytes 4 = .ok (.ifCond .lt 45, 3) := by decide +kernel
theorem dX4_addBytes_7 : decode cX4_addBytes 7 = .ok (.aload_n 0, 1) := by decide +kernel
theorem dX4_addBytes_8 : decode cX4_addBytes 8 = .ok (.getfield 15, 3) := by decide +kernel
theorem dX4_addBytes_11 : decode cX4_addBytes 11 = .ok (.sipush 300, 3) := by decide +kernel
theorem dX4_addBytes_14 : decode cX4_addBytes 14 = .ok (.if_icmp .ge 29, 3) := by decide +kernel
theorem dX4_addBytes_17 : decode cX4_addBytes 17 = .ok (.aload_n 0, 1) := by decide +kernel
theorem dX4_addBytes_18 : decode cX4_addBytes 18 = .ok (.getfield 9, 3) := by decide +kernel
theorem dX4_addBytes_21 : decode cX4_addBytes 21 = .ok (.aload_n 0, 1) := by decide +kernel
theorem dX4_addBytes_22 : decode cX4_addBytes 22 = .ok (.getfield 15, 3) := by decide +kernel
theorem dX4_addBytes_25 : decode cX4_addBytes 25 = .ok (.iload_n 1, 1) := by decide +kernel
theorem dX4_addBytes_26 : decode cX4_addBytes 26 = .ok (.iload_n 2, 1) := by decide +kernel
theorem dX4_addBytes_27 : decode cX4_addBytes 27 = .ok (.iushr, 1) := by decide +kernel
theorem dX4_addBytes_28 : decode cX4_addBytes 28 = .ok (.sipush 255, 3) := by decide +kernel
theorem dX4_addBytes_31 : decode cX4_addBytes 31 = .ok (.iand, 1) := by decide +kernel
theorem dX4_addBytes_32 : decode cX4_addBytes 32 = .ok (.iastore, 1) := by decide +kernel
theorem dX4_addBytes_33 : decode cX4_addBytes 33 = .ok (.aload_n 0, 1) := by decide +kernel
theorem dX4_addBytes_34 : decode cX4_addBytes 34 = .ok (.dup, 1) := by decide +kernel
theorem dX4_addBytes_35 : decode cX4_addBytes 35 = .ok (.getfield 15, 3) := by decide +kernel
theorem dX4_addBytes_38 : decode cX4_addBytes 38 = .ok (.iconst 1, 1) := by decide +kernel
theorem dX4_addBytes_39 : decode cX4_addBytes 39 = .ok (.iadd, 1) := by decide +kernel
theorem dX4_addBytes_40 : decode cX4_addBytes 40 = .ok (.putfield 15, 3) := by decide +kernel
theorem dX4_addBytes_43 : decode cX4_addBytes 43 = .ok (.iinc 2 (-8), 3) := by decide +kernel
theorem dX4_addBytes_46 : decode cX4_addBytes 46 = .ok (.goto (-43), 3) := by decide +kernel
theorem dX4_addBytes_49 : decode cX4_addBytes 49 = .ok (.return_, 1) := by decide +kernel
theorem dX4_readInto_0 : decode cX4_readInto 0 = .ok (.aload_n 1, 1) := by decide +kernel
theorem dX4_readInto_1 : decode cX4_readInto 1 = .ok (.invokevirtual 37, 3) := by decide +kernel
theorem dX4_readInto_4 : decode cX4_readInto 4 = .ok (.aload_n 0, 1) := by decide +kernel
theorem dX4_readInto_5 : decode cX4_readInto 5 = .ok (.iconst 0, 1) := by decide +kernel
theorem dX4_readInto_6 : decode cX4_readInto 6 = .ok (.putfield 19, 3) := by decide +kernel
theorem dX4_readInto_9 : decode cX4_readInto 9 = .ok (.aload_n 0, 1) := by decide +kernel
theorem dX4_readInto_10 : decode cX4_readInto 10 = .ok (.iconst (-1), 1) := by decide +kernel
theorem dX4_readInto_11 : decode cX4_readInto 11 = .ok (.putfield 22, 3) := by decide +kernel
theorem dX4_readInto_14 : decode cX4_readInto 14 = .ok (.aload_n 0, 1) := by decide +kernel
theorem dX4_readInto_15 : decode cX4_readInto 15 = .ok (.iconst 0, 1) := by decide +kernel
theorem dX4_readInto_16 : decode cX4_readInto 16 = .ok (.putfield 25, 3) := by decide +kernel
theorem dX4_readInto_19 : decode cX4_readInto 19 = .ok (.aload_n 0, 1) := by decide +kernel
theorem dX4_readInto_20 : decode cX4_readInto 20 = .ok (.invokevirtual 42, 3) := by decide +kernel
theorem dX4_readInto_23 : decode cX4_readInto 23 = .ok (.iconst 0, 1) := by decide +kernel
theorem dX4_readInto_24 : decode cX4_readInto 24 = .ok (.istore_n 2, 1) := by decide +kernel
theorem dX4_readInto_25 : decode cX4_readInto 25 = .ok (.iload_n 2, 1) := by decide +kernel
theorem dX4_readInto_26 : decode cX4_readInto 26 = .ok (.bipush 30, 2) := by decide +kernel
theorem dX4_readInto_28 : decode cX4_readInto 28 = .ok (.if_icmp .gt 28, 3) := by decide +kernel
theorem dX4_readInto_31 : decode cX4_readInto 31 = .ok (.aload_n 0, 1) := by decide +kernel
theorem dX4_readInto_32 : decode cX4_readInto 32 = .ok (.getfield 28, 3) := by decide +kernel
theorem dX4_readInto_35 : decode cX4_readInto 35 = .ok (.ifCond .eq 21, 3) := by decide +kernel
theorem dX4_readInto_38 : decode cX4_readInto 38 = .ok (.aload_n 0, 1) := by decide +kernel
theorem dX4_readInto_39 : decode cX4_readInto 39 = .ok (.getfield 19, 3) := by decide +kernel
theorem dX4_readInto_42 : decode cX4_readInto 42 = .ok (.ifCond .ne 14, 3) := by decide +kernel
theorem dX4_readInto_45 : decode cX4_readInto 45 = .ok (.aload_n 0, 1) := by decide +kernel
theorem dX4_readInto_46 : decode cX4_readInto 46 = .ok (.aload_n 1, 1) := by decide +kernel
theorem dX4_readInto_47 : decode cX4_readInto 47 = .ok (.invokevirtual 45, 3) := by decide +kernel
theorem dX4_readInto_50 : decode cX4_readInto 50 = .ok (.iinc 2 1, 3) := by decide +kernel
theorem dX4_readInto_53 : decode cX4_readInto 53 = .ok (.goto (-28), 3) := by decide +kernel
theorem dX4_readInto_56 : decode cX4_readInto 56 = .ok (.return_, 1) := by decide +kernel
theorem dX4_readStatement_0 : decode cX4_readStatement 0 = .ok (.aload_n 0, 1) := by decide +kernel
theorem dX4_readStatement_1 : decode cX4_readStatement 1 = .ok (.invokevirtual 49, 3) := by decide +kernel
theorem dX4_readStatement_4 : decode cX4_readStatement 4 = .ok (.istore_n 2, 1) := by decide +kernel
theorem dX4_readStatement_5 : decode cX4_readStatement 5 = .ok (.iload_n 2, 1) := by decide +kernel
theorem dX4_readStatement_6 : decode cX4_readStatement 6 = .ok (.ifCond .ne 9, 3) := by decide +kernel
theorem dX4_readStatement_9 : decode cX4_readStatement 9 = .ok (.aload_n 0, 1) := by decide +kernel
theorem dX4_readStatement_10 : decode cX4_readStatement 10 = .ok (.iconst 1, 1) := by decide +kernel
theorem dX4_readStatement_11 : decode cX4_readStatement 11 = .ok (.invokevirtual 53, 3) := by decide +kernel
theorem dX4_readStatement_14 : decode cX4_readStatement 14 = .ok (.return_, 1) := by decide +kernel
theorem dX4_readStatement_15 : decode cX4_readStatement 15 = .ok (.aload_n 1, 1) := by decide +kernel
theorem dX4_readStatement_16 : decode cX4_readStatement 16 = .ok (.getfield 57, 3) := by decide +kernel
theorem dX4_readStatement_19 : decode cX4_readStatement 19 = .ok (.bipush 30, 2) := by decide +kernel
theorem dX4_readStatement_21 : decode cX4_readStatement 21 = .ok (.if_icmp .lt 9, 3) := by decide +kernel
theorem dX4_readStatement_24 : decode cX4_readStatement 24 = .ok (.aload_n 0, 1) := by decide +kernel
theorem dX4_readStatement_25 : decode cX4_readStatement 25 = .ok (.iconst 3, 1) := by decide +kernel
theorem dX4_readStatement_26 : decode cX4_readStatement 26 = .ok (.invokevirtual 53, 3) := by decide +kernel
theorem dX4_readStatement_29 : decode cX4_readStatement 29 = .ok (.return_, 1) := by decide +kernel
theorem dX4_readStatement_30 : decode cX4_readStatement 30 = .ok (.aload_n 0, 1) := by decide +kernel
theorem dX4_readStatement_31 : decode cX4_readStatement 31 = .ok (.invokevirtual 42, 3) := by decide +kernel
theorem dX4_readStatement_34 : decode cX4_readStatement 34 = .ok (.aload_n 0, 1) := by decide +kernel
theorem dX4_readStatement_35 : decode cX4_readStatement 35 = .ok (.aload_n 1, 1) := by decide +kernel
theorem dX4_readStatement_36 : decode cX4_readStatement 36 = .ok (.iload_n 2, 1) := by decide +kernel
theorem dX4_readStatement_37 : decode cX4_readStatement 37 = .ok (.invokevirtual 60, 3) := by decide +kernel
theorem dX4_readStatement_40 : decode cX4_readStatement 40 = .ok (.aload_n 0, 1) := by decide +kernel
theorem dX4_readStatement_41 : decode cX4_readStatement 41 = .ok (.invokevirtual 64, 3) := by decide +kernel
theorem dX4_readStatement_44 : decode cX4_readStatement 44 = .ok (.aload_n 1, 1) := by decide +kernel
theorem dX4_readStatement_45 : decode cX4_readStatement 45 = .ok (.dup, 1) := by decide +kernel
theorem dX4_readStatement_46 : decode cX4_readStatement 46 = .ok (.getfield 57, 3) := by decide +kernel
theorem dX4_readStatement_49 : decode cX4_readStatement 49 = .ok (.iconst 1, 1) := by decide +kernel
theorem dX4_readStatement_50 : decode cX4_readStatement 50 = .ok (.iadd, 1) := by decide +kernel
theorem dX4_readStatement_51 : decode cX4_readStatement 51 = .ok (.putfield 57, 3) := by decide +kernel
theorem dX4_readStatement_54 : decode cX4_readStatement 54 = .ok (.return_, 1) := by decide +kernel
theorem dX4_statementKind_0 : decode cX4_statementKind 0 = .ok (.aload_n 0, 1) := by decide +kernel
theorem dX4_statementKind_1 : decode cX4_statementKind 1 = .ok (.ldc 67, 2) := by decide +kernel
theorem dX4_statementKind_3 : decode cX4_statementKind 3 = .ok (.invokevirtual 69, 3) := by decide +kernel
theorem dX4_statementKind_6 : decode cX4_statementKind 6 = .ok (.ifCond .eq 5, 3) := by decide +kernel
theorem dX4_statementKind_9 : decode cX4_statementKind 9 = .ok (.iconst 1, 1) := by decide +kernel
theorem dX4_statementKind_10 : decode cX4_statementKind 10 = .ok (.ireturn, 1) := by decide +kernel
theorem dX4_statementKind_11 : decode cX4_statementKind 11 = .ok (.aload_n 0, 1) := by decide +kernel
theorem dX4_statementKind_12 : decode cX4_statementKind 12 = .ok (.ldc 73, 2) := by decide +kernel
theorem dX4_statementKind_14 : decode cX4_statementKind 14 = .ok (.invokevirtual 69, 3) := by decide +kernel
theorem dX4_statementKind_17 : decode cX4_statementKind 17 = .ok (.ifCond .eq 5, 3) := by decide +kernel
theorem dX4_statementKind_20 : decode cX4_statementKind 20 = .ok (.iconst 2, 1) := by decide +kernel
theorem dX4_statementKind_21 : decode cX4_statementKind 21 = .ok (.ireturn, 1) := by decide +kernel
theorem dX4_statementKind_22 : decode cX4_statementKind 22 = .ok (.aload_n 0, 1) := by decide +kernel
theorem dX4_statementKind_23 : decode cX4_statementKind 23 = .ok (.ldc 75, 2) := by decide +kernel
theorem dX4_statementKind_25 : decode cX4_statementKind 25 = .ok (.invokevirtual 69, 3) := by decide +kernel
theorem dX4_statementKind_28 : decode cX4_statementKind 28 = .ok (.ifCond .eq 5, 3) := by decide +kernel
theorem dX4_statementKind_31 : decode cX4_statementKind 31 = .ok (.iconst 3, 1) := by decide +kernel
theorem dX4_statementKind_32 : decode cX4_statementKind 32 = .ok (.ireturn, 1) := by decide +kernel
theorem dX4_statementKind_33 : decode cX4_statementKind 33 = .ok (.aload_n 0, 1) := by decide +kernel
theorem dX4_statementKind_34 : decode cX4_statementKind 34 = .ok (.ldc 77, 2) := by decide +kernel
theorem dX4_statementKind_36 : decode cX4_statementKind 36 = .ok (.invokevirtual 69, 3) := by decide +kernel
theorem dX4_statementKind_39 : decode cX4_statementKind 39 = .ok (.ifCond .eq 7, 3) := by decide +kernel
theorem dX4_statementKind_42 : decode cX4_statementKind 42 = .ok (.iconst 4, 1) := by decide +kernel
theorem dX4_statementKind_43 : decode cX4_statementKind 43 = .ok (.goto 4, 3) := by decide +kernel
theorem dX4_statementKind_46 : decode cX4_statementKind 46 = .ok (.iconst 0, 1) := by decide +kernel
theorem dX4_statementKind_47 : decode cX4_statementKind 47 = .ok (.ireturn, 1) := by decide +kernel
theorem dX4_readRest_0 : decode cX4_readRest 0 = .ok (.iload_n 2, 1) := by decide +kernel
theorem dX4_readRest_1 : decode cX4_readRest 1 = .ok (.tableswitch 113 1 3 #[27, 62, 87], 27) := by decide +kernel
theorem dX4_readRest_28 : decode cX4_readRest 28 = .ok (.aload_n 0, 1) := by decide +kernel
theorem dX4_readRest_29 : decode cX4_readRest 29 = .ok (.iconst 0, 1) := by decide +kernel
theorem dX4_readRest_30 : decode cX4_readRest 30 = .ok (.bipush 52, 2) := by decide +kernel
theorem dX4_readRest_32 : decode cX4_readRest 32 = .ok (.invokevirtual 79, 3) := by decide +kernel
theorem dX4_readRest_35 : decode cX4_readRest 35 = .ok (.istore_n 3, 1) := by decide +kernel
theorem dX4_readRest_36 : decode cX4_readRest 36 = .ok (.aload_n 0, 1) := by decide +kernel
theorem dX4_readRest_37 : decode cX4_readRest 37 = .ok (.iload_n 3, 1) := by decide +kernel
theorem dX4_readRest_38 : decode cX4_readRest 38 = .ok (.bipush 52, 2) := by decide +kernel
theorem dX4_readRest_40 : decode cX4_readRest 40 = .ok (.invokevirtual 79, 3) := by decide +kernel
theorem dX4_readRest_43 : decode cX4_readRest 43 = .ok (.istore 4, 2) := by decide +kernel
theorem dX4_readRest_45 : decode cX4_readRest 45 = .ok (.aload_n 1, 1) := by decide +kernel
theorem dX4_readRest_46 : decode cX4_readRest 46 = .ok (.iload_n 3, 1) := by decide +kernel
theorem dX4_readRest_47 : decode cX4_readRest 47 = .ok (.iload 4, 2) := by decide +kernel
theorem dX4_readRest_49 : decode cX4_readRest 49 = .ok (.aload_n 0, 1) := by decide +kernel
theorem dX4_readRest_50 : decode cX4_readRest 50 = .ok (.iconst 0, 1) := by decide +kernel
theorem dX4_readRest_51 : decode cX4_readRest 51 = .ok (.sipush 9999, 3) := by decide +kernel
theorem dX4_readRest_54 : decode cX4_readRest 54 = .ok (.invokevirtual 79, 3) := by decide +kernel
theorem dX4_readRest_57 : decode cX4_readRest 57 = .ok (.invokevirtual 83, 3) := by decide +kernel
theorem dX4_readRest_60 : decode cX4_readRest 60 = .ok (.goto 62, 3) := by decide +kernel
theorem dX4_readRest_63 : decode cX4_readRest 63 = .ok (.aload_n 0, 1) := by decide +kernel
theorem dX4_readRest_64 : decode cX4_readRest 64 = .ok (.iconst 1, 1) := by decide +kernel
theorem dX4_readRest_65 : decode cX4_readRest 65 = .ok (.iconst 4, 1) := by decide +kernel
theorem dX4_readRest_66 : decode cX4_readRest 66 = .ok (.invokevirtual 79, 3) := by decide +kernel
theorem dX4_readRest_69 : decode cX4_readRest 69 = .ok (.istore 5, 2) := by decide +kernel
theorem dX4_readRest_71 : decode cX4_readRest 71 = .ok (.aload_n 1, 1) := by decide +kernel
theorem dX4_readRest_72 : decode cX4_readRest 72 = .ok (.iload 5, 2) := by decide +kernel
theorem dX4_readRest_74 : decode cX4_readRest 74 = .ok (.aload_n 0, 1) := by decide +kernel
theorem dX4_readRest_75 : decode cX4_readRest 75 = .ok (.iconst 0, 1) := by decide +kernel
theorem dX4_readRest_76 : decode cX4_readRest 76 = .ok (.sipush 9999, 3) := by decide +kernel
theorem dX4_readRest_79 : decode cX4_readRest 79 = .ok (.invokevirtual 79, 3) := by decide +kernel
theorem dX4_readRest_82 : decode cX4_readRest 82 = .ok (.invokevirtual 87, 3) := by decide +kernel
theorem dX4_readRest_85 : decode cX4_readRest 85 = .ok (.goto 37, 3) := by decide +kernel
theorem dX4_readRest_88 : decode cX4_readRest 88 = .ok (.aload_n 0, 1) := by decide +kernel
theorem dX4_readRest_89 : decode cX4_readRest 89 = .ok (.iconst 0, 1) := by decide +kernel
theorem dX4_readRest_90 : decode cX4_readRest 90 = .ok (.bipush 52, 2) := by decide +kernel
theorem dX4_readRest_92 : decode cX4_readRest 92 = .ok (.invokevirtual 79, 3) := by decide +kernel
theorem dX4_readRest_95 : decode cX4_readRest 95 = .ok (.istore 6, 2) := by decide +kernel
theorem dX4_readRest_97 : decode cX4_readRest 97 = .ok (.aload_n 1, 1) := by decide +kernel
theorem dX4_readRest_98 : decode cX4_readRest 98 = .ok (.iload 6, 2) := by decide +kernel
theorem dX4_readRest_100 : decode cX4_readRest 100 = .ok (.aload_n 0, 1) := by decide +kernel
theorem dX4_readRest_101 : decode cX4_readRest 101 = .ok (.iconst 0, 1) := by decide +kernel
theorem dX4_readRest_102 : decode cX4_readRest 102 = .ok (.sipush 9999, 3) := by decide +kernel
theorem dX4_readRest_105 : decode cX4_readRest 105 = .ok (.invokevirtual 79, 3) := by decide +kernel
theorem dX4_readRest_108 : decode cX4_readRest 108 = .ok (.invokevirtual 91, 3) := by decide +kernel
theorem dX4_readRest_111 : decode cX4_readRest 111 = .ok (.goto 11, 3) := by decide +kernel
theorem dX4_readRest_114 : decode cX4_readRest 114 = .ok (.aload_n 1, 1) := by decide +kernel
theorem dX4_readRest_115 : decode cX4_readRest 115 = .ok (.aload_n 0, 1) := by decide +kernel
theorem dX4_readRest_116 : decode cX4_readRest 116 = .ok (.invokevirtual 94, 3) := by decide +kernel
theorem dX4_readRest_119 : decode cX4_readRest 119 = .ok (.putfield 98, 3) := by decide +kernel
theorem dX4_readRest_122 : decode cX4_readRest 122 = .ok (.return_, 1) := by decide +kernel
theorem dX4_expectNumber_0 : decode cX4_expectNumber 0 = .ok (.aload_n 0, 1) := by decide +kernel
theorem dX4_expectNumber_1 : decode cX4_expectNumber 1 = .ok (.getfield 19, 3) := by decide +kernel
theorem dX4_expectNumber_4 : decode cX4_expectNumber 4 = .ok (.ifCond .eq 5, 3) := by decide +kernel
theorem dX4_expectNumber_7 : decode cX4_expectNumber 7 = .ok (.iconst 0, 1) := by decide +kernel
theorem dX4_expectNumber_8 : decode cX4_expectNumber 8 = .ok (.ireturn, 1) := by decide +kernel
theorem dX4_expectNumber_9 : decode cX4_expectNumber 9 = .ok (.aload_n 0, 1) := by decide +kernel
theorem dX4_expectNumber_10 : decode cX4_expectNumber 10 = .ok (.getfield 28, 3) := by decide +kernel
theorem dX4_expectNumber_13 : decode cX4_expectNumber 13 = .ok (.iconst 2, 1) := by decide +kernel
theorem dX4_expectNumber_14 : decode cX4_expectNumber 14 = .ok (.if_icmp .eq 10, 3) := by decide +kernel
theorem dX4_expectNumber_17 : decode cX4_expectNumber 17 = .ok (.aload_n 0, 1) := by decide +kernel
theorem dX4_expectNumber_18 : decode cX4_expectNumber 18 = .ok (.iconst 1, 1) := by decide +kernel
theorem dX4_expectNumber_19 : decode cX4_expectNumber 19 = .ok (.invokevirtual 53, 3) := by decide +kernel
theorem dX4_expectNumber_22 : decode cX4_expectNumber 22 = .ok (.iconst 0, 1) := by decide +kernel
theorem dX4_expectNumber_23 : decode cX4_expectNumber 23 = .ok (.ireturn, 1) := by decide +kernel
theorem dX4_expectNumber_24 : decode cX4_expectNumber 24 = .ok (.aload_n 0, 1) := by decide +kernel
theorem dX4_expectNumber_25 : decode cX4_expectNumber 25 = .ok (.getfield 34, 3) := by decide +kernel
theorem dX4_expectNumber_28 : decode cX4_expectNumber 28 = .ok (.istore_n 3, 1) := by decide +kernel
theorem dX4_expectNumber_29 : decode cX4_expectNumber 29 = .ok (.iload_n 3, 1) := by decide +kernel
theorem dX4_expectNumber_30 : decode cX4_expectNumber 30 = .ok (.iload_n 1, 1) := by decide +kernel
theorem dX4_expectNumber_31 : decode cX4_expectNumber 31 = .ok (.if_icmp .lt 8, 3) := by decide +kernel
theorem dX4_expectNumber_34 : decode cX4_expectNumber 34 = .ok (.iload_n 3, 1) := by decide +kernel
theorem dX4_expectNumber_35 : decode cX4_expectNumber 35 = .ok (.iload_n 2, 1) := by decide +kernel
theorem dX4_expectNumber_36 : decode cX4_expectNumber 36 = .ok (.if_icmp .le 10, 3) := by decide +kernel
theorem dX4_expectNumber_39 : decode cX4_expectNumber 39 = .ok (.aload_n 0, 1) := by decide +kernel
theorem dX4_expectNumber_40 : decode cX4_expectNumber 40 = .ok (.iconst 2, 1) := by decide +kernel
theorem dX4_expectNumber_41 : decode cX4_expectNumber 41 = .ok (.invokevirtual 53, 3) := by decide +kernel
theorem dX4_expectNumber_44 : decode cX4_expectNumber 44 = .ok (.iconst 0, 1) := by decide +kernel
theorem dX4_expectNumber_45 : decode cX4_expectNumber 45 = .ok (.ireturn, 1) := by decide +kernel
theorem dX4_expectNumber_46 : decode cX4_expectNumber 46 = .ok (.aload_n 0, 1) := by decide +kernel
theorem dX4_expectNumber_47 : decode cX4_expectNumber 47 = .ok (.invokevirtual 42, 3) := by decide +kernel
theorem dX4_expectNumber_50 : decode cX4_expectNumber 50 = .ok (.iload_n 3, 1) := by decide +kernel
theorem dX4_expectNumber_51 : decode cX4_expectNumber 51 = .ok (.ireturn, 1) := by decide +kernel
theorem dX4_expectBound_0 : decode cX4_expectBound 0 = .ok (.aload_n 0, 1) := by decide +kernel
theorem dX4_expectBound_1 : decode cX4_expectBound 1 = .ok (.ldc 102, 2) := by decide +kernel
theorem dX4_expectBound_3 : decode cX4_expectBound 3 = .ok (.invokevirtual 69, 3) := by decide +kernel
theorem dX4_expectBound_6 : decode cX4_expectBound 6 = .ok (.istore_n 1, 1) := by decide +kernel
theorem dX4_expectBound_7 : decode cX4_expectBound 7 = .ok (.iload_n 1, 1) := by decide +kernel
theorem dX4_expectBound_8 : decode cX4_expectBound 8 = .ok (.ifCond .ne 19, 3) := by decide +kernel
theorem dX4_expectBound_11 : decode cX4_expectBound 11 = .ok (.aload_n 0, 1) := by decide +kernel
theorem dX4_expectBound_12 : decode cX4_expectBound 12 = .ok (.ldc 104, 2) := by decide +kernel
theorem dX4_expectBound_14 : decode cX4_expectBound 14 = .ok (.invokevirtual 69, 3) := by decide +kernel
theorem dX4_expectBound_17 : decode cX4_expectBound 17 = .ok (.ifCond .ne 10, 3) := by decide +kernel
theorem dX4_expectBound_20 : decode cX4_expectBound 20 = .ok (.aload_n 0, 1) := by decide +kernel
theorem dX4_expectBound_21 : decode cX4_expectBound 21 = .ok (.iconst 1, 1) := by decide +kernel
theorem dX4_expectBound_22 : decode cX4_expectBound 22 = .ok (.invokevirtual 53, 3) := by decide +kernel
theorem dX4_expectBound_25 : decode cX4_expectBound 25 = .ok (.iconst 0, 1) := by decide +kernel
theorem dX4_expectBound_26 : decode cX4_expectBound 26 = .ok (.ireturn, 1) := by decide +kernel
theorem dX4_expectBound_27 : decode cX4_expectBound 27 = .ok (.aload_n 0, 1) := by decide +kernel
theorem dX4_expectBound_28 : decode cX4_expectBound 28 = .ok (.invokevirtual 42, 3) := by decide +kernel
theorem dX4_expectBound_31 : decode cX4_expectBound 31 = .ok (.iload_n 1, 1) := by decide +kernel
theorem dX4_expectBound_32 : decode cX4_expectBound 32 = .ok (.ireturn, 1) := by decide +kernel
theorem dX4_expectSign_0 : decode cX4_expectSign 0 = .ok (.aload_n 0, 1) := by decide +kernel
theorem dX4_expectSign_1 : decode cX4_expectSign 1 = .ok (.getfield 19, 3) := by decide +kernel
theorem dX4_expectSign_4 : decode cX4_expectSign 4 = .ok (.ifCond .eq 4, 3) := by decide +kernel
theorem dX4_expectSign_7 : decode cX4_expectSign 7 = .ok (.return_, 1) := by decide +kernel
theorem dX4_expectSign_8 : decode cX4_expectSign 8 = .ok (.aload_n 0, 1) := by decide +kernel
theorem dX4_expectSign_9 : decode cX4_expectSign 9 = .ok (.getfield 28, 3) := by decide +kernel
theorem dX4_expectSign_12 : decode cX4_expectSign 12 = .ok (.iconst 3, 1) := by decide +kernel
theorem dX4_expectSign_13 : decode cX4_expectSign 13 = .ok (.if_icmp .eq 9, 3) := by decide +kernel
theorem dX4_expectSign_16 : decode cX4_expectSign 16 = .ok (.aload_n 0, 1) := by decide +kernel
theorem dX4_expectSign_17 : decode cX4_expectSign 17 = .ok (.iconst 1, 1) := by decide +kernel
theorem dX4_expectSign_18 : decode cX4_expectSign 18 = .ok (.invokevirtual 53, 3) := by decide +kernel
theorem dX4_expectSign_21 : decode cX4_expectSign 21 = .ok (.return_, 1) := by decide +kernel
theorem dX4_expectSign_22 : decode cX4_expectSign 22 = .ok (.aload_n 0, 1) := by decide +kernel
theorem dX4_expectSign_23 : decode cX4_expectSign 23 = .ok (.invokevirtual 42, 3) := by decide +kernel
theorem dX4_expectSign_26 : decode cX4_expectSign 26 = .ok (.return_, 1) := by decide +kernel
theorem dX4_blame_0 : decode cX4_blame 0 = .ok (.aload_n 0, 1) := by decide +kernel
theorem dX4_blame_1 : decode cX4_blame 1 = .ok (.iload_n 1, 1) := by decide +kernel
theorem dX4_blame_2 : decode cX4_blame 2 = .ok (.putfield 19, 3) := by decide +kernel
theorem dX4_blame_5 : decode cX4_blame 5 = .ok (.aload_n 0, 1) := by decide +kernel
theorem dX4_blame_6 : decode cX4_blame 6 = .ok (.aload_n 0, 1) := by decide +kernel
theorem dX4_blame_7 : decode cX4_blame 7 = .ok (.getfield 31, 3) := by decide +kernel
theorem dX4_blame_10 : decode cX4_blame 10 = .ok (.putfield 22, 3) := by decide +kernel
theorem dX4_blame_13 : decode cX4_blame 13 = .ok (.return_, 1) := by decide +kernel
theorem dX4_readToken_0 : decode cX4_readToken 0 = .ok (.aload_n 0, 1) := by decide +kernel
theorem dX4_readToken_1 : decode cX4_readToken 1 = .ok (.getfield 25, 3) := by decide +kernel
theorem dX4_readToken_4 : decode cX4_readToken 4 = .ok (.aload_n 0, 1) := by decide +kernel
theorem dX4_readToken_5 : decode cX4_readToken 5 = .ok (.getfield 15, 3) := by decide +kernel
theorem dX4_readToken_8 : decode cX4_readToken 8 = .ok (.if_icmp .ge 31, 3) := by decide +kernel
theorem dX4_readToken_11 : decode cX4_readToken 11 = .ok (.aload_n 0, 1) := by decide +kernel
theorem dX4_readToken_12 : decode cX4_readToken 12 = .ok (.getfield 9, 3) := by decide +kernel
theorem dX4_readToken_15 : decode cX4_readToken 15 = .ok (.aload_n 0, 1) := by decide +kernel
theorem dX4_readToken_16 : decode cX4_readToken 16 = .ok (.getfield 25, 3) := by decide +kernel
theorem dX4_readToken_19 : decode cX4_readToken 19 = .ok (.iaload, 1) := by decide +kernel
theorem dX4_readToken_20 : decode cX4_readToken 20 = .ok (.invokestatic 106, 3) := by decide +kernel
theorem dX4_readToken_23 : decode cX4_readToken 23 = .ok (.ifCond .eq 16, 3) := by decide +kernel
theorem dX4_readToken_26 : decode cX4_readToken 26 = .ok (.aload_n 0, 1) := by decide +kernel
theorem dX4_readToken_27 : decode cX4_readToken 27 = .ok (.dup, 1) := by decide +kernel
theorem dX4_readToken_28 : decode cX4_readToken 28 = .ok (.getfield 25, 3) := by decide +kernel
theorem dX4_readToken_31 : decode cX4_readToken 31 = .ok (.iconst 1, 1) := by decide +kernel
theorem dX4_readToken_32 : decode cX4_readToken 32 = .ok (.iadd, 1) := by decide +kernel
theorem dX4_readToken_33 : decode cX4_readToken 33 = .ok (.putfield 25, 3) := by decide +kernel
theorem dX4_readToken_36 : decode cX4_readToken 36 = .ok (.goto (-36), 3) := by decide +kernel
theorem dX4_readToken_39 : decode cX4_readToken 39 = .ok (.aload_n 0, 1) := by decide +kernel
theorem dX4_readToken_40 : decode cX4_readToken 40 = .ok (.aload_n 0, 1) := by decide +kernel
theorem dX4_readToken_41 : decode cX4_readToken 41 = .ok (.getfield 25, 3) := by decide +kernel
theorem dX4_readToken_44 : decode cX4_readToken 44 = .ok (.putfield 31, 3) := by decide +kernel
theorem dX4_readToken_47 : decode cX4_readToken 47 = .ok (.aload_n 0, 1) := by decide +kernel
theorem dX4_readToken_48 : decode cX4_readToken 48 = .ok (.getfield 25, 3) := by decide +kernel
theorem dX4_readToken_51 : decode cX4_readToken 51 = .ok (.aload_n 0, 1) := by decide +kernel
theorem dX4_readToken_52 : decode cX4_readToken 52 = .ok (.getfield 15, 3) := by decide +kernel
theorem dX4_readToken_55 : decode cX4_readToken 55 = .ok (.if_icmp .lt 11, 3) := by decide +kernel
theorem dX4_readToken_58 : decode cX4_readToken 58 = .ok (.aload_n 0, 1) := by decide +kernel
theorem dX4_readToken_59 : decode cX4_readToken 59 = .ok (.iconst 0, 1) := by decide +kernel
theorem dX4_readToken_60 : decode cX4_readToken 60 = .ok (.putfield 28, 3) := by decide +kernel
theorem dX4_readToken_63 : decode cX4_readToken 63 = .ok (.goto 85, 3) := by decide +kernel
theorem dX4_readToken_66 : decode cX4_readToken 66 = .ok (.aload_n 0, 1) := by decide +kernel
theorem dX4_readToken_67 : decode cX4_readToken 67 = .ok (.getfield 9, 3) := by decide +kernel
theorem dX4_readToken_70 : decode cX4_readToken 70 = .ok (.aload_n 0, 1) := by decide +kernel
theorem dX4_readToken_71 : decode cX4_readToken 71 = .ok (.getfield 25, 3) := by decide +kernel
theorem dX4_readToken_74 : decode cX4_readToken 74 = .ok (.iaload, 1) := by decide +kernel
theorem dX4_readToken_75 : decode cX4_readToken 75 = .ok (.invokestatic 110, 3) := by decide +kernel
theorem dX4_readToken_78 : decode cX4_readToken 78 = .ok (.ifCond .eq 15, 3) := by decide +kernel
theorem dX4_readToken_81 : decode cX4_readToken 81 = .ok (.aload_n 0, 1) := by decide +kernel
theorem dX4_readToken_82 : decode cX4_readToken 82 = .ok (.iconst 1, 1) := by decide +kernel
theorem dX4_readToken_83 : decode cX4_readToken 83 = .ok (.putfield 28, 3) := by decide +kernel
theorem dX4_readToken_86 : decode cX4_readToken 86 = .ok (.aload_n 0, 1) := by decide +kernel
theorem dX4_readToken_87 : decode cX4_readToken 87 = .ok (.invokevirtual 113, 3) := by decide +kernel
theorem dX4_readToken_90 : decode cX4_readToken 90 = .ok (.goto 58, 3) := by decide +kernel
theorem dX4_readToken_93 : decode cX4_readToken 93 = .ok (.aload_n 0, 1) := by decide +kernel
theorem dX4_readToken_94 : decode cX4_readToken 94 = .ok (.getfield 9, 3) := by decide +kernel
theorem dX4_readToken_97 : decode cX4_readToken 97 = .ok (.aload_n 0, 1) := by decide +kernel
theorem dX4_readToken_98 : decode cX4_readToken 98 = .ok (.getfield 25, 3) := by decide +kernel
theorem dX4_readToken_101 : decode cX4_readToken 101 = .ok (.iaload, 1) := by decide +kernel
theorem dX4_readToken_102 : decode cX4_readToken 102 = .ok (.invokestatic 116, 3) := by decide +kernel
theorem dX4_readToken_105 : decode cX4_readToken 105 = .ok (.ifCond .eq 10, 3) := by decide +kernel
theorem dX4_readToken_108 : decode cX4_readToken 108 = .ok (.aload_n 0, 1) := by decide +kernel
theorem dX4_readToken_109 : decode cX4_readToken 109 = .ok (.invokevirtual 119, 3) := by decide +kernel
theorem dX4_readToken_112 : decode cX4_readToken 112 = .ok (.goto 36, 3) := by decide +kernel
theorem dX4_readToken_115 : decode cX4_readToken 115 = .ok (.aload_n 0, 1) := by decide +kernel
theorem dX4_readToken_116 : decode cX4_readToken 116 = .ok (.aload_n 0, 1) := by decide +kernel
theorem dX4_readToken_117 : decode cX4_readToken 117 = .ok (.getfield 9, 3) := by decide +kernel
theorem dX4_readToken_120 : decode cX4_readToken 120 = .ok (.aload_n 0, 1) := by decide +kernel
theorem dX4_readToken_121 : decode cX4_readToken 121 = .ok (.getfield 25, 3) := by decide +kernel
theorem dX4_readToken_124 : decode cX4_readToken 124 = .ok (.iaload, 1) := by decide +kernel
theorem dX4_readToken_125 : decode cX4_readToken 125 = .ok (.bipush 59, 2) := by decide +kernel
theorem dX4_readToken_127 : decode cX4_readToken 127 = .ok (.if_icmp .ne 7, 3) := by decide +kernel
theorem dX4_readToken_130 : decode cX4_readToken 130 = .ok (.iconst 3, 1) := by decide +kernel
theorem dX4_readToken_131 : decode cX4_readToken 131 = .ok (.goto 4, 3) := by decide +kernel
theorem dX4_readToken_134 : decode cX4_readToken 134 = .ok (.iconst 4, 1) := by decide +kernel
theorem dX4_readToken_135 : decode cX4_readToken 135 = .ok (.putfield 28, 3) := by decide +kernel
theorem dX4_readToken_138 : decode cX4_readToken 138 = .ok (.aload_n 0, 1) := by decide +kernel
theorem dX4_readToken_139 : decode cX4_readToken 139 = .ok (.dup, 1) := by decide +kernel
theorem dX4_readToken_140 : decode cX4_readToken 140 = .ok (.getfield 25, 3) := by decide +kernel
theorem dX4_readToken_143 : decode cX4_readToken 143 = .ok (.iconst 1, 1) := by decide +kernel
theorem dX4_readToken_144 : decode cX4_readToken 144 = .ok (.iadd, 1) := by decide +kernel
theorem dX4_readToken_145 : decode cX4_readToken 145 = .ok (.putfield 25, 3) := by decide +kernel
theorem dX4_readToken_148 : decode cX4_readToken 148 = .ok (.return_, 1) := by decide +kernel
theorem dX4_skipLetters_0 : decode cX4_skipLetters 0 = .ok (.aload_n 0, 1) := by decide +kernel
theorem dX4_skipLetters_1 : decode cX4_skipLetters 1 = .ok (.getfield 25, 3) := by decide +kernel
theorem dX4_skipLetters_4 : decode cX4_skipLetters 4 = .ok (.aload_n 0, 1) := by decide +kernel
theorem dX4_skipLetters_5 : decode cX4_skipLetters 5 = .ok (.getfield 15, 3) := by decide +kernel
theorem dX4_skipLetters_8 : decode cX4_skipLetters 8 = .ok (.if_icmp .ge 31, 3) := by decide +kernel
theorem dX4_skipLetters_11 : decode cX4_skipLetters 11 = .ok (.aload_n 0, 1) := by decide +kernel
theorem dX4_skipLetters_12 : decode cX4_skipLetters 12 = .ok (.getfield 9, 3) := by decide +kernel
theorem dX4_skipLetters_15 : decode cX4_skipLetters 15 = .ok (.aload_n 0, 1) := by decide +kernel
theorem dX4_skipLetters_16 : decode cX4_skipLetters 16 = .ok (.getfield 25, 3) := by decide +kernel
theorem dX4_skipLetters_19 : decode cX4_skipLetters 19 = .ok (.iaload, 1) := by decide +kernel
theorem dX4_skipLetters_20 : decode cX4_skipLetters 20 = .ok (.invokestatic 110, 3) := by decide +kernel
theorem dX4_skipLetters_23 : decode cX4_skipLetters 23 = .ok (.ifCond .eq 16, 3) := by decide +kernel
theorem dX4_skipLetters_26 : decode cX4_skipLetters 26 = .ok (.aload_n 0, 1) := by decide +kernel
theorem dX4_skipLetters_27 : decode cX4_skipLetters 27 = .ok (.dup, 1) := by decide +kernel
theorem dX4_skipLetters_28 : decode cX4_skipLetters 28 = .ok (.getfield 25, 3) := by decide +kernel
theorem dX4_skipLetters_31 : decode cX4_skipLetters 31 = .ok (.iconst 1, 1) := by decide +kernel
theorem dX4_skipLetters_32 : decode cX4_skipLetters 32 = .ok (.iadd, 1) := by decide +kernel
theorem dX4_skipLetters_33 : decode cX4_skipLetters 33 = .ok (.putfield 25, 3) := by decide +kernel
theorem dX4_skipLetters_36 : decode cX4_skipLetters 36 = .ok (.goto (-36), 3) := by decide +kernel
theorem dX4_skipLetters_39 : decode cX4_skipLetters 39 = .ok (.return_, 1) := by decide +kernel
theorem dX4_readDigits_0 : decode cX4_readDigits 0 = .ok (.aload_n 0, 1) := by decide +kernel
theorem dX4_readDigits_1 : decode cX4_readDigits 1 = .ok (.iconst 0, 1) := by decide +kernel
theorem dX4_readDigits_2 : decode cX4_readDigits 2 = .ok (.putfield 34, 3) := by decide +kernel
theorem dX4_readDigits_5 : decode cX4_readDigits 5 = .ok (.aload_n 0, 1) := by decide +kernel
theorem dX4_readDigits_6 : decode cX4_readDigits 6 = .ok (.getfield 25, 3) := by decide +kernel
theorem dX4_readDigits_9 : decode cX4_readDigits 9 = .ok (.aload_n 0, 1) := by decide +kernel
theorem dX4_readDigits_10 : decode cX4_readDigits 10 = .ok (.getfield 15, 3) := by decide +kernel
theorem dX4_readDigits_13 : decode cX4_readDigits 13 = .ok (.if_icmp .ge 68, 3) := by decide +kernel
theorem dX4_readDigits_16 : decode cX4_readDigits 16 = .ok (.aload_n 0, 1) := by decide +kernel
theorem dX4_readDigits_17 : decode cX4_readDigits 17 = .ok (.getfield 9, 3) := by decide +kernel
theorem dX4_readDigits_20 : decode cX4_readDigits 20 = .ok (.aload_n 0, 1) := by decide +kernel
theorem dX4_readDigits_21 : decode cX4_readDigits 21 = .ok (.getfield 25, 3) := by decide +kernel
theorem dX4_readDigits_24 : decode cX4_readDigits 24 = .ok (.iaload, 1) := by decide +kernel
theorem dX4_readDigits_25 : decode cX4_readDigits 25 = .ok (.invokestatic 116, 3) := by decide +kernel
theorem dX4_readDigits_28 : decode cX4_readDigits 28 = .ok (.ifCond .eq 53, 3) := by decide +kernel
theorem dX4_readDigits_31 : decode cX4_readDigits 31 = .ok (.aload_n 0, 1) := by decide +kernel
theorem dX4_readDigits_32 : decode cX4_readDigits 32 = .ok (.getfield 25, 3) := by decide +kernel
theorem dX4_readDigits_35 : decode cX4_readDigits 35 = .ok (.aload_n 0, 1) := by decide +kernel
theorem dX4_readDigits_36 : decode cX4_readDigits 36 = .ok (.getfield 31, 3) := by decide +kernel
theorem dX4_readDigits_39 : decode cX4_readDigits 39 = .ok (.isub, 1) := by decide +kernel
theorem dX4_readDigits_40 : decode cX4_readDigits 40 = .ok (.iconst 4, 1) := by decide +kernel
theorem dX4_readDigits_41 : decode cX4_readDigits 41 = .ok (.if_icmp .ge 27, 3) := by decide +kernel
theorem dX4_readDigits_44 : decode cX4_readDigits 44 = .ok (.aload_n 0, 1) := by decide +kernel
theorem dX4_readDigits_45 : decode cX4_readDigits 45 = .ok (.aload_n 0, 1) := by decide +kernel
theorem dX4_readDigits_46 : decode cX4_readDigits 46 = .ok (.getfield 34, 3) := by decide +kernel
theorem dX4_readDigits_49 : decode cX4_readDigits 49 = .ok (.bipush 10, 2) := by decide +kernel
theorem dX4_readDigits_51 : decode cX4_readDigits 51 = .ok (.imul, 1) := by decide +kernel
theorem dX4_readDigits_52 : decode cX4_readDigits 52 = .ok (.aload_n 0, 1) := by decide +kernel
theorem dX4_readDigits_53 : decode cX4_readDigits 53 = .ok (.getfield 9, 3) := by decide +kernel
theorem dX4_readDigits_56 : decode cX4_readDigits 56 = .ok (.aload_n 0, 1) := by decide +kernel
theorem dX4_readDigits_57 : decode cX4_readDigits 57 = .ok (.getfield 25, 3) := by decide +kernel
theorem dX4_readDigits_60 : decode cX4_readDigits 60 = .ok (.iaload, 1) := by decide +kernel
theorem dX4_readDigits_61 : decode cX4_readDigits 61 = .ok (.bipush 48, 2) := by decide +kernel
theorem dX4_readDigits_63 : decode cX4_readDigits 63 = .ok (.isub, 1) := by decide +kernel
theorem dX4_readDigits_64 : decode cX4_readDigits 64 = .ok (.iadd, 1) := by decide +kernel
theorem dX4_readDigits_65 : decode cX4_readDigits 65 = .ok (.putfield 34, 3) := by decide +kernel
theorem dX4_readDigits_68 : decode cX4_readDigits 68 = .ok (.aload_n 0, 1) := by decide +kernel
theorem dX4_readDigits_69 : decode cX4_readDigits 69 = .ok (.dup, 1) := by decide +kernel
theorem dX4_readDigits_70 : decode cX4_readDigits 70 = .ok (.getfield 25, 3) := by decide +kernel
theorem dX4_readDigits_73 : decode cX4_readDigits 73 = .ok (.iconst 1, 1) := by decide +kernel
theorem dX4_readDigits_74 : decode cX4_readDigits 74 = .ok (.iadd, 1) := by decide +kernel
theorem dX4_readDigits_75 : decode cX4_readDigits 75 = .ok (.putfield 25, 3) := by decide +kernel
theorem dX4_readDigits_78 : decode cX4_readDigits 78 = .ok (.goto (-73), 3) := by decide +kernel
theorem dX4_readDigits_81 : decode cX4_readDigits 81 = .ok (.aload_n 0, 1) := by decide +kernel
theorem dX4_readDigits_82 : decode cX4_readDigits 82 = .ok (.aload_n 0, 1) := by decide +kernel
theorem dX4_readDigits_83 : decode cX4_readDigits 83 = .ok (.getfield 25, 3) := by decide +kernel
theorem dX4_readDigits_86 : decode cX4_readDigits 86 = .ok (.aload_n 0, 1) := by decide +kernel
theorem dX4_readDigits_87 : decode cX4_readDigits 87 = .ok (.getfield 31, 3) := by decide +kernel
theorem dX4_readDigits_90 : decode cX4_readDigits 90 = .ok (.isub, 1) := by decide +kernel
theorem dX4_readDigits_91 : decode cX4_readDigits 91 = .ok (.iconst 4, 1) := by decide +kernel
theorem dX4_readDigits_92 : decode cX4_readDigits 92 = .ok (.if_icmp .gt 7, 3) := by decide +kernel
theorem dX4_readDigits_95 : decode cX4_readDigits 95 = .ok (.iconst 2, 1) := by decide +kernel
theorem dX4_readDigits_96 : decode cX4_readDigits 96 = .ok (.goto 4, 3) := by decide +kernel
theorem dX4_readDigits_99 : decode cX4_readDigits 99 = .ok (.iconst 4, 1) := by decide +kernel
theorem dX4_readDigits_100 : decode cX4_readDigits 100 = .ok (.putfield 28, 3) := by decide +kernel
theorem dX4_readDigits_103 : decode cX4_readDigits 103 = .ok (.return_, 1) := by decide +kernel
theorem dX4_isWord_0 : decode cX4_isWord 0 = .ok (.aload_n 0, 1) := by decide +kernel
theorem dX4_isWord_1 : decode cX4_isWord 1 = .ok (.getfield 28, 3) := by decide +kernel
theorem dX4_isWord_4 : decode cX4_isWord 4 = .ok (.iconst 1, 1) := by decide +kernel
theorem dX4_isWord_5 : decode cX4_isWord 5 = .ok (.if_icmp .ne 19, 3) := by decide +kernel
theorem dX4_isWord_8 : decode cX4_isWord 8 = .ok (.aload_n 0, 1) := by decide +kernel
theorem dX4_isWord_9 : decode cX4_isWord 9 = .ok (.getfield 25, 3) := by decide +kernel
theorem dX4_isWord_12 : decode cX4_isWord 12 = .ok (.aload_n 0, 1) := by decide +kernel
theorem dX4_isWord_13 : decode cX4_isWord 13 = .ok (.getfield 31, 3) := by decide +kernel
theorem dX4_isWord_16 : decode cX4_isWord 16 = .ok (.isub, 1) := by decide +kernel
theorem dX4_isWord_17 : decode cX4_isWord 17 = .ok (.aload_n 1, 1) := by decide +kernel
theorem dX4_isWord_18 : decode cX4_isWord 18 = .ok (.invokevirtual 122, 3) := by decide +kernel
theorem dX4_isWord_21 : decode cX4_isWord 21 = .ok (.if_icmp .eq 5, 3) := by decide +kernel
theorem dX4_isWord_24 : decode cX4_isWord 24 = .ok (.iconst 0, 1) := by decide +kernel
theorem dX4_isWord_25 : decode cX4_isWord 25 = .ok (.ireturn, 1) := by decide +kernel
theorem dX4_isWord_26 : decode cX4_isWord 26 = .ok (.iconst 0, 1) := by decide +kernel
theorem dX4_isWord_27 : decode cX4_isWord 27 = .ok (.istore_n 2, 1) := by decide +kernel
theorem dX4_isWord_28 : decode cX4_isWord 28 = .ok (.iload_n 2, 1) := by decide +kernel
theorem dX4_isWord_29 : decode cX4_isWord 29 = .ok (.aload_n 1, 1) := by decide +kernel
theorem dX4_isWord_30 : decode cX4_isWord 30 = .ok (.invokevirtual 122, 3) := by decide +kernel
theorem dX4_isWord_33 : decode cX4_isWord 33 = .ok (.if_icmp .ge 30, 3) := by decide +kernel
theorem dX4_isWord_36 : decode cX4_isWord 36 = .ok (.aload_n 0, 1) := by decide +kernel
theorem dX4_isWord_37 : decode cX4_isWord 37 = .ok (.getfield 9, 3) := by decide +kernel
theorem dX4_isWord_40 : decode cX4_isWord 40 = .ok (.aload_n 0, 1) := by decide +kernel
theorem dX4_isWord_41 : decode cX4_isWord 41 = .ok (.getfield 31, 3) := by decide +kernel
theorem dX4_isWord_44 : decode cX4_isWord 44 = .ok (.iload_n 2, 1) := by decide +kernel
theorem dX4_isWord_45 : decode cX4_isWord 45 = .ok (.iadd, 1) := by decide +kernel
theorem dX4_isWord_46 : decode cX4_isWord 46 = .ok (.iaload, 1) := by decide +kernel
theorem dX4_isWord_47 : decode cX4_isWord 47 = .ok (.aload_n 1, 1) := by decide +kernel
theorem dX4_isWord_48 : decode cX4_isWord 48 = .ok (.iload_n 2, 1) := by decide +kernel
theorem dX4_isWord_49 : decode cX4_isWord 49 = .ok (.invokevirtual 126, 3) := by decide +kernel
theorem dX4_isWord_52 : decode cX4_isWord 52 = .ok (.if_icmp .eq 5, 3) := by decide +kernel
theorem dX4_isWord_55 : decode cX4_isWord 55 = .ok (.iconst 0, 1) := by decide +kernel
theorem dX4_isWord_56 : decode cX4_isWord 56 = .ok (.ireturn, 1) := by decide +kernel
theorem dX4_isWord_57 : decode cX4_isWord 57 = .ok (.iinc 2 1, 3) := by decide +kernel
theorem dX4_isWord_60 : decode cX4_isWord 60 = .ok (.goto (-32), 3) := by decide +kernel
theorem dX4_isWord_63 : decode cX4_isWord 63 = .ok (.iconst 1, 1) := by decide +kernel
theorem dX4_isWord_64 : decode cX4_isWord 64 = .ok (.ireturn, 1) := by decide +kernel
theorem dX4_isBlank_0 : decode cX4_isBlank 0 = .ok (.iload_n 0, 1) := by decide +kernel
theorem dX4_isBlank_1 : decode cX4_isBlank 1 = .ok (.bipush 32, 2) := by decide +kernel
theorem dX4_isBlank_3 : decode cX4_isBlank 3 = .ok (.if_icmp .eq 9, 3) := by decide +kernel
theorem dX4_isBlank_6 : decode cX4_isBlank 6 = .ok (.iload_n 0, 1) := by decide +kernel
theorem dX4_isBlank_7 : decode cX4_isBlank 7 = .ok (.bipush 10, 2) := by decide +kernel
theorem dX4_isBlank_9 : decode cX4_isBlank 9 = .ok (.if_icmp .ne 7, 3) := by decide +kernel
theorem dX4_isBlank_12 : decode cX4_isBlank 12 = .ok (.iconst 1, 1) := by decide +kernel
theorem dX4_isBlank_13 : decode cX4_isBlank 13 = .ok (.goto 4, 3) := by decide +kernel
theorem dX4_isBlank_16 : decode cX4_isBlank 16 = .ok (.iconst 0, 1) := by decide +kernel
theorem dX4_isBlank_17 : decode cX4_isBlank 17 = .ok (.ireturn, 1) := by decide +kernel
theorem dX4_isLetter_0 : decode cX4_isLetter 0 = .ok (.iload_n 0, 1) := by decide +kernel
theorem dX4_isLetter_1 : decode cX4_isLetter 1 = .ok (.bipush 97, 2) := by decide +kernel
theorem dX4_isLetter_3 : decode cX4_isLetter 3 = .ok (.if_icmp .lt 13, 3) := by decide +kernel
theorem dX4_isLetter_6 : decode cX4_isLetter 6 = .ok (.iload_n 0, 1) := by decide +kernel
theorem dX4_isLetter_7 : decode cX4_isLetter 7 = .ok (.bipush 122, 2) := by decide +kernel
theorem dX4_isLetter_9 : decode cX4_isLetter 9 = .ok (.if_icmp .gt 7, 3) := by decide +kernel
theorem dX4_isLetter_12 : decode cX4_isLetter 12 = .ok (.iconst 1, 1) := by decide +kernel
theorem dX4_isLetter_13 : decode cX4_isLetter 13 = .ok (.goto 4, 3) := by decide +kernel
theorem dX4_isLetter_16 : decode cX4_isLetter 16 = .ok (.iconst 0, 1) := by decide +kernel
theorem dX4_isLetter_17 : decode cX4_isLetter 17 = .ok (.ireturn, 1) := by decide +kernel
theorem dX4_isDigit_0 : decode cX4_isDigit 0 = .ok (.iload_n 0, 1) := by decide +kernel
theorem dX4_isDigit_1 : decode cX4_isDigit 1 = .ok (.bipush 48, 2) := by decide +kernel
theorem dX4_isDigit_3 : decode cX4_isDigit 3 = .ok (.if_icmp .lt 13, 3) := by decide +kernel
theorem dX4_isDigit_6 : decode cX4_isDigit 6 = .ok (.iload_n 0, 1) := by decide +kernel
theorem dX4_isDigit_7 : decode cX4_isDigit 7 = .ok (.bipush 57, 2) := by decide +kernel
theorem dX4_isDigit_9 : decode cX4_isDigit 9 = .ok (.if_icmp .gt 7, 3) := by decide +kernel
theorem dX4_isDigit_12 : decode cX4_isDigit 12 = .ok (.iconst 1, 1) := by decide +kernel
theorem dX4_isDigit_13 : decode cX4_isDigit 13 = .ok (.goto 4, 3) := by decide +kernel
theorem dX4_isDigit_16 : decode cX4_isDigit 16 = .ok (.iconst 0, 1) := by decide +kernel
theorem dX4_isDigit_17 : decode cX4_isDigit 17 = .ok (.ireturn, 1) := by decide +kernel
theorem dX5_init_0 : decode cX5_init 0 = .ok (.aload_n 0, 1) := by decide +kernel
theorem dX5_init_1 : decode cX5_init 1 = .ok (.invokespecial 3, 3) := by decide +kernel
theorem dX5_init_4 : decode cX5_init 4 = .ok (.aload_n 0, 1) := by decide +kernel
theorem dX5_init_5 : decode cX5_init 5 = .ok (.bipush 9, 2) := by decide +kernel
theorem dX5_init_7 : decode cX5_init 7 = .ok (.anewarray 9, 3) := by decide +kernel
theorem dX5_init_10 : decode cX5_init 10 = .ok (.putfield 11, 3) := by decide +kernel
theorem dX5_init_13 : decode cX5_init 13 = .ok (.aload_n 0, 1) := by decide +kernel
theorem dX5_init_14 : decode cX5_init 14 = .ok (.iconst 0, 1) := by decide +kernel
theorem dX5_init_15 : decode cX5_init 15 = .ok (.putfield 17, 3) := by decide +kernel
theorem dX5_init_18 : decode cX5_init 18 = .ok (.aload_n 0, 1) := by decide +kernel
theorem dX5_init_19 : decode cX5_init 19 = .ok (.bipush 9, 2) := by decide +kernel
theorem dX5_init_21 : decode cX5_init 21 = .ok (.newarray .int, 2) := by decide +kernel
theorem dX5_init_23 : decode cX5_init 23 = .ok (.putfield 21, 3) := by decide +kernel
theorem dX5_init_26 : decode cX5_init 26 = .ok (.aload_n 0, 1) := by decide +kernel
theorem dX5_init_27 : decode cX5_init 27 = .ok (.sipush 4608, 3) := by decide +kernel
theorem dX5_init_30 : decode cX5_init 30 = .ok (.newarray .int, 2) := by decide +kernel
theorem dX5_init_32 : decode cX5_init 32 = .ok (.putfield 25, 3) := by decide +kernel
theorem dX5_init_35 : decode cX5_init 35 = .ok (.aload_n 0, 1) := by decide +kernel
theorem dX5_init_36 : decode cX5_init 36 = .ok (.sipush 512, 3) := by decide +kernel
theorem dX5_init_39 : decode cX5_init 39 = .ok (.newarray .int, 2) := by decide +kernel
theorem dX5_init_41 : decode cX5_init 41 = .ok (.putfield 28, 3) := by decide +kernel
theorem dX5_init_44 : decode cX5_init 44 = .ok (.aload_n 0, 1) := by decide +kernel
theorem dX5_init_45 : decode cX5_init 45 = .ok (.sipush 512, 3) := by decide +kernel
theorem dX5_init_48 : decode cX5_init 48 = .ok (.newarray .int, 2) := by decide +kernel
theorem dX5_init_50 : decode cX5_init 50 = .ok (.putfield 31, 3) := by decide +kernel
theorem dX5_init_53 : decode cX5_init 53 = .ok (.aload_n 0, 1) := by decide +kernel
theorem dX5_init_54 : decode cX5_init 54 = .ok (.iconst 0, 1) := by decide +kernel
theorem dX5_init_55 : decode cX5_init 55 = .ok (.putfield 34, 3) := by decide +kernel
theorem dX5_init_58 : decode cX5_init 58 = .ok (.return_, 1) := by decide +kernel
theorem dX5_clear_0 : decode cX5_clear 0 = .ok (.aload_n 0, 1) := by decide +kernel
theorem dX5_clear_1 : decode cX5_clear 1 = .ok (.iconst 0, 1) := by decide +kernel
theorem dX5_clear_2 : decode cX5_clear 2 = .ok (.putfield 17, 3) := by decide +kernel
theorem dX5_clear_5 : decode cX5_clear 5 = .ok (.aload_n 0, 1) := by decide +kernel
theorem dX5_clear_6 : decode cX5_clear 6 = .ok (.iconst 0, 1) := by decide +kernel
theorem dX5_clear_7 : decode cX5_clear 7 = .ok (.putfield 34, 3) := by decide +kernel
theorem dX5_clear_10 : decode cX5_clear 10 = .ok (.return_, 1) := by decide +kernel
theorem dX5_add_0 : decode cX5_add 0 = .ok (.aload_n 0, 1) := by decide +kernel
theorem dX5_add_1 : decode cX5_add 1 = .ok (.getfield 17, 3) := by decide +kernel
theorem dX5_add_4 : decode cX5_add 4 = .ok (.bipush 9, 2) := by decide +kernel
theorem dX5_add_6 : decode cX5_add 6 = .ok (.if_icmp .ge 23, 3) := by decide +kernel
theorem dX5_add_9 : decode cX5_add 9 = .ok (.aload_n 0, 1) := by decide +kernel
theorem dX5_add_10 : decode cX5_add 10 = .ok (.getfield 11, 3) := by decide +kernel
theorem dX5_add_13 : decode cX5_add 13 = .ok (.aload_n 0, 1) := by decide +kernel
theorem dX5_add_14 : decode cX5_add 14 = .ok (.getfield 17, 3) := by decide +kernel
theorem dX5_add_17 : decode cX5_add 17 = .ok (.aload_n 1, 1) := by decide +kernel
theorem dX5_add_18 : decode cX5_add 18 = .ok (.aastore, 1) := by decide +kernel
theorem dX5_add_19 : decode cX5_add 19 = .ok (.aload_n 0, 1) := by decide +kernel
theorem dX5_add_20 : decode cX5_add 20 = .ok (.dup, 1) := by decide +kernel
theorem dX5_add_21 : decode cX5_add 21 = .ok (.getfield 17, 3) := by decide +kernel
theorem dX5_add_24 : decode cX5_add 24 = .ok (.iconst 1, 1) := by decide +kernel
theorem dX5_add_25 : decode cX5_add 25 = .ok (.iadd, 1) := by decide +kernel
theorem dX5_add_26 : decode cX5_add 26 = .ok (.putfield 17, 3) := by decide +kernel
theorem dX5_add_29 : decode cX5_add 29 = .ok (.return_, 1) := by decide +kernel
theorem dX5_findBest_0 : decode cX5_findBest 0 = .ok (.iconst 1, 1) := by decide +kernel
theorem dX5_findBest_1 : decode cX5_findBest 1 = .ok (.aload_n 0, 1) := by decide +kernel
theorem dX5_findBest_2 : decode cX5_findBest 2 = .ok (.getfield 17, 3) := by decide +kernel
theorem dX5_findBest_5 : decode cX5_findBest 5 = .ok (.ishl, 1) := by decide +kernel
theorem dX5_findBest_6 : decode cX5_findBest 6 = .ok (.istore_n 2, 1) := by decide +kernel
theorem dX5_findBest_7 : decode cX5_findBest 7 = .ok (.aload_n 0, 1) := by decide +kernel
theorem dX5_findBest_8 : decode cX5_findBest 8 = .ok (.invokevirtual 37, 3) := by decide +kernel
theorem dX5_findBest_11 : decode cX5_findBest 11 = .ok (.aload_n 0, 1) := by decide +kernel
theorem dX5_findBest_12 : decode cX5_findBest 12 = .ok (.iload_n 2, 1) := by decide +kernel
theorem dX5_findBest_13 : decode cX5_findBest 13 = .ok (.invokevirtual 40, 3) := by decide +kernel
theorem dX5_findBest_16 : decode cX5_findBest 16 = .ok (.iconst 0, 1) := by decide +kernel
theorem dX5_findBest_17 : decode cX5_findBest 17 = .ok (.istore_n 3, 1) := by decide +kernel
theorem dX5_findBest_18 : decode cX5_findBest 18 = .ok (.iload_n 3, 1) := by decide +kernel
theorem dX5_findBest_19 : decode cX5_findBest 19 = .ok (.aload_n 0, 1) := by decide +kernel
theorem dX5_findBest_20 : decode cX5_findBest 20 = .ok (.getfield 17, 3) := by decide +kernel
theorem dX5_findBest_23 : decode cX5_findBest 23 = .ok (.if_icmp .ge 23, 3) := by decide +kernel
theorem dX5_findBest_26 : decode cX5_findBest 26 = .ok (.aload_n 0, 1) := by decide +kernel
theorem dX5_findBest_27 : decode cX5_findBest 27 = .ok (.getfield 25, 3) := by decide +kernel
theorem dX5_findBest_30 : decode cX5_findBest 30 = .ok (.iconst 1, 1) := by decide +kernel
theorem dX5_findBest_31 : decode cX5_findBest 31 = .ok (.iload_n 3, 1) := by decide +kernel
theorem dX5_findBest_32 : decode cX5_findBest 32 = .ok (.ishl, 1) := by decide +kernel
theorem dX5_findBest_33 : decode cX5_findBest 33 = .ok (.bipush 9, 2) := by decide +kernel
theorem dX5_findBest_35 : decode cX5_findBest 35 = .ok (.imul, 1) := by decide +kernel
theorem dX5_findBest_36 : decode cX5_findBest 36 = .ok (.iload_n 3, 1) := by decide +kernel
theorem dX5_findBest_37 : decode cX5_findBest 37 = .ok (.iadd, 1) := by decide +kernel
theorem dX5_findBest_38 : decode cX5_findBest 38 = .ok (.iconst 0, 1) := by decide +kernel
theorem dX5_findBest_39 : decode cX5_findBest 39 = .ok (.iastore, 1) := by decide +kernel
theorem dX5_findBest_40 : decode cX5_findBest 40 = .ok (.iinc 3 1, 3) := by decide +kernel
theorem dX5_findBest_43 : decode cX5_findBest 43 = .ok (.goto (-25), 3) := by decide +kernel
theorem dX5_findBest_46 : decode cX5_findBest 46 = .ok (.iconst 1, 1) := by decide +kernel
theorem dX5_findBest_47 : decode cX5_findBest 47 = .ok (.istore_n 3, 1) := by decide +kernel
theorem dX5_findBest_48 : decode cX5_findBest 48 = .ok (.iload_n 3, 1) := by decide +kernel
theorem dX5_findBest_49 : decode cX5_findBest 49 = .ok (.iload_n 2, 1) := by decide +kernel
theorem dX5_findBest_50 : decode cX5_findBest 50 = .ok (.if_icmp .ge 15, 3) := by decide +kernel
