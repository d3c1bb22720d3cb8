theorem dX3_brownStreets_18 : decode cX3_brownStreets 18 = .ok (.iinc 1 1, 3) := by decide +kernel
theorem dX3_brownStreets_21 : decode cX3_brownStreets 21 = .ok (.iinc 2 1, 3) := by decide +kernel
theorem dX3_brownStreets_24 : decode cX3_brownStreets 24 = .ok (.goto (-20), 3) := by decide +kernel
theorem dX3_brownStreets_27 : decode cX3_brownStreets 27 = .ok (.iload_n 1, 1) := by decide +kernel
theorem dX3_brownStreets_28 : decode cX3_brownStreets 28 = .ok (.ireturn, 1) := by decide +kernel
theorem dX3_streetsInTours_0 : decode cX3_streetsInTours 0 = .ok (.iconst 0, 1) := by decide +kernel
theorem dX3_streetsInTours_1 : decode cX3_streetsInTours 1 = .ok (.istore_n 1, 1) := by decide +kernel
theorem dX3_streetsInTours_2 : decode cX3_streetsInTours 2 = .ok (.iconst 0, 1) := by decide +kernel
theorem dX3_streetsInTours_3 : decode cX3_streetsInTours 3 = .ok (.istore_n 2, 1) := by decide +kernel
theorem dX3_streetsInTours_4 : decode cX3_streetsInTours 4 = .ok (.iload_n 2, 1) := by decide +kernel
theorem dX3_streetsInTours_5 : decode cX3_streetsInTours 5 = .ok (.iconst 3, 1) := by decide +kernel
theorem dX3_streetsInTours_6 : decode cX3_streetsInTours 6 = .ok (.if_icmp .ge 21, 3) := by decide +kernel
theorem dX3_streetsInTours_9 : decode cX3_streetsInTours 9 = .ok (.iload_n 1, 1) := by decide +kernel
theorem dX3_streetsInTours_10 : decode cX3_streetsInTours 10 = .ok (.aload_n 0, 1) := by decide +kernel
theorem dX3_streetsInTours_11 : decode cX3_streetsInTours 11 = .ok (.getfield 57, 3) := by decide +kernel
theorem dX3_streetsInTours_14 : decode cX3_streetsInTours 14 = .ok (.iload_n 2, 1) := by decide +kernel
theorem dX3_streetsInTours_15 : decode cX3_streetsInTours 15 = .ok (.aaload, 1) := by decide +kernel
theorem dX3_streetsInTours_16 : decode cX3_streetsInTours 16 = .ok (.getfield 80, 3) := by decide +kernel
theorem dX3_streetsInTours_19 : decode cX3_streetsInTours 19 = .ok (.iadd, 1) := by decide +kernel
theorem dX3_streetsInTours_20 : decode cX3_streetsInTours 20 = .ok (.istore_n 1, 1) := by decide +kernel
theorem dX3_streetsInTours_21 : decode cX3_streetsInTours 21 = .ok (.iinc 2 1, 3) := by decide +kernel
theorem dX3_streetsInTours_24 : decode cX3_streetsInTours 24 = .ok (.goto (-20), 3) := by decide +kernel
theorem dX3_streetsInTours_27 : decode cX3_streetsInTours 27 = .ok (.iload_n 1, 1) := by decide +kernel
theorem dX3_streetsInTours_28 : decode cX3_streetsInTours 28 = .ok (.ireturn, 1) := by decide +kernel
theorem dX3_sourceOf_0 : decode cX3_sourceOf 0 = .ok (.iload_n 1, 1) := by decide +kernel
theorem dX3_sourceOf_1 : decode cX3_sourceOf 1 = .ok (.iconst 4, 1) := by decide +kernel
theorem dX3_sourceOf_2 : decode cX3_sourceOf 2 = .ok (.idiv, 1) := by decide +kernel
theorem dX3_sourceOf_3 : decode cX3_sourceOf 3 = .ok (.istore_n 2, 1) := by decide +kernel
theorem dX3_sourceOf_4 : decode cX3_sourceOf 4 = .ok (.iload_n 1, 1) := by decide +kernel
theorem dX3_sourceOf_5 : decode cX3_sourceOf 5 = .ok (.iconst 4, 1) := by decide +kernel
theorem dX3_sourceOf_6 : decode cX3_sourceOf 6 = .ok (.irem, 1) := by decide +kernel
theorem dX3_sourceOf_7 : decode cX3_sourceOf 7 = .ok (.ifCond .ne 7, 3) := by decide +kernel
theorem dX3_sourceOf_10 : decode cX3_sourceOf 10 = .ok (.iconst 1, 1) := by decide +kernel
theorem dX3_sourceOf_11 : decode cX3_sourceOf 11 = .ok (.goto 4, 3) := by decide +kernel
theorem dX3_sourceOf_14 : decode cX3_sourceOf 14 = .ok (.iconst 0, 1) := by decide +kernel
theorem dX3_sourceOf_15 : decode cX3_sourceOf 15 = .ok (.istore_n 3, 1) := by decide +kernel
theorem dX3_sourceOf_16 : decode cX3_sourceOf 16 = .ok (.iload_n 3, 1) := by decide +kernel
theorem dX3_sourceOf_17 : decode cX3_sourceOf 17 = .ok (.ifCond .eq 20, 3) := by decide +kernel
theorem dX3_sourceOf_20 : decode cX3_sourceOf 20 = .ok (.iload_n 2, 1) := by decide +kernel
theorem dX3_sourceOf_21 : decode cX3_sourceOf 21 = .ok (.ifCond .eq 14, 3) := by decide +kernel
theorem dX3_sourceOf_24 : decode cX3_sourceOf 24 = .ok (.aload_n 0, 1) := by decide +kernel
theorem dX3_sourceOf_25 : decode cX3_sourceOf 25 = .ok (.getfield 21, 3) := by decide +kernel
theorem dX3_sourceOf_28 : decode cX3_sourceOf 28 = .ok (.iload_n 2, 1) := by decide +kernel
theorem dX3_sourceOf_29 : decode cX3_sourceOf 29 = .ok (.iconst 1, 1) := by decide +kernel
theorem dX3_sourceOf_30 : decode cX3_sourceOf 30 = .ok (.isub, 1) := by decide +kernel
theorem dX3_sourceOf_31 : decode cX3_sourceOf 31 = .ok (.baload, 1) := by decide +kernel
theorem dX3_sourceOf_32 : decode cX3_sourceOf 32 = .ok (.ifCond .ne 5, 3) := by decide +kernel
theorem dX3_sourceOf_35 : decode cX3_sourceOf 35 = .ok (.iconst (-1), 1) := by decide +kernel
theorem dX3_sourceOf_36 : decode cX3_sourceOf 36 = .ok (.ireturn, 1) := by decide +kernel
theorem dX3_sourceOf_37 : decode cX3_sourceOf 37 = .ok (.iload_n 1, 1) := by decide +kernel
theorem dX3_sourceOf_38 : decode cX3_sourceOf 38 = .ok (.iconst 1, 1) := by decide +kernel
theorem dX3_sourceOf_39 : decode cX3_sourceOf 39 = .ok (.isub, 1) := by decide +kernel
theorem dX3_sourceOf_40 : decode cX3_sourceOf 40 = .ok (.ireturn, 1) := by decide +kernel
theorem dX3_fedBy_0 : decode cX3_fedBy 0 = .ok (.iload_n 1, 1) := by decide +kernel
theorem dX3_fedBy_1 : decode cX3_fedBy 1 = .ok (.iconst 1, 1) := by decide +kernel
theorem dX3_fedBy_2 : decode cX3_fedBy 2 = .ok (.iadd, 1) := by decide +kernel
theorem dX3_fedBy_3 : decode cX3_fedBy 3 = .ok (.istore_n 2, 1) := by decide +kernel
theorem dX3_fedBy_4 : decode cX3_fedBy 4 = .ok (.iload_n 2, 1) := by decide +kernel
theorem dX3_fedBy_5 : decode cX3_fedBy 5 = .ok (.bipush 12, 2) := by decide +kernel
theorem dX3_fedBy_7 : decode cX3_fedBy 7 = .ok (.if_icmp .ge 16, 3) := by decide +kernel
theorem dX3_fedBy_10 : decode cX3_fedBy 10 = .ok (.aload_n 0, 1) := by decide +kernel
theorem dX3_fedBy_11 : decode cX3_fedBy 11 = .ok (.iload_n 2, 1) := by decide +kernel
theorem dX3_fedBy_12 : decode cX3_fedBy 12 = .ok (.invokevirtual 83, 3) := by decide +kernel
theorem dX3_fedBy_15 : decode cX3_fedBy 15 = .ok (.iload_n 1, 1) := by decide +kernel
theorem dX3_fedBy_16 : decode cX3_fedBy 16 = .ok (.if_icmp .ne 7, 3) := by decide +kernel
theorem dX3_fedBy_19 : decode cX3_fedBy 19 = .ok (.iload_n 2, 1) := by decide +kernel
theorem dX3_fedBy_20 : decode cX3_fedBy 20 = .ok (.goto 4, 3) := by decide +kernel
theorem dX3_fedBy_23 : decode cX3_fedBy 23 = .ok (.iconst (-1), 1) := by decide +kernel
theorem dX3_fedBy_24 : decode cX3_fedBy 24 = .ok (.ireturn, 1) := by decide +kernel
theorem dX3_pressureAt_0 : decode cX3_pressureAt 0 = .ok (.iload_n 1, 1) := by decide +kernel
theorem dX3_pressureAt_1 : decode cX3_pressureAt 1 = .ok (.iconst 4, 1) := by decide +kernel
theorem dX3_pressureAt_2 : decode cX3_pressureAt 2 = .ok (.idiv, 1) := by decide +kernel
theorem dX3_pressureAt_3 : decode cX3_pressureAt 3 = .ok (.istore_n 3, 1) := by decide +kernel
theorem dX3_pressureAt_4 : decode cX3_pressureAt 4 = .ok (.aload_n 0, 1) := by decide +kernel
theorem dX3_pressureAt_5 : decode cX3_pressureAt 5 = .ok (.getfield 9, 3) := by decide +kernel
theorem dX3_pressureAt_8 : decode cX3_pressureAt 8 = .ok (.iload_n 3, 1) := by decide +kernel
theorem dX3_pressureAt_9 : decode cX3_pressureAt 9 = .ok (.iaload, 1) := by decide +kernel
theorem dX3_pressureAt_10 : decode cX3_pressureAt 10 = .ok (.iload_n 1, 1) := by decide +kernel
theorem dX3_pressureAt_11 : decode cX3_pressureAt 11 = .ok (.iconst 4, 1) := by decide +kernel
theorem dX3_pressureAt_12 : decode cX3_pressureAt 12 = .ok (.irem, 1) := by decide +kernel
theorem dX3_pressureAt_13 : decode cX3_pressureAt 13 = .ok (.isub, 1) := by decide +kernel
theorem dX3_pressureAt_14 : decode cX3_pressureAt 14 = .ok (.aload_n 2, 1) := by decide +kernel
theorem dX3_pressureAt_15 : decode cX3_pressureAt 15 = .ok (.iload_n 3, 1) := by decide +kernel
theorem dX3_pressureAt_16 : decode cX3_pressureAt 16 = .ok (.iaload, 1) := by decide +kernel
theorem dX3_pressureAt_17 : decode cX3_pressureAt 17 = .ok (.isub, 1) := by decide +kernel
theorem dX3_pressureAt_18 : decode cX3_pressureAt 18 = .ok (.istore 4, 2) := by decide +kernel
theorem dX3_pressureAt_20 : decode cX3_pressureAt 20 = .ok (.iload_n 3, 1) := by decide +kernel
theorem dX3_pressureAt_21 : decode cX3_pressureAt 21 = .ok (.iconst 1, 1) := by decide +kernel
theorem dX3_pressureAt_22 : decode cX3_pressureAt 22 = .ok (.isub, 1) := by decide +kernel
theorem dX3_pressureAt_23 : decode cX3_pressureAt 23 = .ok (.istore 5, 2) := by decide +kernel
theorem dX3_pressureAt_25 : decode cX3_pressureAt 25 = .ok (.iload 5, 2) := by decide +kernel
theorem dX3_pressureAt_27 : decode cX3_pressureAt 27 = .ok (.ifCond .lt 51, 3) := by decide +kernel
theorem dX3_pressureAt_30 : decode cX3_pressureAt 30 = .ok (.aload_n 0, 1) := by decide +kernel
theorem dX3_pressureAt_31 : decode cX3_pressureAt 31 = .ok (.getfield 21, 3) := by decide +kernel
theorem dX3_pressureAt_34 : decode cX3_pressureAt 34 = .ok (.iload 5, 2) := by decide +kernel
theorem dX3_pressureAt_36 : decode cX3_pressureAt 36 = .ok (.baload, 1) := by decide +kernel
theorem dX3_pressureAt_37 : decode cX3_pressureAt 37 = .ok (.ifCond .eq 41, 3) := by decide +kernel
theorem dX3_pressureAt_40 : decode cX3_pressureAt 40 = .ok (.aload_n 0, 1) := by decide +kernel
theorem dX3_pressureAt_41 : decode cX3_pressureAt 41 = .ok (.getfield 9, 3) := by decide +kernel
theorem dX3_pressureAt_44 : decode cX3_pressureAt 44 = .ok (.iload 5, 2) := by decide +kernel
theorem dX3_pressureAt_46 : decode cX3_pressureAt 46 = .ok (.iaload, 1) := by decide +kernel
theorem dX3_pressureAt_47 : decode cX3_pressureAt 47 = .ok (.iconst 3, 1) := by decide +kernel
theorem dX3_pressureAt_48 : decode cX3_pressureAt 48 = .ok (.isub, 1) := by decide +kernel
theorem dX3_pressureAt_49 : decode cX3_pressureAt 49 = .ok (.aload_n 2, 1) := by decide +kernel
theorem dX3_pressureAt_50 : decode cX3_pressureAt 50 = .ok (.iload 5, 2) := by decide +kernel
theorem dX3_pressureAt_52 : decode cX3_pressureAt 52 = .ok (.iaload, 1) := by decide +kernel
theorem dX3_pressureAt_53 : decode cX3_pressureAt 53 = .ok (.isub, 1) := by decide +kernel
theorem dX3_pressureAt_54 : decode cX3_pressureAt 54 = .ok (.istore 6, 2) := by decide +kernel
theorem dX3_pressureAt_56 : decode cX3_pressureAt 56 = .ok (.iload 6, 2) := by decide +kernel
theorem dX3_pressureAt_58 : decode cX3_pressureAt 58 = .ok (.iload 4, 2) := by decide +kernel
theorem dX3_pressureAt_60 : decode cX3_pressureAt 60 = .ok (.if_icmp .ge 8, 3) := by decide +kernel
theorem dX3_pressureAt_63 : decode cX3_pressureAt 63 = .ok (.iload 6, 2) := by decide +kernel
theorem dX3_pressureAt_65 : decode cX3_pressureAt 65 = .ok (.goto 5, 3) := by decide +kernel
theorem dX3_pressureAt_68 : decode cX3_pressureAt 68 = .ok (.iload 4, 2) := by decide +kernel
theorem dX3_pressureAt_70 : decode cX3_pressureAt 70 = .ok (.istore 4, 2) := by decide +kernel
theorem dX3_pressureAt_72 : decode cX3_pressureAt 72 = .ok (.iinc 5 (-1), 3) := by decide +kernel
theorem dX3_pressureAt_75 : decode cX3_pressureAt 75 = .ok (.goto (-50), 3) := by decide +kernel
theorem dX3_pressureAt_78 : decode cX3_pressureAt 78 = .ok (.iload 4, 2) := by decide +kernel
theorem dX3_pressureAt_80 : decode cX3_pressureAt 80 = .ok (.ifCond .ge 7, 3) := by decide +kernel
theorem dX3_pressureAt_83 : decode cX3_pressureAt 83 = .ok (.iconst 0, 1) := by decide +kernel
theorem dX3_pressureAt_84 : decode cX3_pressureAt 84 = .ok (.goto 5, 3) := by decide +kernel
theorem dX3_pressureAt_87 : decode cX3_pressureAt 87 = .ok (.iload 4, 2) := by decide +kernel
theorem dX3_pressureAt_89 : decode cX3_pressureAt 89 = .ok (.ireturn, 1) := by decide +kernel
theorem dX3_addDirt_0 : decode cX3_addDirt 0 = .ok (.aload_n 0, 1) := by decide +kernel
theorem dX3_addDirt_1 : decode cX3_addDirt 1 = .ok (.getfield 37, 3) := by decide +kernel
theorem dX3_addDirt_4 : decode cX3_addDirt 4 = .ok (.iload_n 1, 1) := by decide +kernel
theorem dX3_addDirt_5 : decode cX3_addDirt 5 = .ok (.iaload, 1) := by decide +kernel
theorem dX3_addDirt_6 : decode cX3_addDirt 6 = .ok (.iload_n 2, 1) := by decide +kernel
theorem dX3_addDirt_7 : decode cX3_addDirt 7 = .ok (.iadd, 1) := by decide +kernel
theorem dX3_addDirt_8 : decode cX3_addDirt 8 = .ok (.istore_n 3, 1) := by decide +kernel
theorem dX3_addDirt_9 : decode cX3_addDirt 9 = .ok (.iload_n 3, 1) := by decide +kernel
theorem dX3_addDirt_10 : decode cX3_addDirt 10 = .ok (.sipush 999, 3) := by decide +kernel
theorem dX3_addDirt_13 : decode cX3_addDirt 13 = .ok (.invokestatic 87, 3) := by decide +kernel
theorem dX3_addDirt_16 : decode cX3_addDirt 16 = .ok (.istore 4, 2) := by decide +kernel
theorem dX3_addDirt_18 : decode cX3_addDirt 18 = .ok (.aload_n 0, 1) := by decide +kernel
theorem dX3_addDirt_19 : decode cX3_addDirt 19 = .ok (.getfield 37, 3) := by decide +kernel
theorem dX3_addDirt_22 : decode cX3_addDirt 22 = .ok (.iload_n 1, 1) := by decide +kernel
theorem dX3_addDirt_23 : decode cX3_addDirt 23 = .ok (.iload 4, 2) := by decide +kernel
theorem dX3_addDirt_25 : decode cX3_addDirt 25 = .ok (.iastore, 1) := by decide +kernel
theorem dX3_addDirt_26 : decode cX3_addDirt 26 = .ok (.aload_n 0, 1) := by decide +kernel
theorem dX3_addDirt_27 : decode cX3_addDirt 27 = .ok (.dup, 1) := by decide +kernel
theorem dX3_addDirt_28 : decode cX3_addDirt 28 = .ok (.getfield 73, 3) := by decide +kernel
theorem dX3_addDirt_31 : decode cX3_addDirt 31 = .ok (.iload_n 3, 1) := by decide +kernel
theorem dX3_addDirt_32 : decode cX3_addDirt 32 = .ok (.iload 4, 2) := by decide +kernel
theorem dX3_addDirt_34 : decode cX3_addDirt 34 = .ok (.isub, 1) := by decide +kernel
theorem dX3_addDirt_35 : decode cX3_addDirt 35 = .ok (.iadd, 1) := by decide +kernel
theorem dX3_addDirt_36 : decode cX3_addDirt 36 = .ok (.putfield 73, 3) := by decide +kernel
theorem dX3_addDirt_39 : decode cX3_addDirt 39 = .ok (.return_, 1) := by decide +kernel
theorem dX3_flushOnly_0 : decode cX3_flushOnly 0 = .ok (.iconst 0, 1) := by decide +kernel
theorem dX3_flushOnly_1 : decode cX3_flushOnly 1 = .ok (.istore_n 2, 1) := by decide +kernel
theorem dX3_flushOnly_2 : decode cX3_flushOnly 2 = .ok (.iload_n 2, 1) := by decide +kernel
theorem dX3_flushOnly_3 : decode cX3_flushOnly 3 = .ok (.iconst 3, 1) := by decide +kernel
theorem dX3_flushOnly_4 : decode cX3_flushOnly 4 = .ok (.if_icmp .ge 18, 3) := by decide +kernel
theorem dX3_flushOnly_7 : decode cX3_flushOnly 7 = .ok (.aload_n 0, 1) := by decide +kernel
theorem dX3_flushOnly_8 : decode cX3_flushOnly 8 = .ok (.getfield 57, 3) := by decide +kernel
theorem dX3_flushOnly_11 : decode cX3_flushOnly 11 = .ok (.iload_n 2, 1) := by decide +kernel
theorem dX3_flushOnly_12 : decode cX3_flushOnly 12 = .ok (.aaload, 1) := by decide +kernel
theorem dX3_flushOnly_13 : decode cX3_flushOnly 13 = .ok (.invokevirtual 93, 3) := by decide +kernel
theorem dX3_flushOnly_16 : decode cX3_flushOnly 16 = .ok (.iinc 2 1, 3) := by decide +kernel
theorem dX3_flushOnly_19 : decode cX3_flushOnly 19 = .ok (.goto (-17), 3) := by decide +kernel
theorem dX3_flushOnly_22 : decode cX3_flushOnly 22 = .ok (.aload_n 0, 1) := by decide +kernel
theorem dX3_flushOnly_23 : decode cX3_flushOnly 23 = .ok (.getfield 57, 3) := by decide +kernel
theorem dX3_flushOnly_26 : decode cX3_flushOnly 26 = .ok (.iconst 0, 1) := by decide +kernel
theorem dX3_flushOnly_27 : decode cX3_flushOnly 27 = .ok (.aaload, 1) := by decide +kernel
theorem dX3_flushOnly_28 : decode cX3_flushOnly 28 = .ok (.iload_n 1, 1) := by decide +kernel
theorem dX3_flushOnly_29 : decode cX3_flushOnly 29 = .ok (.invokevirtual 96, 3) := by decide +kernel
theorem dX3_flushOnly_32 : decode cX3_flushOnly 32 = .ok (.return_, 1) := by decide +kernel
theorem dX4_init_0 : decode cX4_init 0 = .ok (.aload_n 0, 1) := by decide +kernel
theorem dX4_init_1 : decode cX4_init 1 = .ok (.invokespecial 3, 3) := by decide +kernel
theorem dX4_init_4 : decode cX4_init 4 = .ok (.aload_n 0, 1) := by decide +kernel
theorem dX4_init_5 : decode cX4_init 5 = .ok (.bipush 8, 2) := by decide +kernel
theorem dX4_init_7 : decode cX4_init 7 = .ok (.newarray .int, 2) := by decide +kernel
theorem dX4_init_9 : decode cX4_init 9 = .ok (.putfield 9, 3) := by decide +kernel
theorem dX4_init_12 : decode cX4_init 12 = .ok (.aload_n 0, 1) := by decide +kernel
theorem dX4_init_13 : decode cX4_init 13 = .ok (.iconst 0, 1) := by decide +kernel
theorem dX4_init_14 : decode cX4_init 14 = .ok (.putfield 15, 3) := by decide +kernel
theorem dX4_init_17 : decode cX4_init 17 = .ok (.return_, 1) := by decide +kernel
theorem dX4_isFull_0 : decode cX4_isFull 0 = .ok (.aload_n 0, 1) := by decide +kernel
theorem dX4_isFull_1 : decode cX4_isFull 1 = .ok (.getfield 15, 3) := by decide +kernel
theorem dX4_isFull_4 : decode cX4_isFull 4 = .ok (.bipush 8, 2) := by decide +kernel
theorem dX4_isFull_6 : decode cX4_isFull 6 = .ok (.if_icmp .lt 7, 3) := by decide +kernel
theorem dX4_isFull_9 : decode cX4_isFull 9 = .ok (.iconst 1, 1) := by decide +kernel
theorem dX4_isFull_10 : decode cX4_isFull 10 = .ok (.goto 4, 3) := by decide +kernel
theorem dX4_isFull_13 : decode cX4_isFull 13 = .ok (.iconst 0, 1) := by decide +kernel
theorem dX4_isFull_14 : decode cX4_isFull 14 = .ok (.ireturn, 1) := by decide +kernel
theorem dX4_at_0 : decode cX4_at 0 = .ok (.iload_n 1, 1) := by decide +kernel
theorem dX4_at_1 : decode cX4_at 1 = .ok (.ifCond .lt 26, 3) := by decide +kernel
theorem dX4_at_4 : decode cX4_at 4 = .ok (.iload_n 1, 1) := by decide +kernel
theorem dX4_at_5 : decode cX4_at 5 = .ok (.aload_n 0, 1) := by decide +kernel
theorem dX4_at_6 : decode cX4_at 6 = .ok (.getfield 15, 3) := by decide +kernel
theorem dX4_at_9 : decode cX4_at 9 = .ok (.if_icmp .ge 18, 3) := by decide +kernel
theorem dX4_at_12 : decode cX4_at 12 = .ok (.iload_n 1, 1) := by decide +kernel
theorem dX4_at_13 : decode cX4_at 13 = .ok (.bipush 8, 2) := by decide +kernel
theorem dX4_at_15 : decode cX4_at 15 = .ok (.if_icmp .ge 12, 3) := by decide +kernel
theorem dX4_at_18 : decode cX4_at 18 = .ok (.aload_n 0, 1) := by decide +kernel
theorem dX4_at_19 : decode cX4_at 19 = .ok (.getfield 9, 3) := by decide +kernel
theorem dX4_at_22 : decode cX4_at 22 = .ok (.iload_n 1, 1) := by decide +kernel
theorem dX4_at_23 : decode cX4_at 23 = .ok (.iaload, 1) := by decide +kernel
theorem dX4_at_24 : decode cX4_at 24 = .ok (.goto 4, 3) := by decide +kernel
theorem dX4_at_27 : decode cX4_at 27 = .ok (.iconst (-1), 1) := by decide +kernel
theorem dX4_at_28 : decode cX4_at 28 = .ok (.ireturn, 1) := by decide +kernel
theorem dX4_putLast_0 : decode cX4_putLast 0 = .ok (.aload_n 0, 1) := by decide +kernel
theorem dX4_putLast_1 : decode cX4_putLast 1 = .ok (.getfield 15, 3) := by decide +kernel
theorem dX4_putLast_4 : decode cX4_putLast 4 = .ok (.ifCond .lt 32, 3) := by decide +kernel
theorem dX4_putLast_7 : decode cX4_putLast 7 = .ok (.aload_n 0, 1) := by decide +kernel
theorem dX4_putLast_8 : decode cX4_putLast 8 = .ok (.getfield 15, 3) := by decide +kernel
theorem dX4_putLast_11 : decode cX4_putLast 11 = .ok (.bipush 8, 2) := by decide +kernel
theorem dX4_putLast_13 : decode cX4_putLast 13 = .ok (.if_icmp .ge 23, 3) := by decide +kernel
theorem dX4_putLast_16 : decode cX4_putLast 16 = .ok (.aload_n 0, 1) := by decide +kernel
theorem dX4_putLast_17 : decode cX4_putLast 17 = .ok (.getfield 9, 3) := by decide +kernel
theorem dX4_putLast_20 : decode cX4_putLast 20 = .ok (.aload_n 0, 1) := by decide +kernel
theorem dX4_putLast_21 : decode cX4_putLast 21 = .ok (.getfield 15, 3) := by decide +kernel
theorem dX4_putLast_24 : decode cX4_putLast 24 = .ok (.iload_n 1, 1) := by decide +kernel
theorem dX4_putLast_25 : decode cX4_putLast 25 = .ok (.iastore, 1) := by decide +kernel
theorem dX4_putLast_26 : decode cX4_putLast 26 = .ok (.aload_n 0, 1) := by decide +kernel
theorem dX4_putLast_27 : decode cX4_putLast 27 = .ok (.dup, 1) := by decide +kernel
theorem dX4_putLast_28 : decode cX4_putLast 28 = .ok (.getfield 15, 3) := by decide +kernel
theorem dX4_putLast_31 : decode cX4_putLast 31 = .ok (.iconst 1, 1) := by decide +kernel
theorem dX4_putLast_32 : decode cX4_putLast 32 = .ok (.iadd, 1) := by decide +kernel
theorem dX4_putLast_33 : decode cX4_putLast 33 = .ok (.putfield 15, 3) := by decide +kernel
theorem dX4_putLast_36 : decode cX4_putLast 36 = .ok (.return_, 1) := by decide +kernel
theorem dX4_dropFirst_0 : decode cX4_dropFirst 0 = .ok (.aload_n 0, 1) := by decide +kernel
theorem dX4_dropFirst_1 : decode cX4_dropFirst 1 = .ok (.getfield 15, 3) := by decide +kernel
theorem dX4_dropFirst_4 : decode cX4_dropFirst 4 = .ok (.ifCond .gt 4, 3) := by decide +kernel
theorem dX4_dropFirst_7 : decode cX4_dropFirst 7 = .ok (.return_, 1) := by decide +kernel
theorem dX4_dropFirst_8 : decode cX4_dropFirst 8 = .ok (.iconst 1, 1) := by decide +kernel
theorem dX4_dropFirst_9 : decode cX4_dropFirst 9 = .ok (.istore_n 1, 1) := by decide +kernel
theorem dX4_dropFirst_10 : decode cX4_dropFirst 10 = .ok (.iload_n 1, 1) := by decide +kernel
theorem dX4_dropFirst_11 : decode cX4_dropFirst 11 = .ok (.bipush 8, 2) := by decide +kernel
theorem dX4_dropFirst_13 : decode cX4_dropFirst 13 = .ok (.if_icmp .ge 23, 3) := by decide +kernel
theorem dX4_dropFirst_16 : decode cX4_dropFirst 16 = .ok (.aload_n 0, 1) := by decide +kernel
theorem dX4_dropFirst_17 : decode cX4_dropFirst 17 = .ok (.getfield 9, 3) := by decide +kernel
theorem dX4_dropFirst_20 : decode cX4_dropFirst 20 = .ok (.iload_n 1, 1) := by decide +kernel
theorem dX4_dropFirst_21 : decode cX4_dropFirst 21 = .ok (.iconst 1, 1) := by decide +kernel
theorem dX4_dropFirst_22 : decode cX4_dropFirst 22 = .ok (.isub, 1) := by decide +kernel
theorem dX4_dropFirst_23 : decode cX4_dropFirst 23 = .ok (.aload_n 0, 1) := by decide +kernel
theorem dX4_dropFirst_24 : decode cX4_dropFirst 24 = .ok (.getfield 9, 3) := by decide +kernel
theorem dX4_dropFirst_27 : decode cX4_dropFirst 27 = .ok (.iload_n 1, 1) := by decide +kernel
theorem dX4_dropFirst_28 : decode cX4_dropFirst 28 = .ok (.iaload, 1) := by decide +kernel
theorem dX4_dropFirst_29 : decode cX4_dropFirst 29 = .ok (.iastore, 1) := by decide +kernel
theorem dX4_dropFirst_30 : decode cX4_dropFirst 30 = .ok (.iinc 1 1, 3) := by decide +kernel
theorem dX4_dropFirst_33 : decode cX4_dropFirst 33 = .ok (.goto (-23), 3) := by decide +kernel
theorem dX4_dropFirst_36 : decode cX4_dropFirst 36 = .ok (.aload_n 0, 1) := by decide +kernel
theorem dX4_dropFirst_37 : decode cX4_dropFirst 37 = .ok (.dup, 1) := by decide +kernel
theorem dX4_dropFirst_38 : decode cX4_dropFirst 38 = .ok (.getfield 15, 3) := by decide +kernel
theorem dX4_dropFirst_41 : decode cX4_dropFirst 41 = .ok (.iconst 1, 1) := by decide +kernel
theorem dX4_dropFirst_42 : decode cX4_dropFirst 42 = .ok (.isub, 1) := by decide +kernel
theorem dX4_dropFirst_43 : decode cX4_dropFirst 43 = .ok (.putfield 15, 3) := by decide +kernel
theorem dX4_dropFirst_46 : decode cX4_dropFirst 46 = .ok (.return_, 1) := by decide +kernel
theorem dX4_empty_0 : decode cX4_empty 0 = .ok (.aload_n 0, 1) := by decide +kernel
theorem dX4_empty_1 : decode cX4_empty 1 = .ok (.iconst 0, 1) := by decide +kernel
theorem dX4_empty_2 : decode cX4_empty 2 = .ok (.putfield 15, 3) := by decide +kernel
theorem dX4_empty_5 : decode cX4_empty 5 = .ok (.return_, 1) := by decide +kernel
theorem dX4_copyFrom_0 : decode cX4_copyFrom 0 = .ok (.aload_n 1, 1) := by decide +kernel
theorem dX4_copyFrom_1 : decode cX4_copyFrom 1 = .ok (.getfield 9, 3) := by decide +kernel
theorem dX4_copyFrom_4 : decode cX4_copyFrom 4 = .ok (.iconst 0, 1) := by decide +kernel
theorem dX4_copyFrom_5 : decode cX4_copyFrom 5 = .ok (.aload_n 0, 1) := by decide +kernel
theorem dX4_copyFrom_6 : decode cX4_copyFrom 6 = .ok (.getfield 9, 3) := by decide +kernel
theorem dX4_copyFrom_9 : decode cX4_copyFrom 9 = .ok (.iconst 0, 1) := by decide +kernel
theorem dX4_copyFrom_10 : decode cX4_copyFrom 10 = .ok (.bipush 8, 2) := by decide +kernel
theorem dX4_copyFrom_12 : decode cX4_copyFrom 12 = .ok (.invokestatic 19, 3) := by decide +kernel
theorem dX4_copyFrom_15 : decode cX4_copyFrom 15 = .ok (.aload_n 0, 1) := by decide +kernel
theorem dX4_copyFrom_16 : decode cX4_copyFrom 16 = .ok (.aload_n 1, 1) := by decide +kernel
theorem dX4_copyFrom_17 : decode cX4_copyFrom 17 = .ok (.getfield 15, 3) := by decide +kernel
theorem dX4_copyFrom_20 : decode cX4_copyFrom 20 = .ok (.putfield 15, 3) := by decide +kernel
theorem dX4_copyFrom_23 : decode cX4_copyFrom 23 = .ok (.return_, 1) := by decide +kernel
theorem dX5_init_0 : decode cX5_init 0 = .ok (.aload_n 0, 1) := by decide +kernel
theorem dX5_init_1 : decode cX5_init 1 = .ok (.invokespecial 3, 3) := by decide +kernel
theorem dX5_init_4 : decode cX5_init 4 = .ok (.aload_n 0, 1) := by decide +kernel
theorem dX5_init_5 : decode cX5_init 5 = .ok (.new 9, 3) := by decide +kernel
theorem dX5_init_8 : decode cX5_init 8 = .ok (.dup, 1) := by decide +kernel
theorem dX5_init_9 : decode cX5_init 9 = .ok (.invokespecial 11, 3) := by decide +kernel
theorem dX5_init_12 : decode cX5_init 12 = .ok (.putfield 12, 3) := by decide +kernel
theorem dX5_init_15 : decode cX5_init 15 = .ok (.aload_n 0, 1) := by decide +kernel
theorem dX5_init_16 : decode cX5_init 16 = .ok (.new 9, 3) := by decide +kernel
theorem dX5_init_19 : decode cX5_init 19 = .ok (.dup, 1) := by decide +kernel
theorem dX5_init_20 : decode cX5_init 20 = .ok (.invokespecial 11, 3) := by decide +kernel
theorem dX5_init_23 : decode cX5_init 23 = .ok (.putfield 16, 3) := by decide +kernel
theorem dX5_init_26 : decode cX5_init 26 = .ok (.aload_n 0, 1) := by decide +kernel
theorem dX5_init_27 : decode cX5_init 27 = .ok (.new 19, 3) := by decide +kernel
theorem dX5_init_30 : decode cX5_init 30 = .ok (.dup, 1) := by decide +kernel
theorem dX5_init_31 : decode cX5_init 31 = .ok (.invokespecial 21, 3) := by decide +kernel
theorem dX5_init_34 : decode cX5_init 34 = .ok (.putfield 22, 3) := by decide +kernel
theorem dX5_init_37 : decode cX5_init 37 = .ok (.aload_n 0, 1) := by decide +kernel
theorem dX5_init_38 : decode cX5_init 38 = .ok (.new 26, 3) := by decide +kernel
theorem dX5_init_41 : decode cX5_init 41 = .ok (.dup, 1) := by decide +kernel
theorem dX5_init_42 : decode cX5_init 42 = .ok (.invokespecial 28, 3) := by decide +kernel
theorem dX5_init_45 : decode cX5_init 45 = .ok (.putfield 29, 3) := by decide +kernel
theorem dX5_init_48 : decode cX5_init 48 = .ok (.aload_n 0, 1) := by decide +kernel
theorem dX5_init_49 : decode cX5_init 49 = .ok (.new 33, 3) := by decide +kernel
theorem dX5_init_52 : decode cX5_init 52 = .ok (.dup, 1) := by decide +kernel
theorem dX5_init_53 : decode cX5_init 53 = .ok (.invokespecial 35, 3) := by decide +kernel
theorem dX5_init_56 : decode cX5_init 56 = .ok (.putfield 36, 3) := by decide +kernel
theorem dX5_init_59 : decode cX5_init 59 = .ok (.return_, 1) := by decide +kernel
theorem dX5_pressure_0 : decode cX5_pressure 0 = .ok (.iload_n 1, 1) := by decide +kernel
theorem dX5_pressure_1 : decode cX5_pressure 1 = .ok (.iconst 3, 1) := by decide +kernel
theorem dX5_pressure_2 : decode cX5_pressure 2 = .ok (.invokestatic 40, 3) := by decide +kernel
theorem dX5_pressure_5 : decode cX5_pressure 5 = .ok (.iload_n 2, 1) := by decide +kernel
theorem dX5_pressure_6 : decode cX5_pressure 6 = .ok (.iconst 0, 1) := by decide +kernel
theorem dX5_pressure_7 : decode cX5_pressure 7 = .ok (.bipush 99, 2) := by decide +kernel
theorem dX5_pressure_9 : decode cX5_pressure 9 = .ok (.invokestatic 44, 3) := by decide +kernel
theorem dX5_pressure_12 : decode cX5_pressure 12 = .ok (.aload_n 0, 1) := by decide +kernel
theorem dX5_pressure_13 : decode cX5_pressure 13 = .ok (.getfield 29, 3) := by decide +kernel
theorem dX5_pressure_16 : decode cX5_pressure 16 = .ok (.aload_n 0, 1) := by decide +kernel
theorem dX5_pressure_17 : decode cX5_pressure 17 = .ok (.getfield 12, 3) := by decide +kernel
theorem dX5_pressure_20 : decode cX5_pressure 20 = .ok (.invokevirtual 48, 3) := by decide +kernel
theorem dX5_pressure_23 : decode cX5_pressure 23 = .ok (.aload_n 0, 1) := by decide +kernel
theorem dX5_pressure_24 : decode cX5_pressure 24 = .ok (.getfield 12, 3) := by decide +kernel
theorem dX5_pressure_27 : decode cX5_pressure 27 = .ok (.getfield 52, 3) := by decide +kernel
theorem dX5_pressure_30 : decode cX5_pressure 30 = .ok (.iload_n 1, 1) := by decide +kernel
theorem dX5_pressure_31 : decode cX5_pressure 31 = .ok (.iaload, 1) := by decide +kernel
theorem dX5_pressure_32 : decode cX5_pressure 32 = .ok (.istore_n 3, 1) := by decide +kernel
theorem dX5_pressure_33 : decode cX5_pressure 33 = .ok (.aload_n 0, 1) := by decide +kernel
theorem dX5_pressure_34 : decode cX5_pressure 34 = .ok (.getfield 12, 3) := by decide +kernel
theorem dX5_pressure_37 : decode cX5_pressure 37 = .ok (.getfield 52, 3) := by decide +kernel
theorem dX5_pressure_40 : decode cX5_pressure 40 = .ok (.iload_n 1, 1) := by decide +kernel
theorem dX5_pressure_41 : decode cX5_pressure 41 = .ok (.iload_n 2, 1) := by decide +kernel
theorem dX5_pressure_42 : decode cX5_pressure 42 = .ok (.iastore, 1) := by decide +kernel
theorem dX5_pressure_43 : decode cX5_pressure 43 = .ok (.iload_n 3, 1) := by decide +kernel
theorem dX5_pressure_44 : decode cX5_pressure 44 = .ok (.ireturn, 1) := by decide +kernel
theorem dX5_valve_0 : decode cX5_valve 0 = .ok (.iload_n 1, 1) := by decide +kernel
theorem dX5_valve_1 : decode cX5_valve 1 = .ok (.iconst 2, 1) := by decide +kernel
theorem dX5_valve_2 : decode cX5_valve 2 = .ok (.invokestatic 40, 3) := by decide +kernel
theorem dX5_valve_5 : decode cX5_valve 5 = .ok (.aload_n 0, 1) := by decide +kernel
theorem dX5_valve_6 : decode cX5_valve 6 = .ok (.getfield 29, 3) := by decide +kernel
theorem dX5_valve_9 : decode cX5_valve 9 = .ok (.aload_n 0, 1) := by decide +kernel
theorem dX5_valve_10 : decode cX5_valve 10 = .ok (.getfield 12, 3) := by decide +kernel
theorem dX5_valve_13 : decode cX5_valve 13 = .ok (.invokevirtual 48, 3) := by decide +kernel
theorem dX5_valve_16 : decode cX5_valve 16 = .ok (.aload_n 0, 1) := by decide +kernel
theorem dX5_valve_17 : decode cX5_valve 17 = .ok (.getfield 12, 3) := by decide +kernel
theorem dX5_valve_20 : decode cX5_valve 20 = .ok (.getfield 56, 3) := by decide +kernel
theorem dX5_valve_23 : decode cX5_valve 23 = .ok (.iload_n 1, 1) := by decide +kernel
theorem dX5_valve_24 : decode cX5_valve 24 = .ok (.baload, 1) := by decide +kernel
theorem dX5_valve_25 : decode cX5_valve 25 = .ok (.istore_n 3, 1) := by decide +kernel
theorem dX5_valve_26 : decode cX5_valve 26 = .ok (.aload_n 0, 1) := by decide +kernel
theorem dX5_valve_27 : decode cX5_valve 27 = .ok (.getfield 12, 3) := by decide +kernel
theorem dX5_valve_30 : decode cX5_valve 30 = .ok (.getfield 56, 3) := by decide +kernel
theorem dX5_valve_33 : decode cX5_valve 33 = .ok (.iload_n 1, 1) := by decide +kernel
theorem dX5_valve_34 : decode cX5_valve 34 = .ok (.iload_n 2, 1) := by decide +kernel
theorem dX5_valve_35 : decode cX5_valve 35 = .ok (.bastore, 1) := by decide +kernel
theorem dX5_valve_36 : decode cX5_valve 36 = .ok (.iload_n 3, 1) := by decide +kernel
theorem dX5_valve_37 : decode cX5_valve 37 = .ok (.ifCond .eq 7, 3) := by decide +kernel
theorem dX5_valve_40 : decode cX5_valve 40 = .ok (.iconst 1, 1) := by decide +kernel
theorem dX5_valve_41 : decode cX5_valve 41 = .ok (.goto 4, 3) := by decide +kernel
theorem dX5_valve_44 : decode cX5_valve 44 = .ok (.iconst 0, 1) := by decide +kernel
theorem dX5_valve_45 : decode cX5_valve 45 = .ok (.ireturn, 1) := by decide +kernel
theorem dX5_dirt_0 : decode cX5_dirt 0 = .ok (.iload_n 1, 1) := by decide +kernel
theorem dX5_dirt_1 : decode cX5_dirt 1 = .ok (.bipush 12, 2) := by decide +kernel
theorem dX5_dirt_3 : decode cX5_dirt 3 = .ok (.invokestatic 40, 3) := by decide +kernel
theorem dX5_dirt_6 : decode cX5_dirt 6 = .ok (.iload_n 2, 1) := by decide +kernel
theorem dX5_dirt_7 : decode cX5_dirt 7 = .ok (.iconst 0, 1) := by decide +kernel
theorem dX5_dirt_8 : decode cX5_dirt 8 = .ok (.sipush 999, 3) := by decide +kernel
theorem dX5_dirt_11 : decode cX5_dirt 11 = .ok (.invokestatic 44, 3) := by decide +kernel
theorem dX5_dirt_14 : decode cX5_dirt 14 = .ok (.aload_n 0, 1) := by decide +kernel
theorem dX5_dirt_15 : decode cX5_dirt 15 = .ok (.getfield 29, 3) := by decide +kernel
theorem dX5_dirt_18 : decode cX5_dirt 18 = .ok (.aload_n 0, 1) := by decide +kernel
theorem dX5_dirt_19 : decode cX5_dirt 19 = .ok (.getfield 12, 3) := by decide +kernel
theorem dX5_dirt_22 : decode cX5_dirt 22 = .ok (.invokevirtual 48, 3) := by decide +kernel
theorem dX5_dirt_25 : decode cX5_dirt 25 = .ok (.aload_n 0, 1) := by decide +kernel
theorem dX5_dirt_26 : decode cX5_dirt 26 = .ok (.getfield 12, 3) := by decide +kernel
theorem dX5_dirt_29 : decode cX5_dirt 29 = .ok (.getfield 60, 3) := by decide +kernel
theorem dX5_dirt_32 : decode cX5_dirt 32 = .ok (.iload_n 1, 1) := by decide +kernel
theorem dX5_dirt_33 : decode cX5_dirt 33 = .ok (.iaload, 1) := by decide +kernel
theorem dX5_dirt_34 : decode cX5_dirt 34 = .ok (.istore_n 3, 1) := by decide +kernel
theorem dX5_dirt_35 : decode cX5_dirt 35 = .ok (.aload_n 0, 1) := by decide +kernel
theorem dX5_dirt_36 : decode cX5_dirt 36 = .ok (.getfield 12, 3) := by decide +kernel
theorem dX5_dirt_39 : decode cX5_dirt 39 = .ok (.getfield 60, 3) := by decide +kernel
theorem dX5_dirt_42 : decode cX5_dirt 42 = .ok (.iload_n 1, 1) := by decide +kernel
theorem dX5_dirt_43 : decode cX5_dirt 43 = .ok (.iload_n 2, 1) := by decide +kernel
theorem dX5_dirt_44 : decode cX5_dirt 44 = .ok (.iastore, 1) := by decide +kernel
theorem dX5_dirt_45 : decode cX5_dirt 45 = .ok (.iload_n 3, 1) := by decide +kernel
theorem dX5_dirt_46 : decode cX5_dirt 46 = .ok (.ireturn, 1) := by decide +kernel
theorem dX5_hydrant_0 : decode cX5_hydrant 0 = .ok (.iload_n 1, 1) := by decide +kernel
theorem dX5_hydrant_1 : decode cX5_hydrant 1 = .ok (.bipush 12, 2) := by decide +kernel
theorem dX5_hydrant_3 : decode cX5_hydrant 3 = .ok (.invokestatic 40, 3) := by decide +kernel
theorem dX5_hydrant_6 : decode cX5_hydrant 6 = .ok (.iload_n 2, 1) := by decide +kernel
theorem dX5_hydrant_7 : decode cX5_hydrant 7 = .ok (.iconst 1, 1) := by decide +kernel
theorem dX5_hydrant_8 : decode cX5_hydrant 8 = .ok (.bipush 30, 2) := by decide +kernel
theorem dX5_hydrant_10 : decode cX5_hydrant 10 = .ok (.invokestatic 44, 3) := by decide +kernel
theorem dX5_hydrant_13 : decode cX5_hydrant 13 = .ok (.aload_n 0, 1) := by decide +kernel
theorem dX5_hydrant_14 : decode cX5_hydrant 14 = .ok (.getfield 29, 3) := by decide +kernel
theorem dX5_hydrant_17 : decode cX5_hydrant 17 = .ok (.aload_n 0, 1) := by decide +kernel
theorem dX5_hydrant_18 : decode cX5_hydrant 18 = .ok (.getfield 12, 3) := by decide +kernel
theorem dX5_hydrant_21 : decode cX5_hydrant 21 = .ok (.invokevirtual 48, 3) := by decide +kernel
theorem dX5_hydrant_24 : decode cX5_hydrant 24 = .ok (.aload_n 0, 1) := by decide +kernel
theorem dX5_hydrant_25 : decode cX5_hydrant 25 = .ok (.getfield 12, 3) := by decide +kernel
theorem dX5_hydrant_28 : decode cX5_hydrant 28 = .ok (.getfield 63, 3) := by decide +kernel
theorem dX5_hydrant_31 : decode cX5_hydrant 31 = .ok (.iload_n 1, 1) := by decide +kernel
theorem dX5_hydrant_32 : decode cX5_hydrant 32 = .ok (.iaload, 1) := by decide +kernel
theorem dX5_hydrant_33 : decode cX5_hydrant 33 = .ok (.istore_n 3, 1) := by decide +kernel
theorem dX5_hydrant_34 : decode cX5_hydrant 34 = .ok (.aload_n 0, 1) := by decide +kernel
theorem dX5_hydrant_35 : decode cX5_hydrant 35 = .ok (.getfield 12, 3) := by decide +kernel
theorem dX5_hydrant_38 : decode cX5_hydrant 38 = .ok (.getfield 63, 3) := by decide +kernel
theorem dX5_hydrant_41 : decode cX5_hydrant 41 = .ok (.iload_n 1, 1) := by decide +kernel
theorem dX5_hydrant_42 : decode cX5_hydrant 42 = .ok (.iload_n 2, 1) := by decide +kernel
theorem dX5_hydrant_43 : decode cX5_hydrant 43 = .ok (.iastore, 1) := by decide +kernel
theorem dX5_hydrant_44 : decode cX5_hydrant 44 = .ok (.iload_n 3, 1) := by decide +kernel
theorem dX5_hydrant_45 : decode cX5_hydrant 45 = .ok (.ireturn, 1) := by decide +kernel
theorem dX5_send_0 : decode cX5_send 0 = .ok (.iload_n 1, 1) := by decide +kernel
theorem dX5_send_1 : decode cX5_send 1 = .ok (.iconst 3, 1) := by decide +kernel
theorem dX5_send_2 : decode cX5_send 2 = .ok (.invokestatic 40, 3) := by decide +kernel
theorem dX5_send_5 : decode cX5_send 5 = .ok (.iload_n 2, 1) := by decide +kernel
theorem dX5_send_6 : decode cX5_send 6 = .ok (.bipush 12, 2) := by decide +kernel
theorem dX5_send_8 : decode cX5_send 8 = .ok (.invokestatic 40, 3) := by decide +kernel
theorem dX5_send_11 : decode cX5_send 11 = .ok (.aload_n 0, 1) := by decide +kernel
theorem dX5_send_12 : decode cX5_send 12 = .ok (.getfield 12, 3) := by decide +kernel
theorem dX5_send_15 : decode cX5_send 15 = .ok (.getfield 66, 3) := by decide +kernel
theorem dX5_send_18 : decode cX5_send 18 = .ok (.iload_n 1, 1) := by decide +kernel
theorem dX5_send_19 : decode cX5_send 19 = .ok (.aaload, 1) := by decide +kernel
theorem dX5_send_20 : decode cX5_send 20 = .ok (.invokevirtual 70, 3) := by decide +kernel
theorem dX5_send_23 : decode cX5_send 23 = .ok (.ifCond .eq 13, 3) := by decide +kernel
theorem dX5_send_26 : decode cX5_send 26 = .ok (.new 76, 3) := by decide +kernel
theorem dX5_send_29 : decode cX5_send 29 = .ok (.dup, 1) := by decide +kernel
theorem dX5_send_30 : decode cX5_send 30 = .ok (.ldc 78, 2) := by decide +kernel
theorem dX5_send_32 : decode cX5_send 32 = .ok (.invokespecial 80, 3) := by decide +kernel
theorem dX5_send_35 : decode cX5_send 35 = .ok (.athrow, 1) := by decide +kernel
theorem dX5_send_36 : decode cX5_send 36 = .ok (.aload_n 0, 1) := by decide +kernel
theorem dX5_send_37 : decode cX5_send 37 = .ok (.getfield 29, 3) := by decide +kernel
theorem dX5_send_40 : decode cX5_send 40 = .ok (.aload_n 0, 1) := by decide +kernel
theorem dX5_send_41 : decode cX5_send 41 = .ok (.getfield 12, 3) := by decide +kernel
theorem dX5_send_44 : decode cX5_send 44 = .ok (.invokevirtual 48, 3) := by decide +kernel
theorem dX5_send_47 : decode cX5_send 47 = .ok (.aload_n 0, 1) := by decide +kernel
theorem dX5_send_48 : decode cX5_send 48 = .ok (.getfield 12, 3) := by decide +kernel
theorem dX5_send_51 : decode cX5_send 51 = .ok (.getfield 66, 3) := by decide +kernel
theorem dX5_send_54 : decode cX5_send 54 = .ok (.iload_n 1, 1) := by decide +kernel
theorem dX5_send_55 : decode cX5_send 55 = .ok (.aaload, 1) := by decide +kernel
theorem dX5_send_56 : decode cX5_send 56 = .ok (.iload_n 2, 1) := by decide +kernel
theorem dX5_send_57 : decode cX5_send 57 = .ok (.invokevirtual 83, 3) := by decide +kernel
theorem dX5_send_60 : decode cX5_send 60 = .ok (.aload_n 0, 1) := by decide +kernel
theorem dX5_send_61 : decode cX5_send 61 = .ok (.getfield 12, 3) := by decide +kernel
theorem dX5_send_64 : decode cX5_send 64 = .ok (.getfield 66, 3) := by decide +kernel
theorem dX5_send_67 : decode cX5_send 67 = .ok (.iload_n 1, 1) := by decide +kernel
theorem dX5_send_68 : decode cX5_send 68 = .ok (.aaload, 1) := by decide +kernel
theorem dX5_send_69 : decode cX5_send 69 = .ok (.getfield 87, 3) := by decide +kernel
theorem dX5_send_72 : decode cX5_send 72 = .ok (.ireturn, 1) := by decide +kernel
theorem dX5_skip_0 : decode cX5_skip 0 = .ok (.iload_n 1, 1) := by decide +kernel
theorem dX5_skip_1 : decode cX5_skip 1 = .ok (.iconst 3, 1) := by decide +kernel
theorem dX5_skip_2 : decode cX5_skip 2 = .ok (.invokestatic 40, 3) := by decide +kernel
theorem dX5_skip_5 : decode cX5_skip 5 = .ok (.aload_n 0, 1) := by decide +kernel
theorem dX5_skip_6 : decode cX5_skip 6 = .ok (.getfield 29, 3) := by decide +kernel
theorem dX5_skip_9 : decode cX5_skip 9 = .ok (.aload_n 0, 1) := by decide +kernel
theorem dX5_skip_10 : decode cX5_skip 10 = .ok (.getfield 12, 3) := by decide +kernel
theorem dX5_skip_13 : decode cX5_skip 13 = .ok (.invokevirtual 48, 3) := by decide +kernel
theorem dX5_skip_16 : decode cX5_skip 16 = .ok (.aload_n 0, 1) := by decide +kernel
theorem dX5_skip_17 : decode cX5_skip 17 = .ok (.getfield 12, 3) := by decide +kernel
theorem dX5_skip_20 : decode cX5_skip 20 = .ok (.getfield 66, 3) := by decide +kernel
theorem dX5_skip_23 : decode cX5_skip 23 = .ok (.iload_n 1, 1) := by decide +kernel
theorem dX5_skip_24 : decode cX5_skip 24 = .ok (.aaload, 1) := by decide +kernel
theorem dX5_skip_25 : decode cX5_skip 25 = .ok (.iconst 0, 1) := by decide +kernel
theorem dX5_skip_26 : decode cX5_skip 26 = .ok (.invokevirtual 91, 3) := by decide +kernel
theorem dX5_skip_29 : decode cX5_skip 29 = .ok (.istore_n 2, 1) := by decide +kernel
theorem dX5_skip_30 : decode cX5_skip 30 = .ok (.aload_n 0, 1) := by decide +kernel
theorem dX5_skip_31 : decode cX5_skip 31 = .ok (.getfield 12, 3) := by decide +kernel
theorem dX5_skip_34 : decode cX5_skip 34 = .ok (.getfield 66, 3) := by decide +kernel
theorem dX5_skip_37 : decode cX5_skip 37 = .ok (.iload_n 1, 1) := by decide +kernel
theorem dX5_skip_38 : decode cX5_skip 38 = .ok (.aaload, 1) := by decide +kernel
theorem dX5_skip_39 : decode cX5_skip 39 = .ok (.invokevirtual 95, 3) := by decide +kernel
theorem dX5_skip_42 : decode cX5_skip 42 = .ok (.iload_n 2, 1) := by decide +kernel
theorem dX5_skip_43 : decode cX5_skip 43 = .ok (.ireturn, 1) := by decide +kernel
theorem dX5_set_0 : decode cX5_set 0 = .ok (.iload_n 1, 1) := by decide +kernel
theorem dX5_set_1 : decode cX5_set 1 = .ok (.iconst 4, 1) := by decide +kernel
theorem dX5_set_2 : decode cX5_set 2 = .ok (.invokestatic 40, 3) := by decide +kernel
theorem dX5_set_5 : decode cX5_set 5 = .ok (.iload_n 2, 1) := by decide +kernel
theorem dX5_set_6 : decode cX5_set 6 = .ok (.getstatic 98, 3) := by decide +kernel
theorem dX5_set_9 : decode cX5_set 9 = .ok (.iload_n 1, 1) := by decide +kernel
theorem dX5_set_10 : decode cX5_set 10 = .ok (.iaload, 1) := by decide +kernel
theorem dX5_set_11 : decode cX5_set 11 = .ok (.getstatic 101, 3) := by decide +kernel
theorem dX5_set_14 : decode cX5_set 14 = .ok (.iload_n 1, 1) := by decide +kernel
theorem dX5_set_15 : decode cX5_set 15 = .ok (.iaload, 1) := by decide +kernel
theorem dX5_set_16 : decode cX5_set 16 = .ok (.invokestatic 44, 3) := by decide +kernel
theorem dX5_set_19 : decode cX5_set 19 = .ok (.aload_n 0, 1) := by decide +kernel
theorem dX5_set_20 : decode cX5_set 20 = .ok (.getfield 29, 3) := by decide +kernel
theorem dX5_set_23 : decode cX5_set 23 = .ok (.aload_n 0, 1) := by decide +kernel
theorem dX5_set_24 : decode cX5_set 24 = .ok (.getfield 12, 3) := by decide +kernel
theorem dX5_set_27 : decode cX5_set 27 = .ok (.invokevirtual 48, 3) := by decide +kernel
theorem dX5_set_30 : decode cX5_set 30 = .ok (.aload_n 0, 1) := by decide +kernel
theorem dX5_set_31 : decode cX5_set 31 = .ok (.getfield 12, 3) := by decide +kernel
theorem dX5_set_34 : decode cX5_set 34 = .ok (.getfield 104, 3) := by decide +kernel
theorem dX5_set_37 : decode cX5_set 37 = .ok (.iload_n 1, 1) := by decide +kernel
theorem dX5_set_38 : decode cX5_set 38 = .ok (.iaload, 1) := by decide +kernel
theorem dX5_set_39 : decode cX5_set 39 = .ok (.istore_n 3, 1) := by decide +kernel
theorem dX5_set_40 : decode cX5_set 40 = .ok (.aload_n 0, 1) := by decide +kernel
theorem dX5_set_41 : decode cX5_set 41 = .ok (.getfield 12, 3) := by decide +kernel
theorem dX5_set_44 : decode cX5_set 44 = .ok (.getfield 104, 3) := by decide +kernel
theorem dX5_set_47 : decode cX5_set 47 = .ok (.iload_n 1, 1) := by decide +kernel
theorem dX5_set_48 : decode cX5_set 48 = .ok (.iload_n 2, 1) := by decide +kernel
theorem dX5_set_49 : decode cX5_set 49 = .ok (.iastore, 1) := by decide +kernel
theorem dX5_set_50 : decode cX5_set 50 = .ok (.iload_n 3, 1) := by decide +kernel
theorem dX5_set_51 : decode cX5_set 51 = .ok (.ireturn, 1) := by decide +kernel
theorem dX5_pass_0 : decode cX5_pass 0 = .ok (.iload_n 1, 1) := by decide +kernel
theorem dX5_pass_1 : decode cX5_pass 1 = .ok (.iconst 1, 1) := by decide +kernel
theorem dX5_pass_2 : decode cX5_pass 2 = .ok (.bipush 48, 2) := by decide +kernel
theorem dX5_pass_4 : decode cX5_pass 4 = .ok (.invokestatic 44, 3) := by decide +kernel
theorem dX5_pass_7 : decode cX5_pass 7 = .ok (.aload_n 0, 1) := by decide +kernel
theorem dX5_pass_8 : decode cX5_pass 8 = .ok (.getfield 29, 3) := by decide +kernel
theorem dX5_pass_11 : decode cX5_pass 11 = .ok (.aload_n 0, 1) := by decide +kernel
theorem dX5_pass_12 : decode cX5_pass 12 = .ok (.getfield 12, 3) := by decide +kernel
theorem dX5_pass_15 : decode cX5_pass 15 = .ok (.invokevirtual 48, 3) := by decide +kernel
theorem dX5_pass_18 : decode cX5_pass 18 = .ok (.aload_n 0, 1) := by decide +kernel
theorem dX5_pass_19 : decode cX5_pass 19 = .ok (.getfield 22, 3) := by decide +kernel
theorem dX5_pass_22 : decode cX5_pass 22 = .ok (.aload_n 0, 1) := by decide +kernel
theorem dX5_pass_23 : decode cX5_pass 23 = .ok (.getfield 12, 3) := by decide +kernel
theorem dX5_pass_26 : decode cX5_pass 26 = .ok (.iload_n 1, 1) := by decide +kernel
theorem dX5_pass_27 : decode cX5_pass 27 = .ok (.invokevirtual 107, 3) := by decide +kernel
theorem dX5_pass_30 : decode cX5_pass 30 = .ok (.ireturn, 1) := by decide +kernel
theorem dX5_append_0 : decode cX5_append 0 = .ok (.iload_n 1, 1) := by decide +kernel
theorem dX5_append_1 : decode cX5_append 1 = .ok (.bipush 33, 2) := by decide +kernel
theorem dX5_append_3 : decode cX5_append 3 = .ok (.bipush 126, 2) := by decide +kernel
theorem dX5_append_5 : decode cX5_append 5 = .ok (.invokestatic 44, 3) := by decide +kernel
theorem dX5_append_8 : decode cX5_append 8 = .ok (.aload_n 0, 1) := by decide +kernel
theorem dX5_append_9 : decode cX5_append 9 = .ok (.getfield 36, 3) := by decide +kernel
theorem dX5_append_12 : decode cX5_append 12 = .ok (.invokevirtual 111, 3) := by decide +kernel
theorem dX5_append_15 : decode cX5_append 15 = .ok (.ifCond .eq 13, 3) := by decide +kernel
theorem dX5_append_18 : decode cX5_append 18 = .ok (.new 76, 3) := by decide +kernel
theorem dX5_append_21 : decode cX5_append 21 = .ok (.dup, 1) := by decide +kernel
theorem dX5_append_22 : decode cX5_append 22 = .ok (.ldc 112, 2) := by decide +kernel
theorem dX5_append_24 : decode cX5_append 24 = .ok (.invokespecial 80, 3) := by decide +kernel
theorem dX5_append_27 : decode cX5_append 27 = .ok (.athrow, 1) := by decide +kernel
theorem dX5_append_28 : decode cX5_append 28 = .ok (.aload_n 0, 1) := by decide +kernel
theorem dX5_append_29 : decode cX5_append 29 = .ok (.getfield 36, 3) := by decide +kernel
theorem dX5_append_32 : decode cX5_append 32 = .ok (.iload_n 1, 1) := by decide +kernel
theorem dX5_append_33 : decode cX5_append 33 = .ok (.invokevirtual 114, 3) := by decide +kernel
theorem dX5_append_36 : decode cX5_append 36 = .ok (.aload_n 0, 1) := by decide +kernel
theorem dX5_append_37 : decode cX5_append 37 = .ok (.getfield 36, 3) := by decide +kernel
theorem dX5_append_40 : decode cX5_append 40 = .ok (.getfield 115, 3) := by decide +kernel
theorem dX5_append_43 : decode cX5_append 43 = .ok (.ireturn, 1) := by decide +kernel
theorem dX5_clearBuffer_0 : decode cX5_clearBuffer 0 = .ok (.aload_n 0, 1) := by decide +kernel
theorem dX5_clearBuffer_1 : decode cX5_clearBuffer 1 = .ok (.getfield 36, 3) := by decide +kernel
theorem dX5_clearBuffer_4 : decode cX5_clearBuffer 4 = .ok (.getfield 115, 3) := by decide +kernel
theorem dX5_clearBuffer_7 : decode cX5_clearBuffer 7 = .ok (.istore_n 1, 1) := by decide +kernel
theorem dX5_clearBuffer_8 : decode cX5_clearBuffer 8 = .ok (.aload_n 0, 1) := by decide +kernel
theorem dX5_clearBuffer_9 : decode cX5_clearBuffer 9 = .ok (.getfield 36, 3) := by decide +kernel
theorem dX5_clearBuffer_12 : decode cX5_clearBuffer 12 = .ok (.invokevirtual 116, 3) := by decide +kernel
theorem dX5_clearBuffer_15 : decode cX5_clearBuffer 15 = .ok (.iload_n 1, 1) := by decide +kernel
theorem dX5_clearBuffer_16 : decode cX5_clearBuffer 16 = .ok (.ireturn, 1) := by decide +kernel
theorem dX5_firstError_0 : decode cX5_firstError 0 = .ok (.aload_n 0, 1) := by decide +kernel
theorem dX5_firstError_1 : decode cX5_firstError 1 = .ok (.getfield 36, 3) := by decide +kernel
theorem dX5_firstError_4 : decode cX5_firstError 4 = .ok (.invokevirtual 119, 3) := by decide +kernel
theorem dX5_firstError_7 : decode cX5_firstError 7 = .ok (.ireturn, 1) := by decide +kernel
theorem dX5_rounds_0 : decode cX5_rounds 0 = .ok (.aload_n 0, 1) := by decide +kernel
theorem dX5_rounds_1 : decode cX5_rounds 1 = .ok (.getfield 36, 3) := by decide +kernel
theorem dX5_rounds_4 : decode cX5_rounds 4 = .ok (.invokevirtual 123, 3) := by decide +kernel
theorem dX5_rounds_7 : decode cX5_rounds 7 = .ok (.ifCond .ne 13, 3) := by decide +kernel
theorem dX5_rounds_10 : decode cX5_rounds 10 = .ok (.new 126, 3) := by decide +kernel
theorem dX5_rounds_13 : decode cX5_rounds 13 = .ok (.dup, 1) := by decide +kernel
theorem dX5_rounds_14 : decode cX5_rounds 14 = .ok (.ldc 128, 2) := by decide +kernel
theorem dX5_rounds_16 : decode cX5_rounds 16 = .ok (.invokespecial 130, 3) := by decide +kernel
theorem dX5_rounds_19 : decode cX5_rounds 19 = .ok (.athrow, 1) := by decide +kernel
theorem dX5_rounds_20 : decode cX5_rounds 20 = .ok (.aload_n 0, 1) := by decide +kernel
theorem dX5_rounds_21 : decode cX5_rounds 21 = .ok (.getfield 29, 3) := by decide +kernel
theorem dX5_rounds_24 : decode cX5_rounds 24 = .ok (.aload_n 0, 1) := by decide +kernel
theorem dX5_rounds_25 : decode cX5_rounds 25 = .ok (.getfield 12, 3) := by decide +kernel
theorem dX5_rounds_28 : decode cX5_rounds 28 = .ok (.invokevirtual 48, 3) := by decide +kernel
theorem dX5_rounds_31 : decode cX5_rounds 31 = .ok (.aload_n 0, 1) := by decide +kernel
theorem dX5_rounds_32 : decode cX5_rounds 32 = .ok (.getfield 36, 3) := by decide +kernel
theorem dX5_rounds_35 : decode cX5_rounds 35 = .ok (.aload_n 0, 1) := by decide +kernel
theorem dX5_rounds_36 : decode cX5_rounds 36 = .ok (.getfield 12, 3) := by decide +kernel
theorem dX5_rounds_39 : decode cX5_rounds 39 = .ok (.invokevirtual 131, 3) := by decide +kernel
theorem dX5_rounds_42 : decode cX5_rounds 42 = .ok (.aload_n 0, 1) := by decide +kernel
theorem dX5_rounds_43 : decode cX5_rounds 43 = .ok (.getfield 36, 3) := by decide +kernel
theorem dX5_rounds_46 : decode cX5_rounds 46 = .ok (.invokevirtual 116, 3) := by decide +kernel
theorem dX5_rounds_49 : decode cX5_rounds 49 = .ok (.aload_n 0, 1) := by decide +kernel
theorem dX5_rounds_50 : decode cX5_rounds 50 = .ok (.getfield 12, 3) := by decide +kernel
theorem dX5_rounds_53 : decode cX5_rounds 53 = .ok (.invokevirtual 134, 3) := by decide +kernel
theorem dX5_rounds_56 : decode cX5_rounds 56 = .ok (.ireturn, 1) := by decide +kernel
theorem dX5_undo_0 : decode cX5_undo 0 = .ok (.aload_n 0, 1) := by decide +kernel
theorem dX5_undo_1 : decode cX5_undo 1 = .ok (.getfield 29, 3) := by decide +kernel
theorem dX5_undo_4 : decode cX5_undo 4 = .ok (.getfield 137, 3) := by decide +kernel
theorem dX5_undo_7 : decode cX5_undo 7 = .ok (.ifCond .ne 13, 3) := by decide +kernel
theorem dX5_undo_10 : decode cX5_undo 10 = .ok (.new 76, 3) := by decide +kernel
theorem dX5_undo_13 : decode cX5_undo 13 = .ok (.dup, 1) := by decide +kernel
theorem dX5_undo_14 : decode cX5_undo 14 = .ok (.ldc 140, 2) := by decide +kernel
theorem dX5_undo_16 : decode cX5_undo 16 = .ok (.invokespecial 80, 3) := by decide +kernel
theorem dX5_undo_19 : decode cX5_undo 19 = .ok (.athrow, 1) := by decide +kernel
theorem dX5_undo_20 : decode cX5_undo 20 = .ok (.aload_n 0, 1) := by decide +kernel
theorem dX5_undo_21 : decode cX5_undo 21 = .ok (.getfield 29, 3) := by decide +kernel
theorem dX5_undo_24 : decode cX5_undo 24 = .ok (.aload_n 0, 1) := by decide +kernel
theorem dX5_undo_25 : decode cX5_undo 25 = .ok (.getfield 12, 3) := by decide +kernel
theorem dX5_undo_28 : decode cX5_undo 28 = .ok (.invokevirtual 142, 3) := by decide +kernel
theorem dX5_undo_31 : decode cX5_undo 31 = .ok (.aload_n 0, 1) := by decide +kernel
theorem dX5_undo_32 : decode cX5_undo 32 = .ok (.getfield 29, 3) := by decide +kernel
theorem dX5_undo_35 : decode cX5_undo 35 = .ok (.getfield 137, 3) := by decide +kernel
theorem dX5_undo_38 : decode cX5_undo 38 = .ok (.ireturn, 1) := by decide +kernel
theorem dX5_street_0 : decode cX5_street 0 = .ok (.iload_n 1, 1) := by decide +kernel
theorem dX5_street_1 : decode cX5_street 1 = .ok (.bipush 12, 2) := by decide +kernel
theorem dX5_street_3 : decode cX5_street 3 = .ok (.invokestatic 40, 3) := by decide +kernel
theorem dX5_street_6 : decode cX5_street 6 = .ok (.iload_n 2, 1) := by decide +kernel
theorem dX5_street_7 : decode cX5_street 7 = .ok (.iconst 0, 1) := by decide +kernel
theorem dX5_street_8 : decode cX5_street 8 = .ok (.bipush 7, 2) := by decide +kernel
theorem dX5_street_10 : decode cX5_street 10 = .ok (.invokestatic 44, 3) := by decide +kernel
theorem dX5_street_13 : decode cX5_street 13 = .ok (.iload_n 2, 1) := by decide +kernel
theorem dX5_street_14 : decode cX5_street 14 = .ok (.tableswitch 131 0 6 #[42, 52, 62, 79, 102, 111, 121], 42) := by decide +kernel
theorem dX5_street_56 : decode cX5_street 56 = .ok (.aload_n 0, 1) := by decide +kernel
theorem dX5_street_57 : decode cX5_street 57 = .ok (.getfield 12, 3) := by decide +kernel
theorem dX5_street_60 : decode cX5_street 60 = .ok (.getfield 60, 3) := by decide +kernel
theorem dX5_street_63 : decode cX5_street 63 = .ok (.iload_n 1, 1) := by decide +kernel
theorem dX5_street_64 : decode cX5_street 64 = .ok (.iaload, 1) := by decide +kernel
theorem dX5_street_65 : decode cX5_street 65 = .ok (.ireturn, 1) := by decide +kernel
theorem dX5_street_66 : decode cX5_street 66 = .ok (.aload_n 0, 1) := by decide +kernel
theorem dX5_street_67 : decode cX5_street 67 = .ok (.getfield 12, 3) := by decide +kernel
theorem dX5_street_70 : decode cX5_street 70 = .ok (.getfield 63, 3) := by decide +kernel
theorem dX5_street_73 : decode cX5_street 73 = .ok (.iload_n 1, 1) := by decide +kernel
theorem dX5_street_74 : decode cX5_street 74 = .ok (.iaload, 1) := by decide +kernel
theorem dX5_street_75 : decode cX5_street 75 = .ok (.ireturn, 1) := by decide +kernel
theorem dX5_street_76 : decode cX5_street 76 = .ok (.aload_n 0, 1) := by decide +kernel
theorem dX5_street_77 : decode cX5_street 77 = .ok (.getfield 12, 3) := by decide +kernel
theorem dX5_street_80 : decode cX5_street 80 = .ok (.iload_n 1, 1) := by decide +kernel
theorem dX5_street_81 : decode cX5_street 81 = .ok (.invokevirtual 145, 3) := by decide +kernel
theorem dX5_street_84 : decode cX5_street 84 = .ok (.ifCond .eq 7, 3) := by decide +kernel
theorem dX5_street_87 : decode cX5_street 87 = .ok (.iconst 1, 1) := by decide +kernel
theorem dX5_street_88 : decode cX5_street 88 = .ok (.goto 4, 3) := by decide +kernel
theorem dX5_street_91 : decode cX5_street 91 = .ok (.iconst 0, 1) := by decide +kernel
theorem dX5_street_92 : decode cX5_street 92 = .ok (.ireturn, 1) := by decide +kernel
theorem dX5_street_93 : decode cX5_street 93 = .ok (.aload_n 0, 1) := by decide +kernel
theorem dX5_street_94 : decode cX5_street 94 = .ok (.getfield 22, 3) := by decide +kernel
theorem dX5_street_97 : decode cX5_street 97 = .ok (.invokevirtual 149, 3) := by decide +kernel
theorem dX5_street_100 : decode cX5_street 100 = .ok (.aload_n 0, 1) := by decide +kernel
theorem dX5_street_101 : decode cX5_street 101 = .ok (.getfield 12, 3) := by decide +kernel
theorem dX5_street_104 : decode cX5_street 104 = .ok (.iload_n 1, 1) := by decide +kernel
theorem dX5_street_105 : decode cX5_street 105 = .ok (.aload_n 0, 1) := by decide +kernel
theorem dX5_street_106 : decode cX5_street 106 = .ok (.getfield 22, 3) := by decide +kernel
theorem dX5_street_109 : decode cX5_street 109 = .ok (.getfield 152, 3) := by decide +kernel
theorem dX5_street_112 : decode cX5_street 112 = .ok (.invokevirtual 155, 3) := by decide +kernel
theorem dX5_street_115 : decode cX5_street 115 = .ok (.ireturn, 1) := by decide +kernel
theorem dX5_street_116 : decode cX5_street 116 = .ok (.aload_n 0, 1) := by decide +kernel
theorem dX5_street_117 : decode cX5_street 117 = .ok (.getfield 12, 3) := by decide +kernel
theorem dX5_street_120 : decode cX5_street 120 = .ok (.iload_n 1, 1) := by decide +kernel
theorem dX5_street_121 : decode cX5_street 121 = .ok (.invokevirtual 159, 3) := by decide +kernel
theorem dX5_street_124 : decode cX5_street 124 = .ok (.ireturn, 1) := by decide +kernel
theorem dX5_street_125 : decode cX5_street 125 = .ok (.aload_n 0, 1) := by decide +kernel
theorem dX5_street_126 : decode cX5_street 126 = .ok (.getfield 12, 3) := by decide +kernel
theorem dX5_street_129 : decode cX5_street 129 = .ok (.getfield 162, 3) := by decide +kernel
theorem dX5_street_132 : decode cX5_street 132 = .ok (.iload_n 1, 1) := by decide +kernel
theorem dX5_street_133 : decode cX5_street 133 = .ok (.iaload, 1) := by decide +kernel
theorem dX5_street_134 : decode cX5_street 134 = .ok (.ireturn, 1) := by decide +kernel
theorem dX5_street_135 : decode cX5_street 135 = .ok (.aload_n 0, 1) := by decide +kernel
theorem dX5_street_136 : decode cX5_street 136 = .ok (.getfield 12, 3) := by decide +kernel
theorem dX5_street_139 : decode cX5_street 139 = .ok (.getfield 165, 3) := by decide +kernel
theorem dX5_street_142 : decode cX5_street 142 = .ok (.iload_n 1, 1) := by decide +kernel
theorem dX5_street_143 : decode cX5_street 143 = .ok (.iaload, 1) := by decide +kernel
theorem dX5_street_144 : decode cX5_street 144 = .ok (.ireturn, 1) := by decide +kernel
theorem dX5_street_145 : decode cX5_street 145 = .ok (.aload_n 0, 1) := by decide +kernel
theorem dX5_street_146 : decode cX5_street 146 = .ok (.getfield 12, 3) := by decide +kernel
theorem dX5_street_149 : decode cX5_street 149 = .ok (.getfield 168, 3) := by decide +kernel
theorem dX5_street_152 : decode cX5_street 152 = .ok (.iload_n 1, 1) := by decide +kernel
theorem dX5_street_153 : decode cX5_street 153 = .ok (.iaload, 1) := by decide +kernel
theorem dX5_street_154 : decode cX5_street 154 = .ok (.ireturn, 1) := by decide +kernel
theorem dX5_round_0 : decode cX5_round 0 = .ok (.iload_n 1, 1) := by decide +kernel
theorem dX5_round_1 : decode cX5_round 1 = .ok (.iconst 3, 1) := by decide +kernel
theorem dX5_round_2 : decode cX5_round 2 = .ok (.invokestatic 40, 3) := by decide +kernel
theorem dX5_round_5 : decode cX5_round 5 = .ok (.iload_n 2, 1) := by decide +kernel
theorem dX5_round_6 : decode cX5_round 6 = .ok (.ifCond .ge 13, 3) := by decide +kernel
theorem dX5_round_9 : decode cX5_round 9 = .ok (.new 126, 3) := by decide +kernel
theorem dX5_round_12 : decode cX5_round 12 = .ok (.dup, 1) := by decide +kernel
theorem dX5_round_13 : decode cX5_round 13 = .ok (.ldc 171, 2) := by decide +kernel
theorem dX5_round_15 : decode cX5_round 15 = .ok (.invokespecial 130, 3) := by decide +kernel
theorem dX5_round_18 : decode cX5_round 18 = .ok (.athrow, 1) := by decide +kernel
theorem dX5_round_19 : decode cX5_round 19 = .ok (.aload_n 0, 1) := by decide +kernel
theorem dX5_round_20 : decode cX5_round 20 = .ok (.getfield 12, 3) := by decide +kernel
theorem dX5_round_23 : decode cX5_round 23 = .ok (.getfield 66, 3) := by decide +kernel
theorem dX5_round_26 : decode cX5_round 26 = .ok (.iload_n 1, 1) := by decide +kernel
theorem dX5_round_27 : decode cX5_round 27 = .ok (.aaload, 1) := by decide +kernel
theorem dX5_round_28 : decode cX5_round 28 = .ok (.iload_n 2, 1) := by decide +kernel
theorem dX5_round_29 : decode cX5_round 29 = .ok (.invokevirtual 91, 3) := by decide +kernel
theorem dX5_round_32 : decode cX5_round 32 = .ok (.ireturn, 1) := by decide +kernel
theorem dX5_count_0 : decode cX5_count 0 = .ok (.iload_n 1, 1) := by decide +kernel
theorem dX5_count_1 : decode cX5_count 1 = .ok (.iconst 0, 1) := by decide +kernel
theorem dX5_count_2 : decode cX5_count 2 = .ok (.bipush 8, 2) := by decide +kernel
theorem dX5_count_4 : decode cX5_count 4 = .ok (.invokestatic 44, 3) := by decide +kernel
theorem dX5_count_7 : decode cX5_count 7 = .ok (.iload_n 1, 1) := by decide +kernel
theorem dX5_count_8 : decode cX5_count 8 = .ok (.tableswitch 121 0 7 #[48, 56, 67, 75, 86, 97, 105, 113], 48) := by decide +kernel
theorem dX5_count_56 : decode cX5_count 56 = .ok (.aload_n 0, 1) := by decide +kernel
theorem dX5_count_57 : decode cX5_count 57 = .ok (.getfield 12, 3) := by decide +kernel
theorem dX5_count_60 : decode cX5_count 60 = .ok (.getfield 173, 3) := by decide +kernel
theorem dX5_count_63 : decode cX5_count 63 = .ok (.ireturn, 1) := by decide +kernel
theorem dX5_count_64 : decode cX5_count 64 = .ok (.aload_n 0, 1) := by decide +kernel
theorem dX5_count_65 : decode cX5_count 65 = .ok (.getfield 12, 3) := by decide +kernel
theorem dX5_count_68 : decode cX5_count 68 = .ok (.getfield 60, 3) := by decide +kernel
theorem dX5_count_71 : decode cX5_count 71 = .ok (.invokestatic 176, 3) := by decide +kernel
theorem dX5_count_74 : decode cX5_count 74 = .ok (.ireturn, 1) := by decide +kernel
theorem dX5_count_75 : decode cX5_count 75 = .ok (.aload_n 0, 1) := by decide +kernel
theorem dX5_count_76 : decode cX5_count 76 = .ok (.getfield 12, 3) := by decide +kernel
theorem dX5_count_79 : decode cX5_count 79 = .ok (.invokevirtual 180, 3) := by decide +kernel
theorem dX5_count_82 : decode cX5_count 82 = .ok (.ireturn, 1) := by decide +kernel
theorem dX5_count_83 : decode cX5_count 83 = .ok (.aload_n 0, 1) := by decide +kernel
theorem dX5_count_84 : decode cX5_count 84 = .ok (.getfield 12, 3) := by decide +kernel
theorem dX5_count_87 : decode cX5_count 87 = .ok (.getfield 162, 3) := by decide +kernel
theorem dX5_count_90 : decode cX5_count 90 = .ok (.invokestatic 176, 3) := by decide +kernel
theorem dX5_count_93 : decode cX5_count 93 = .ok (.ireturn, 1) := by decide +kernel
theorem dX5_count_94 : decode cX5_count 94 = .ok (.aload_n 0, 1) := by decide +kernel
theorem dX5_count_95 : decode cX5_count 95 = .ok (.getfield 12, 3) := by decide +kernel
theorem dX5_count_98 : decode cX5_count 98 = .ok (.getfield 165, 3) := by decide +kernel
theorem dX5_count_101 : decode cX5_count 101 = .ok (.invokestatic 176, 3) := by decide +kernel
theorem dX5_count_104 : decode cX5_count 104 = .ok (.ireturn, 1) := by decide +kernel
theorem dX5_count_105 : decode cX5_count 105 = .ok (.aload_n 0, 1) := by decide +kernel
theorem dX5_count_106 : decode cX5_count 106 = .ok (.getfield 12, 3) := by decide +kernel
theorem dX5_count_109 : decode cX5_count 109 = .ok (.getfield 183, 3) := by decide +kernel
theorem dX5_count_112 : decode cX5_count 112 = .ok (.ireturn, 1) := by decide +kernel
theorem dX5_count_113 : decode cX5_count 113 = .ok (.aload_n 0, 1) := by decide +kernel
theorem dX5_count_114 : decode cX5_count 114 = .ok (.getfield 12, 3) := by decide +kernel
theorem dX5_count_117 : decode cX5_count 117 = .ok (.invokevirtual 134, 3) := by decide +kernel
theorem dX5_count_120 : decode cX5_count 120 = .ok (.ireturn, 1) := by decide +kernel
theorem dX5_count_121 : decode cX5_count 121 = .ok (.aload_n 0, 1) := by decide +kernel
theorem dX5_count_122 : decode cX5_count 122 = .ok (.getfield 12, 3) := by decide +kernel
theorem dX5_count_125 : decode cX5_count 125 = .ok (.getfield 186, 3) := by decide +kernel
theorem dX5_count_128 : decode cX5_count 128 = .ok (.ireturn, 1) := by decide +kernel
theorem dX5_count_129 : decode cX5_count 129 = .ok (.aload_n 0, 1) := by decide +kernel
theorem dX5_count_130 : decode cX5_count 130 = .ok (.getfield 29, 3) := by decide +kernel
theorem dX5_count_133 : decode cX5_count 133 = .ok (.getfield 137, 3) := by decide +kernel
theorem dX5_count_136 : decode cX5_count 136 = .ok (.ireturn, 1) := by decide +kernel
theorem dX5_setting_0 : decode cX5_setting 0 = .ok (.iload_n 1, 1) := by decide +kernel
theorem dX5_setting_1 : decode cX5_setting 1 = .ok (.iconst 4, 1) := by decide +kernel
theorem dX5_setting_2 : decode cX5_setting 2 = .ok (.invokestatic 40, 3) := by decide +kernel
theorem dX5_setting_5 : decode cX5_setting 5 = .ok (.aload_n 0, 1) := by decide +kernel
theorem dX5_setting_6 : decode cX5_setting 6 = .ok (.getfield 12, 3) := by decide +kernel
theorem dX5_setting_9 : decode cX5_setting 9 = .ok (.getfield 104, 3) := by decide +kernel
theorem dX5_setting_12 : decode cX5_setting 12 = .ok (.iload_n 1, 1) := by decide +kernel
theorem dX5_setting_13 : decode cX5_setting 13 = .ok (.iaload, 1) := by decide +kernel
theorem dX5_setting_14 : decode cX5_setting 14 = .ok (.ireturn, 1) := by decide +kernel
theorem dX5_waits_0 : decode cX5_waits 0 = .ok (.iload_n 1, 1) := by decide +kernel
theorem dX5_waits_1 : decode cX5_waits 1 = .ok (.iconst 3, 1) := by decide +kernel
theorem dX5_waits_2 : decode cX5_waits 2 = .ok (.invokestatic 40, 3) := by decide +kernel
theorem dX5_waits_5 : decode cX5_waits 5 = .ok (.aload_n 0, 1) := by decide +kernel
theorem dX5_waits_6 : decode cX5_waits 6 = .ok (.getfield 22, 3) := by decide +kernel
theorem dX5_waits_9 : decode cX5_waits 9 = .ok (.aload_n 0, 1) := by decide +kernel
theorem dX5_waits_10 : decode cX5_waits 10 = .ok (.getfield 12, 3) := by decide +kernel
theorem dX5_waits_13 : decode cX5_waits 13 = .ok (.invokevirtual 189, 3) := by decide +kernel
theorem dX5_waits_16 : decode cX5_waits 16 = .ok (.aload_n 0, 1) := by decide +kernel
theorem dX5_waits_17 : decode cX5_waits 17 = .ok (.getfield 22, 3) := by decide +kernel
theorem dX5_waits_20 : decode cX5_waits 20 = .ok (.getfield 192, 3) := by decide +kernel
theorem dX5_waits_23 : decode cX5_waits 23 = .ok (.iload_n 1, 1) := by decide +kernel
theorem dX5_waits_24 : decode cX5_waits 24 = .ok (.iaload, 1) := by decide +kernel
theorem dX5_waits_25 : decode cX5_waits 25 = .ok (.ireturn, 1) := by decide +kernel
theorem dX5_ifPassed_0 : decode cX5_ifPassed 0 = .ok (.iload_n 1, 1) := by decide +kernel
theorem dX5_ifPassed_1 : decode cX5_ifPassed 1 = .ok (.iconst 1, 1) := by decide +kernel
theorem dX5_ifPassed_2 : decode cX5_ifPassed 2 = .ok (.bipush 48, 2) := by decide +kernel
theorem dX5_ifPassed_4 : decode cX5_ifPassed 4 = .ok (.invokestatic 44, 3) := by decide +kernel
theorem dX5_ifPassed_7 : decode cX5_ifPassed 7 = .ok (.iload_n 2, 1) := by decide +kernel
theorem dX5_ifPassed_8 : decode cX5_ifPassed 8 = .ok (.iconst 0, 1) := by decide +kernel
theorem dX5_ifPassed_9 : decode cX5_ifPassed 9 = .ok (.iconst 3, 1) := by decide +kernel
theorem dX5_ifPassed_10 : decode cX5_ifPassed 10 = .ok (.invokestatic 44, 3) := by decide +kernel
theorem dX5_ifPassed_13 : decode cX5_ifPassed 13 = .ok (.aload_n 0, 1) := by decide +kernel
theorem dX5_ifPassed_14 : decode cX5_ifPassed 14 = .ok (.getfield 16, 3) := by decide +kernel
theorem dX5_ifPassed_17 : decode cX5_ifPassed 17 = .ok (.aload_n 0, 1) := by decide +kernel
theorem dX5_ifPassed_18 : decode cX5_ifPassed 18 = .ok (.getfield 12, 3) := by decide +kernel
theorem dX5_ifPassed_21 : decode cX5_ifPassed 21 = .ok (.invokevirtual 195, 3) := by decide +kernel
theorem dX5_ifPassed_24 : decode cX5_ifPassed 24 = .ok (.aload_n 0, 1) := by decide +kernel
theorem dX5_ifPassed_25 : decode cX5_ifPassed 25 = .ok (.getfield 22, 3) := by decide +kernel
theorem dX5_ifPassed_28 : decode cX5_ifPassed 28 = .ok (.aload_n 0, 1) := by decide +kernel
theorem dX5_ifPassed_29 : decode cX5_ifPassed 29 = .ok (.getfield 16, 3) := by decide +kernel
theorem dX5_ifPassed_32 : decode cX5_ifPassed 32 = .ok (.iload_n 1, 1) := by decide +kernel
theorem dX5_ifPassed_33 : decode cX5_ifPassed 33 = .ok (.invokevirtual 107, 3) := by decide +kernel
theorem dX5_ifPassed_36 : decode cX5_ifPassed 36 = .ok (.istore_n 3, 1) := by decide +kernel
theorem dX5_ifPassed_37 : decode cX5_ifPassed 37 = .ok (.iload_n 2, 1) := by decide +kernel
theorem dX5_ifPassed_38 : decode cX5_ifPassed 38 = .ok (.tableswitch 58 0 2 #[26, 28, 50], 26) := by decide +kernel
theorem dX5_ifPassed_64 : decode cX5_ifPassed 64 = .ok (.iload_n 3, 1) := by decide +kernel
theorem dX5_ifPassed_65 : decode cX5_ifPassed 65 = .ok (.ireturn, 1) := by decide +kernel
theorem dX5_ifPassed_66 : decode cX5_ifPassed 66 = .ok (.aload_n 0, 1) := by decide +kernel
theorem dX5_ifPassed_67 : decode cX5_ifPassed 67 = .ok (.getfield 16, 3) := by decide +kernel
theorem dX5_ifPassed_70 : decode cX5_ifPassed 70 = .ok (.getfield 165, 3) := by decide +kernel
theorem dX5_ifPassed_73 : decode cX5_ifPassed 73 = .ok (.invokestatic 176, 3) := by decide +kernel
theorem dX5_ifPassed_76 : decode cX5_ifPassed 76 = .ok (.aload_n 0, 1) := by decide +kernel
theorem dX5_ifPassed_77 : decode cX5_ifPassed 77 = .ok (.getfield 12, 3) := by decide +kernel
theorem dX5_ifPassed_80 : decode cX5_ifPassed 80 = .ok (.getfield 165, 3) := by decide +kernel
theorem dX5_ifPassed_83 : decode cX5_ifPassed 83 = .ok (.invokestatic 176, 3) := by decide +kernel
theorem dX5_ifPassed_86 : decode cX5_ifPassed 86 = .ok (.isub, 1) := by decide +kernel
theorem dX5_ifPassed_87 : decode cX5_ifPassed 87 = .ok (.ireturn, 1) := by decide +kernel
theorem dX5_ifPassed_88 : decode cX5_ifPassed 88 = .ok (.aload_n 0, 1) := by decide +kernel
theorem dX5_ifPassed_89 : decode cX5_ifPassed 89 = .ok (.getfield 16, 3) := by decide +kernel
theorem dX5_ifPassed_92 : decode cX5_ifPassed 92 = .ok (.invokevirtual 180, 3) := by decide +kernel
theorem dX5_ifPassed_95 : decode cX5_ifPassed 95 = .ok (.ireturn, 1) := by decide +kernel
theorem dX5_ifPassed_96 : decode cX5_ifPassed 96 = .ok (.aload_n 0, 1) := by decide +kernel
theorem dX5_ifPassed_97 : decode cX5_ifPassed 97 = .ok (.getfield 16, 3) := by decide +kernel
theorem dX5_ifPassed_100 : decode cX5_ifPassed 100 = .ok (.invokevirtual 134, 3) := by decide +kernel
theorem dX5_ifPassed_103 : decode cX5_ifPassed 103 = .ok (.ireturn, 1) := by decide +kernel
theorem dX5_bestStreet_0 : decode cX5_bestStreet 0 = .ok (.iconst (-1), 1) := by decide +kernel
theorem dX5_bestStreet_1 : decode cX5_bestStreet 1 = .ok (.istore_n 1, 1) := by decide +kernel
theorem dX5_bestStreet_2 : decode cX5_bestStreet 2 = .ok (.iconst 0, 1) := by decide +kernel
theorem dX5_bestStreet_3 : decode cX5_bestStreet 3 = .ok (.istore_n 2, 1) := by decide +kernel
theorem dX5_bestStreet_4 : decode cX5_bestStreet 4 = .ok (.iconst 0, 1) := by decide +kernel
theorem dX5_bestStreet_5 : decode cX5_bestStreet 5 = .ok (.istore_n 3, 1) := by decide +kernel
theorem dX5_bestStreet_6 : decode cX5_bestStreet 6 = .ok (.iload_n 3, 1) := by decide +kernel
theorem dX5_bestStreet_7 : decode cX5_bestStreet 7 = .ok (.bipush 12, 2) := by decide +kernel
theorem dX5_bestStreet_9 : decode cX5_bestStreet 9 = .ok (.if_icmp .ge 59, 3) := by decide +kernel
theorem dX5_bestStreet_12 : decode cX5_bestStreet 12 = .ok (.aload_n 0, 1) := by decide +kernel
theorem dX5_bestStreet_13 : decode cX5_bestStreet 13 = .ok (.getfield 16, 3) := by decide +kernel
theorem dX5_bestStreet_16 : decode cX5_bestStreet 16 = .ok (.aload_n 0, 1) := by decide +kernel
theorem dX5_bestStreet_17 : decode cX5_bestStreet 17 = .ok (.getfield 12, 3) := by decide +kernel
theorem dX5_bestStreet_20 : decode cX5_bestStreet 20 = .ok (.invokevirtual 195, 3) := by decide +kernel
theorem dX5_bestStreet_23 : decode cX5_bestStreet 23 = .ok (.aload_n 0, 1) := by decide +kernel
theorem dX5_bestStreet_24 : decode cX5_bestStreet 24 = .ok (.getfield 16, 3) := by decide +kernel
theorem dX5_bestStreet_27 : decode cX5_bestStreet 27 = .ok (.iload_n 3, 1) := by decide +kernel
theorem dX5_bestStreet_28 : decode cX5_bestStreet 28 = .ok (.invokevirtual 198, 3) := by decide +kernel
theorem dX5_bestStreet_31 : decode cX5_bestStreet 31 = .ok (.aload_n 0, 1) := by decide +kernel
theorem dX5_bestStreet_32 : decode cX5_bestStreet 32 = .ok (.getfield 22, 3) := by decide +kernel
theorem dX5_bestStreet_35 : decode cX5_bestStreet 35 = .ok (.aload_n 0, 1) := by decide +kernel
theorem dX5_bestStreet_36 : decode cX5_bestStreet 36 = .ok (.getfield 16, 3) := by decide +kernel
theorem dX5_bestStreet_39 : decode cX5_bestStreet 39 = .ok (.bipush 12, 2) := by decide +kernel
theorem dX5_bestStreet_41 : decode cX5_bestStreet 41 = .ok (.invokevirtual 107, 3) := by decide +kernel
theorem dX5_bestStreet_44 : decode cX5_bestStreet 44 = .ok (.istore 4, 2) := by decide +kernel
theorem dX5_bestStreet_46 : decode cX5_bestStreet 46 = .ok (.iload_n 1, 1) := by decide +kernel
theorem dX5_bestStreet_47 : decode cX5_bestStreet 47 = .ok (.iconst (-1), 1) := by decide +kernel
theorem dX5_bestStreet_48 : decode cX5_bestStreet 48 = .ok (.if_icmp .eq 9, 3) := by decide +kernel
theorem dX5_bestStreet_51 : decode cX5_bestStreet 51 = .ok (.iload 4, 2) := by decide +kernel
theorem dX5_bestStreet_53 : decode cX5_bestStreet 53 = .ok (.iload_n 2, 1) := by decide +kernel
theorem dX5_bestStreet_54 : decode cX5_bestStreet 54 = .ok (.if_icmp .ge 8, 3) := by decide +kernel
theorem dX5_bestStreet_57 : decode cX5_bestStreet 57 = .ok (.iload 4, 2) := by decide +kernel
theorem dX5_bestStreet_59 : decode cX5_bestStreet 59 = .ok (.istore_n 2, 1) := by decide +kernel
theorem dX5_bestStreet_60 : decode cX5_bestStreet 60 = .ok (.iload_n 3, 1) := by decide +kernel
theorem dX5_bestStreet_61 : decode cX5_bestStreet 61 = .ok (.istore_n 1, 1) := by decide +kernel
theorem dX5_bestStreet_62 : decode cX5_bestStreet 62 = .ok (.iinc 3 1, 3) := by decide +kernel
theorem dX5_bestStreet_65 : decode cX5_bestStreet 65 = .ok (.goto (-59), 3) := by decide +kernel
theorem dX5_bestStreet_68 : decode cX5_bestStreet 68 = .ok (.iload_n 1, 1) := by decide +kernel
theorem dX5_bestStreet_69 : decode cX5_bestStreet 69 = .ok (.ireturn, 1) := by decide +kernel
theorem dX5_clearIn_0 : decode cX5_clearIn 0 = .ok (.aload_n 0, 1) := by decide +kernel
theorem dX5_clearIn_1 : decode cX5_clearIn 1 = .ok (.getfield 16, 3) := by decide +kernel
theorem dX5_clearIn_4 : decode cX5_clearIn 4 = .ok (.aload_n 0, 1) := by decide +kernel
theorem dX5_clearIn_5 : decode cX5_clearIn 5 = .ok (.getfield 12, 3) := by decide +kernel
theorem dX5_clearIn_8 : decode cX5_clearIn 8 = .ok (.invokevirtual 195, 3) := by decide +kernel
theorem dX5_clearIn_11 : decode cX5_clearIn 11 = .ok (.iconst 0, 1) := by decide +kernel
theorem dX5_clearIn_12 : decode cX5_clearIn 12 = .ok (.istore_n 1, 1) := by decide +kernel
theorem dX5_clearIn_13 : decode cX5_clearIn 13 = .ok (.iload_n 1, 1) := by decide +kernel
theorem dX5_clearIn_14 : decode cX5_clearIn 14 = .ok (.sipush 200, 3) := by decide +kernel
theorem dX5_clearIn_17 : decode cX5_clearIn 17 = .ok (.if_icmp .gt 32, 3) := by decide +kernel
theorem dX5_clearIn_20 : decode cX5_clearIn 20 = .ok (.aload_n 0, 1) := by decide +kernel
theorem dX5_clearIn_21 : decode cX5_clearIn 21 = .ok (.getfield 16, 3) := by decide +kernel
theorem dX5_clearIn_24 : decode cX5_clearIn 24 = .ok (.invokevirtual 180, 3) := by decide +kernel
theorem dX5_clearIn_27 : decode cX5_clearIn 27 = .ok (.ifCond .ne 5, 3) := by decide +kernel
theorem dX5_clearIn_30 : decode cX5_clearIn 30 = .ok (.iload_n 1, 1) := by decide +kernel
theorem dX5_clearIn_31 : decode cX5_clearIn 31 = .ok (.ireturn, 1) := by decide +kernel
theorem dX5_clearIn_32 : decode cX5_clearIn 32 = .ok (.aload_n 0, 1) := by decide +kernel
theorem dX5_clearIn_33 : decode cX5_clearIn 33 = .ok (.getfield 22, 3) := by decide +kernel
theorem dX5_clearIn_36 : decode cX5_clearIn 36 = .ok (.aload_n 0, 1) := by decide +kernel
theorem dX5_clearIn_37 : decode cX5_clearIn 37 = .ok (.getfield 16, 3) := by decide +kernel
theorem dX5_clearIn_40 : decode cX5_clearIn 40 = .ok (.invokevirtual 201, 3) := by decide +kernel
theorem dX5_clearIn_43 : decode cX5_clearIn 43 = .ok (.iinc 1 1, 3) := by decide +kernel
theorem dX5_clearIn_46 : decode cX5_clearIn 46 = .ok (.goto (-33), 3) := by decide +kernel
theorem dX5_clearIn_49 : decode cX5_clearIn 49 = .ok (.iconst (-1), 1) := by decide +kernel
theorem dX5_clearIn_50 : decode cX5_clearIn 50 = .ok (.ireturn, 1) := by decide +kernel
theorem dX5_leastPressure_0 : decode cX5_leastPressure 0 = .ok (.iload_n 1, 1) := by decide +kernel
theorem dX5_leastPressure_1 : decode cX5_leastPressure 1 = .ok (.bipush 12, 2) := by decide +kernel
theorem dX5_leastPressure_3 : decode cX5_leastPressure 3 = .ok (.invokestatic 40, 3) := by decide +kernel
theorem dX5_leastPressure_6 : decode cX5_leastPressure 6 = .ok (.aload_n 0, 1) := by decide +kernel
theorem dX5_leastPressure_7 : decode cX5_leastPressure 7 = .ok (.getfield 16, 3) := by decide +kernel
theorem dX5_leastPressure_10 : decode cX5_leastPressure 10 = .ok (.aload_n 0, 1) := by decide +kernel
theorem dX5_leastPressure_11 : decode cX5_leastPressure 11 = .ok (.getfield 12, 3) := by decide +kernel
theorem dX5_leastPressure_14 : decode cX5_leastPressure 14 = .ok (.invokevirtual 195, 3) := by decide +kernel
theorem dX5_leastPressure_17 : decode cX5_leastPressure 17 = .ok (.aload_n 0, 1) := by decide +kernel
theorem dX5_leastPressure_18 : decode cX5_leastPressure 18 = .ok (.getfield 22, 3) := by decide +kernel
theorem dX5_leastPressure_21 : decode cX5_leastPressure 21 = .ok (.invokevirtual 149, 3) := by decide +kernel
theorem dX5_leastPressure_24 : decode cX5_leastPressure 24 = .ok (.aload_n 0, 1) := by decide +kernel
theorem dX5_leastPressure_25 : decode cX5_leastPressure 25 = .ok (.getfield 22, 3) := by decide +kernel
theorem dX5_leastPressure_28 : decode cX5_leastPressure 28 = .ok (.getfield 152, 3) := by decide +kernel
theorem dX5_leastPressure_31 : decode cX5_leastPressure 31 = .ok (.iload_n 1, 1) := by decide +kernel
theorem dX5_leastPressure_32 : decode cX5_leastPressure 32 = .ok (.iconst 4, 1) := by decide +kernel
theorem dX5_leastPressure_33 : decode cX5_leastPressure 33 = .ok (.idiv, 1) := by decide +kernel
theorem dX5_leastPressure_34 : decode cX5_leastPressure 34 = .ok (.aload_n 0, 1) := by decide +kernel
theorem dX5_leastPressure_35 : decode cX5_leastPressure 35 = .ok (.getfield 12, 3) := by decide +kernel
theorem dX5_leastPressure_38 : decode cX5_leastPressure 38 = .ok (.getfield 63, 3) := by decide +kernel
theorem dX5_leastPressure_41 : decode cX5_leastPressure 41 = .ok (.iload_n 1, 1) := by decide +kernel
theorem dX5_leastPressure_42 : decode cX5_leastPressure 42 = .ok (.iaload, 1) := by decide +kernel
theorem dX5_leastPressure_43 : decode cX5_leastPressure 43 = .ok (.iastore, 1) := by decide +kernel
theorem dX5_leastPressure_44 : decode cX5_leastPressure 44 = .ok (.iconst 0, 1) := by decide +kernel
theorem dX5_leastPressure_45 : decode cX5_leastPressure 45 = .ok (.istore_n 2, 1) := by decide +kernel
theorem dX5_leastPressure_46 : decode cX5_leastPressure 46 = .ok (.iload_n 2, 1) := by decide +kernel
theorem dX5_leastPressure_47 : decode cX5_leastPressure 47 = .ok (.bipush 99, 2) := by decide +kernel
theorem dX5_leastPressure_49 : decode cX5_leastPressure 49 = .ok (.if_icmp .gt 50, 3) := by decide +kernel
theorem dX5_leastPressure_52 : decode cX5_leastPressure 52 = .ok (.aload_n 0, 1) := by decide +kernel
theorem dX5_leastPressure_53 : decode cX5_leastPressure 53 = .ok (.getfield 16, 3) := by decide +kernel
theorem dX5_leastPressure_56 : decode cX5_leastPressure 56 = .ok (.getfield 52, 3) := by decide +kernel
theorem dX5_leastPressure_59 : decode cX5_leastPressure 59 = .ok (.iload_n 1, 1) := by decide +kernel
theorem dX5_leastPressure_60 : decode cX5_leastPressure 60 = .ok (.iconst 4, 1) := by decide +kernel
theorem dX5_leastPressure_61 : decode cX5_leastPressure 61 = .ok (.idiv, 1) := by decide +kernel
theorem dX5_leastPressure_62 : decode cX5_leastPressure 62 = .ok (.iload_n 2, 1) := by decide +kernel
theorem dX5_leastPressure_63 : decode cX5_leastPressure 63 = .ok (.iastore, 1) := by decide +kernel
theorem dX5_leastPressure_64 : decode cX5_leastPressure 64 = .ok (.aload_n 0, 1) := by decide +kernel
theorem dX5_leastPressure_65 : decode cX5_leastPressure 65 = .ok (.getfield 16, 3) := by decide +kernel
theorem dX5_leastPressure_68 : decode cX5_leastPressure 68 = .ok (.iload_n 1, 1) := by decide +kernel
theorem dX5_leastPressure_69 : decode cX5_leastPressure 69 = .ok (.aload_n 0, 1) := by decide +kernel
theorem dX5_leastPressure_70 : decode cX5_leastPressure 70 = .ok (.getfield 22, 3) := by decide +kernel
theorem dX5_leastPressure_73 : decode cX5_leastPressure 73 = .ok (.getfield 152, 3) := by decide +kernel
theorem dX5_leastPressure_76 : decode cX5_leastPressure 76 = .ok (.invokevirtual 155, 3) := by decide +kernel
theorem dX5_leastPressure_79 : decode cX5_leastPressure 79 = .ok (.aload_n 0, 1) := by decide +kernel
theorem dX5_leastPressure_80 : decode cX5_leastPressure 80 = .ok (.getfield 12, 3) := by decide +kernel
theorem dX5_leastPressure_83 : decode cX5_leastPressure 83 = .ok (.getfield 104, 3) := by decide +kernel
theorem dX5_leastPressure_86 : decode cX5_leastPressure 86 = .ok (.iconst 1, 1) := by decide +kernel
theorem dX5_leastPressure_87 : decode cX5_leastPressure 87 = .ok (.iaload, 1) := by decide +kernel
theorem dX5_leastPressure_88 : decode cX5_leastPressure 88 = .ok (.if_icmp .lt 5, 3) := by decide +kernel
theorem dX5_leastPressure_91 : decode cX5_leastPressure 91 = .ok (.iload_n 2, 1) := by decide +kernel
theorem dX5_leastPressure_92 : decode cX5_leastPressure 92 = .ok (.ireturn, 1) := by decide +kernel
theorem dX5_leastPressure_93 : decode cX5_leastPressure 93 = .ok (.iinc 2 1, 3) := by decide +kernel
theorem dX5_leastPressure_96 : decode cX5_leastPressure 96 = .ok (.goto (-50), 3) := by decide +kernel
theorem dX5_leastPressure_99 : decode cX5_leastPressure 99 = .ok (.iconst (-1), 1) := by decide +kernel
theorem dX5_leastPressure_100 : decode cX5_leastPressure 100 = .ok (.ireturn, 1) := by decide +kernel
theorem dX5_cleanShare_0 : decode cX5_cleanShare 0 = .ok (.bipush 12, 2) := by decide +kernel
theorem dX5_cleanShare_2 : decode cX5_cleanShare 2 = .ok (.aload_n 0, 1) := by decide +kernel
theorem dX5_cleanShare_3 : decode cX5_cleanShare 3 = .ok (.getfield 12, 3) := by decide +kernel
theorem dX5_cleanShare_6 : decode cX5_cleanShare 6 = .ok (.invokevirtual 180, 3) := by decide +kernel
theorem dX5_cleanShare_9 : decode cX5_cleanShare 9 = .ok (.isub, 1) := by decide +kernel
theorem dX5_cleanShare_10 : decode cX5_cleanShare 10 = .ok (.i2d, 1) := by decide +kernel
