theorem dX0_init_0 : decode cX0_init 0 = .ok (.aload_n 0, 1) := by decide +kernel
theorem dX0_init_1 : decode cX0_init 1 = .ok (.invokespecial 3, 3) := by decide +kernel
theorem dX0_init_4 : decode cX0_init 4 = .ok (.aload_n 0, 1) := by decide +kernel
theorem dX0_init_5 : decode cX0_init 5 = .ok (.bipush 6, 2) := by decide +kernel
theorem dX0_init_7 : decode cX0_init 7 = .ok (.anewarray 9, 3) := by decide +kernel
theorem dX0_init_10 : decode cX0_init 10 = .ok (.putfield 11, 3) := by decide +kernel
theorem dX0_init_13 : decode cX0_init 13 = .ok (.iconst 0, 1) := by decide +kernel
theorem dX0_init_14 : decode cX0_init 14 = .ok (.istore_n 1, 1) := by decide +kernel
theorem dX0_init_15 : decode cX0_init 15 = .ok (.iload_n 1, 1) := by decide +kernel
theorem dX0_init_16 : decode cX0_init 16 = .ok (.bipush 6, 2) := by decide +kernel
theorem dX0_init_18 : decode cX0_init 18 = .ok (.if_icmp .ge 22, 3) := by decide +kernel
theorem dX0_init_21 : decode cX0_init 21 = .ok (.aload_n 0, 1) := by decide +kernel
theorem dX0_init_22 : decode cX0_init 22 = .ok (.getfield 11, 3) := by decide +kernel
theorem dX0_init_25 : decode cX0_init 25 = .ok (.iload_n 1, 1) := by decide +kernel
theorem dX0_init_26 : decode cX0_init 26 = .ok (.new 9, 3) := by decide +kernel
theorem dX0_init_29 : decode cX0_init 29 = .ok (.dup, 1) := by decide +kernel
theorem dX0_init_30 : decode cX0_init 30 = .ok (.invokespecial 17, 3) := by decide +kernel
theorem dX0_init_33 : decode cX0_init 33 = .ok (.aastore, 1) := by decide +kernel
theorem dX0_init_34 : decode cX0_init 34 = .ok (.iinc 1 1, 3) := by decide +kernel
theorem dX0_init_37 : decode cX0_init 37 = .ok (.goto (-22), 3) := by decide +kernel
theorem dX0_init_40 : decode cX0_init 40 = .ok (.aload_n 0, 1) := by decide +kernel
theorem dX0_init_41 : decode cX0_init 41 = .ok (.iconst 0, 1) := by decide +kernel
theorem dX0_init_42 : decode cX0_init 42 = .ok (.putfield 18, 3) := by decide +kernel
theorem dX0_init_45 : decode cX0_init 45 = .ok (.return_, 1) := by decide +kernel
theorem dX0_keep_0 : decode cX0_keep 0 = .ok (.aload_n 0, 1) := by decide +kernel
theorem dX0_keep_1 : decode cX0_keep 1 = .ok (.getfield 18, 3) := by decide +kernel
theorem dX0_keep_4 : decode cX0_keep 4 = .ok (.bipush 6, 2) := by decide +kernel
theorem dX0_keep_6 : decode cX0_keep 6 = .ok (.if_icmp .lt 7, 3) := by decide +kernel
theorem dX0_keep_9 : decode cX0_keep 9 = .ok (.aload_n 0, 1) := by decide +kernel
theorem dX0_keep_10 : decode cX0_keep 10 = .ok (.invokevirtual 22, 3) := by decide +kernel
theorem dX0_keep_13 : decode cX0_keep 13 = .ok (.aload_n 0, 1) := by decide +kernel
theorem dX0_keep_14 : decode cX0_keep 14 = .ok (.getfield 18, 3) := by decide +kernel
theorem dX0_keep_17 : decode cX0_keep 17 = .ok (.ifCond .lt 35, 3) := by decide +kernel
theorem dX0_keep_20 : decode cX0_keep 20 = .ok (.aload_n 0, 1) := by decide +kernel
theorem dX0_keep_21 : decode cX0_keep 21 = .ok (.getfield 18, 3) := by decide +kernel
theorem dX0_keep_24 : decode cX0_keep 24 = .ok (.bipush 6, 2) := by decide +kernel
theorem dX0_keep_26 : decode cX0_keep 26 = .ok (.if_icmp .ge 26, 3) := by decide +kernel
theorem dX0_keep_29 : decode cX0_keep 29 = .ok (.aload_n 0, 1) := by decide +kernel
theorem dX0_keep_30 : decode cX0_keep 30 = .ok (.getfield 11, 3) := by decide +kernel
theorem dX0_keep_33 : decode cX0_keep 33 = .ok (.aload_n 0, 1) := by decide +kernel
theorem dX0_keep_34 : decode cX0_keep 34 = .ok (.getfield 18, 3) := by decide +kernel
theorem dX0_keep_37 : decode cX0_keep 37 = .ok (.aaload, 1) := by decide +kernel
theorem dX0_keep_38 : decode cX0_keep 38 = .ok (.aload_n 1, 1) := by decide +kernel
theorem dX0_keep_39 : decode cX0_keep 39 = .ok (.invokevirtual 25, 3) := by decide +kernel
theorem dX0_keep_42 : decode cX0_keep 42 = .ok (.aload_n 0, 1) := by decide +kernel
theorem dX0_keep_43 : decode cX0_keep 43 = .ok (.dup, 1) := by decide +kernel
theorem dX0_keep_44 : decode cX0_keep 44 = .ok (.getfield 18, 3) := by decide +kernel
theorem dX0_keep_47 : decode cX0_keep 47 = .ok (.iconst 1, 1) := by decide +kernel
theorem dX0_keep_48 : decode cX0_keep 48 = .ok (.iadd, 1) := by decide +kernel
theorem dX0_keep_49 : decode cX0_keep 49 = .ok (.putfield 18, 3) := by decide +kernel
theorem dX0_keep_52 : decode cX0_keep 52 = .ok (.return_, 1) := by decide +kernel
theorem dX0_restore_0 : decode cX0_restore 0 = .ok (.aload_n 0, 1) := by decide +kernel
theorem dX0_restore_1 : decode cX0_restore 1 = .ok (.getfield 18, 3) := by decide +kernel
theorem dX0_restore_4 : decode cX0_restore 4 = .ok (.ifCond .le 35, 3) := by decide +kernel
theorem dX0_restore_7 : decode cX0_restore 7 = .ok (.aload_n 0, 1) := by decide +kernel
theorem dX0_restore_8 : decode cX0_restore 8 = .ok (.getfield 18, 3) := by decide +kernel
theorem dX0_restore_11 : decode cX0_restore 11 = .ok (.bipush 6, 2) := by decide +kernel
theorem dX0_restore_13 : decode cX0_restore 13 = .ok (.if_icmp .gt 26, 3) := by decide +kernel
theorem dX0_restore_16 : decode cX0_restore 16 = .ok (.aload_n 0, 1) := by decide +kernel
theorem dX0_restore_17 : decode cX0_restore 17 = .ok (.dup, 1) := by decide +kernel
theorem dX0_restore_18 : decode cX0_restore 18 = .ok (.getfield 18, 3) := by decide +kernel
theorem dX0_restore_21 : decode cX0_restore 21 = .ok (.iconst 1, 1) := by decide +kernel
theorem dX0_restore_22 : decode cX0_restore 22 = .ok (.isub, 1) := by decide +kernel
theorem dX0_restore_23 : decode cX0_restore 23 = .ok (.putfield 18, 3) := by decide +kernel
theorem dX0_restore_26 : decode cX0_restore 26 = .ok (.aload_n 1, 1) := by decide +kernel
theorem dX0_restore_27 : decode cX0_restore 27 = .ok (.aload_n 0, 1) := by decide +kernel
theorem dX0_restore_28 : decode cX0_restore 28 = .ok (.getfield 11, 3) := by decide +kernel
theorem dX0_restore_31 : decode cX0_restore 31 = .ok (.aload_n 0, 1) := by decide +kernel
theorem dX0_restore_32 : decode cX0_restore 32 = .ok (.getfield 18, 3) := by decide +kernel
theorem dX0_restore_35 : decode cX0_restore 35 = .ok (.aaload, 1) := by decide +kernel
theorem dX0_restore_36 : decode cX0_restore 36 = .ok (.invokevirtual 25, 3) := by decide +kernel
theorem dX0_restore_39 : decode cX0_restore 39 = .ok (.return_, 1) := by decide +kernel
theorem dX0_dropOldest_0 : decode cX0_dropOldest 0 = .ok (.aload_n 0, 1) := by decide +kernel
theorem dX0_dropOldest_1 : decode cX0_dropOldest 1 = .ok (.getfield 11, 3) := by decide +kernel
theorem dX0_dropOldest_4 : decode cX0_dropOldest 4 = .ok (.iconst 0, 1) := by decide +kernel
theorem dX0_dropOldest_5 : decode cX0_dropOldest 5 = .ok (.aaload, 1) := by decide +kernel
theorem dX0_dropOldest_6 : decode cX0_dropOldest 6 = .ok (.astore_n 1, 1) := by decide +kernel
theorem dX0_dropOldest_7 : decode cX0_dropOldest 7 = .ok (.iconst 1, 1) := by decide +kernel
theorem dX0_dropOldest_8 : decode cX0_dropOldest 8 = .ok (.istore_n 2, 1) := by decide +kernel
theorem dX0_dropOldest_9 : decode cX0_dropOldest 9 = .ok (.iload_n 2, 1) := by decide +kernel
theorem dX0_dropOldest_10 : decode cX0_dropOldest 10 = .ok (.bipush 6, 2) := by decide +kernel
theorem dX0_dropOldest_12 : decode cX0_dropOldest 12 = .ok (.if_icmp .ge 23, 3) := by decide +kernel
theorem dX0_dropOldest_15 : decode cX0_dropOldest 15 = .ok (.aload_n 0, 1) := by decide +kernel
theorem dX0_dropOldest_16 : decode cX0_dropOldest 16 = .ok (.getfield 11, 3) := by decide +kernel
theorem dX0_dropOldest_19 : decode cX0_dropOldest 19 = .ok (.iload_n 2, 1) := by decide +kernel
theorem dX0_dropOldest_20 : decode cX0_dropOldest 20 = .ok (.iconst 1, 1) := by decide +kernel
theorem dX0_dropOldest_21 : decode cX0_dropOldest 21 = .ok (.isub, 1) := by decide +kernel
theorem dX0_dropOldest_22 : decode cX0_dropOldest 22 = .ok (.aload_n 0, 1) := by decide +kernel
theorem dX0_dropOldest_23 : decode cX0_dropOldest 23 = .ok (.getfield 11, 3) := by decide +kernel
theorem dX0_dropOldest_26 : decode cX0_dropOldest 26 = .ok (.iload_n 2, 1) := by decide +kernel
theorem dX0_dropOldest_27 : decode cX0_dropOldest 27 = .ok (.aaload, 1) := by decide +kernel
theorem dX0_dropOldest_28 : decode cX0_dropOldest 28 = .ok (.aastore, 1) := by decide +kernel
theorem dX0_dropOldest_29 : decode cX0_dropOldest 29 = .ok (.iinc 2 1, 3) := by decide +kernel
theorem dX0_dropOldest_32 : decode cX0_dropOldest 32 = .ok (.goto (-23), 3) := by decide +kernel
theorem dX0_dropOldest_35 : decode cX0_dropOldest 35 = .ok (.aload_n 0, 1) := by decide +kernel
theorem dX0_dropOldest_36 : decode cX0_dropOldest 36 = .ok (.getfield 11, 3) := by decide +kernel
theorem dX0_dropOldest_39 : decode cX0_dropOldest 39 = .ok (.iconst 5, 1) := by decide +kernel
theorem dX0_dropOldest_40 : decode cX0_dropOldest 40 = .ok (.aload_n 1, 1) := by decide +kernel
theorem dX0_dropOldest_41 : decode cX0_dropOldest 41 = .ok (.aastore, 1) := by decide +kernel
theorem dX0_dropOldest_42 : decode cX0_dropOldest 42 = .ok (.aload_n 0, 1) := by decide +kernel
theorem dX0_dropOldest_43 : decode cX0_dropOldest 43 = .ok (.iconst 5, 1) := by decide +kernel
theorem dX0_dropOldest_44 : decode cX0_dropOldest 44 = .ok (.putfield 18, 3) := by decide +kernel
theorem dX0_dropOldest_47 : decode cX0_dropOldest 47 = .ok (.return_, 1) := by decide +kernel
theorem dX1_init_0 : decode cX1_init 0 = .ok (.aload_n 0, 1) := by decide +kernel
theorem dX1_init_1 : decode cX1_init 1 = .ok (.invokespecial 3, 3) := by decide +kernel
theorem dX1_init_4 : decode cX1_init 4 = .ok (.aload_n 0, 1) := by decide +kernel
theorem dX1_init_5 : decode cX1_init 5 = .ok (.bipush 12, 2) := by decide +kernel
theorem dX1_init_7 : decode cX1_init 7 = .ok (.newarray .int, 2) := by decide +kernel
theorem dX1_init_9 : decode cX1_init 9 = .ok (.putfield 9, 3) := by decide +kernel
theorem dX1_init_12 : decode cX1_init 12 = .ok (.aload_n 0, 1) := by decide +kernel
theorem dX1_init_13 : decode cX1_init 13 = .ok (.iconst 3, 1) := by decide +kernel
theorem dX1_init_14 : decode cX1_init 14 = .ok (.newarray .int, 2) := by decide +kernel
theorem dX1_init_16 : decode cX1_init 16 = .ok (.putfield 15, 3) := by decide +kernel
theorem dX1_init_19 : decode cX1_init 19 = .ok (.aload_n 0, 1) := by decide +kernel
theorem dX1_init_20 : decode cX1_init 20 = .ok (.iconst 3, 1) := by decide +kernel
theorem dX1_init_21 : decode cX1_init 21 = .ok (.newarray .int, 2) := by decide +kernel
theorem dX1_init_23 : decode cX1_init 23 = .ok (.putfield 18, 3) := by decide +kernel
theorem dX1_init_26 : decode cX1_init 26 = .ok (.return_, 1) := by decide +kernel
theorem dX1_playMany_0 : decode cX1_playMany 0 = .ok (.aload_n 1, 1) := by decide +kernel
theorem dX1_playMany_1 : decode cX1_playMany 1 = .ok (.getfield 21, 3) := by decide +kernel
theorem dX1_playMany_4 : decode cX1_playMany 4 = .ok (.invokestatic 26, 3) := by decide +kernel
theorem dX1_playMany_7 : decode cX1_playMany 7 = .ok (.istore_n 3, 1) := by decide +kernel
theorem dX1_playMany_8 : decode cX1_playMany 8 = .ok (.iconst 0, 1) := by decide +kernel
theorem dX1_playMany_9 : decode cX1_playMany 9 = .ok (.istore 4, 2) := by decide +kernel
theorem dX1_playMany_11 : decode cX1_playMany 11 = .ok (.iload 4, 2) := by decide +kernel
theorem dX1_playMany_13 : decode cX1_playMany 13 = .ok (.iload_n 2, 1) := by decide +kernel
theorem dX1_playMany_14 : decode cX1_playMany 14 = .ok (.if_icmp .ge 14, 3) := by decide +kernel
theorem dX1_playMany_17 : decode cX1_playMany 17 = .ok (.aload_n 0, 1) := by decide +kernel
theorem dX1_playMany_18 : decode cX1_playMany 18 = .ok (.aload_n 1, 1) := by decide +kernel
theorem dX1_playMany_19 : decode cX1_playMany 19 = .ok (.invokevirtual 30, 3) := by decide +kernel
theorem dX1_playMany_22 : decode cX1_playMany 22 = .ok (.iinc 4 1, 3) := by decide +kernel
theorem dX1_playMany_25 : decode cX1_playMany 25 = .ok (.goto (-14), 3) := by decide +kernel
theorem dX1_playMany_28 : decode cX1_playMany 28 = .ok (.aload_n 1, 1) := by decide +kernel
theorem dX1_playMany_29 : decode cX1_playMany 29 = .ok (.getfield 21, 3) := by decide +kernel
theorem dX1_playMany_32 : decode cX1_playMany 32 = .ok (.invokestatic 26, 3) := by decide +kernel
theorem dX1_playMany_35 : decode cX1_playMany 35 = .ok (.iload_n 3, 1) := by decide +kernel
theorem dX1_playMany_36 : decode cX1_playMany 36 = .ok (.isub, 1) := by decide +kernel
theorem dX1_playMany_37 : decode cX1_playMany 37 = .ok (.ireturn, 1) := by decide +kernel
theorem dX1_play_0 : decode cX1_play 0 = .ok (.aload_n 0, 1) := by decide +kernel
theorem dX1_play_1 : decode cX1_play 1 = .ok (.aload_n 1, 1) := by decide +kernel
theorem dX1_play_2 : decode cX1_play 2 = .ok (.invokevirtual 34, 3) := by decide +kernel
theorem dX1_play_5 : decode cX1_play 5 = .ok (.iconst 0, 1) := by decide +kernel
theorem dX1_play_6 : decode cX1_play 6 = .ok (.istore_n 2, 1) := by decide +kernel
theorem dX1_play_7 : decode cX1_play 7 = .ok (.iload_n 2, 1) := by decide +kernel
theorem dX1_play_8 : decode cX1_play 8 = .ok (.iconst 3, 1) := by decide +kernel
theorem dX1_play_9 : decode cX1_play 9 = .ok (.if_icmp .ge 28, 3) := by decide +kernel
theorem dX1_play_12 : decode cX1_play 12 = .ok (.aload_n 0, 1) := by decide +kernel
theorem dX1_play_13 : decode cX1_play 13 = .ok (.getfield 18, 3) := by decide +kernel
theorem dX1_play_16 : decode cX1_play 16 = .ok (.iload_n 2, 1) := by decide +kernel
theorem dX1_play_17 : decode cX1_play 17 = .ok (.iaload, 1) := by decide +kernel
theorem dX1_play_18 : decode cX1_play 18 = .ok (.ifCond .le 13, 3) := by decide +kernel
theorem dX1_play_21 : decode cX1_play 21 = .ok (.aload_n 1, 1) := by decide +kernel
theorem dX1_play_22 : decode cX1_play 22 = .ok (.dup, 1) := by decide +kernel
theorem dX1_play_23 : decode cX1_play 23 = .ok (.getfield 37, 3) := by decide +kernel
theorem dX1_play_26 : decode cX1_play 26 = .ok (.iconst 1, 1) := by decide +kernel
theorem dX1_play_27 : decode cX1_play 27 = .ok (.iadd, 1) := by decide +kernel
theorem dX1_play_28 : decode cX1_play 28 = .ok (.putfield 37, 3) := by decide +kernel
theorem dX1_play_31 : decode cX1_play 31 = .ok (.iinc 2 1, 3) := by decide +kernel
theorem dX1_play_34 : decode cX1_play 34 = .ok (.goto (-27), 3) := by decide +kernel
theorem dX1_play_37 : decode cX1_play 37 = .ok (.aload_n 0, 1) := by decide +kernel
theorem dX1_play_38 : decode cX1_play 38 = .ok (.aload_n 1, 1) := by decide +kernel
theorem dX1_play_39 : decode cX1_play 39 = .ok (.invokevirtual 41, 3) := by decide +kernel
theorem dX1_play_42 : decode cX1_play 42 = .ok (.aload_n 0, 1) := by decide +kernel
theorem dX1_play_43 : decode cX1_play 43 = .ok (.aload_n 1, 1) := by decide +kernel
theorem dX1_play_44 : decode cX1_play 44 = .ok (.invokevirtual 44, 3) := by decide +kernel
theorem dX1_play_47 : decode cX1_play 47 = .ok (.iconst 0, 1) := by decide +kernel
theorem dX1_play_48 : decode cX1_play 48 = .ok (.istore_n 2, 1) := by decide +kernel
theorem dX1_play_49 : decode cX1_play 49 = .ok (.iload_n 2, 1) := by decide +kernel
theorem dX1_play_50 : decode cX1_play 50 = .ok (.bipush 12, 2) := by decide +kernel
theorem dX1_play_52 : decode cX1_play 52 = .ok (.if_icmp .ge 20, 3) := by decide +kernel
theorem dX1_play_55 : decode cX1_play 55 = .ok (.aload_n 1, 1) := by decide +kernel
theorem dX1_play_56 : decode cX1_play 56 = .ok (.iload_n 2, 1) := by decide +kernel
theorem dX1_play_57 : decode cX1_play 57 = .ok (.aload_n 1, 1) := by decide +kernel
theorem dX1_play_58 : decode cX1_play 58 = .ok (.getfield 47, 3) := by decide +kernel
theorem dX1_play_61 : decode cX1_play 61 = .ok (.iconst 3, 1) := by decide +kernel
theorem dX1_play_62 : decode cX1_play 62 = .ok (.iaload, 1) := by decide +kernel
theorem dX1_play_63 : decode cX1_play 63 = .ok (.invokevirtual 50, 3) := by decide +kernel
theorem dX1_play_66 : decode cX1_play 66 = .ok (.iinc 2 1, 3) := by decide +kernel
theorem dX1_play_69 : decode cX1_play 69 = .ok (.goto (-20), 3) := by decide +kernel
theorem dX1_play_72 : decode cX1_play 72 = .ok (.aload_n 0, 1) := by decide +kernel
theorem dX1_play_73 : decode cX1_play 73 = .ok (.aload_n 1, 1) := by decide +kernel
theorem dX1_play_74 : decode cX1_play 74 = .ok (.invokevirtual 54, 3) := by decide +kernel
theorem dX1_play_77 : decode cX1_play 77 = .ok (.aload_n 1, 1) := by decide +kernel
theorem dX1_play_78 : decode cX1_play 78 = .ok (.dup, 1) := by decide +kernel
theorem dX1_play_79 : decode cX1_play 79 = .ok (.getfield 57, 3) := by decide +kernel
theorem dX1_play_82 : decode cX1_play 82 = .ok (.iconst 1, 1) := by decide +kernel
theorem dX1_play_83 : decode cX1_play 83 = .ok (.iadd, 1) := by decide +kernel
theorem dX1_play_84 : decode cX1_play 84 = .ok (.putfield 57, 3) := by decide +kernel
theorem dX1_play_87 : decode cX1_play 87 = .ok (.return_, 1) := by decide +kernel
theorem dX1_shutAll_0 : decode cX1_shutAll 0 = .ok (.aload_n 0, 1) := by decide +kernel
theorem dX1_shutAll_1 : decode cX1_shutAll 1 = .ok (.getfield 9, 3) := by decide +kernel
theorem dX1_shutAll_4 : decode cX1_shutAll 4 = .ok (.iconst (-1), 1) := by decide +kernel
theorem dX1_shutAll_5 : decode cX1_shutAll 5 = .ok (.invokestatic 60, 3) := by decide +kernel
theorem dX1_shutAll_8 : decode cX1_shutAll 8 = .ok (.aload_n 0, 1) := by decide +kernel
theorem dX1_shutAll_9 : decode cX1_shutAll 9 = .ok (.getfield 15, 3) := by decide +kernel
theorem dX1_shutAll_12 : decode cX1_shutAll 12 = .ok (.iconst 0, 1) := by decide +kernel
theorem dX1_shutAll_13 : decode cX1_shutAll 13 = .ok (.invokestatic 60, 3) := by decide +kernel
theorem dX1_shutAll_16 : decode cX1_shutAll 16 = .ok (.return_, 1) := by decide +kernel
theorem dX1_openHydrants_0 : decode cX1_openHydrants 0 = .ok (.aload_n 0, 1) := by decide +kernel
theorem dX1_openHydrants_1 : decode cX1_openHydrants 1 = .ok (.invokevirtual 66, 3) := by decide +kernel
theorem dX1_openHydrants_4 : decode cX1_openHydrants 4 = .ok (.iconst 0, 1) := by decide +kernel
theorem dX1_openHydrants_5 : decode cX1_openHydrants 5 = .ok (.istore_n 2, 1) := by decide +kernel
theorem dX1_openHydrants_6 : decode cX1_openHydrants 6 = .ok (.iload_n 2, 1) := by decide +kernel
theorem dX1_openHydrants_7 : decode cX1_openHydrants 7 = .ok (.iconst 3, 1) := by decide +kernel
theorem dX1_openHydrants_8 : decode cX1_openHydrants 8 = .ok (.if_icmp .ge 85, 3) := by decide +kernel
theorem dX1_openHydrants_11 : decode cX1_openHydrants 11 = .ok (.aload_n 1, 1) := by decide +kernel
theorem dX1_openHydrants_12 : decode cX1_openHydrants 12 = .ok (.getfield 69, 3) := by decide +kernel
theorem dX1_openHydrants_15 : decode cX1_openHydrants 15 = .ok (.iload_n 2, 1) := by decide +kernel
theorem dX1_openHydrants_16 : decode cX1_openHydrants 16 = .ok (.aaload, 1) := by decide +kernel
theorem dX1_openHydrants_17 : decode cX1_openHydrants 17 = .ok (.iconst 0, 1) := by decide +kernel
theorem dX1_openHydrants_18 : decode cX1_openHydrants 18 = .ok (.invokevirtual 73, 3) := by decide +kernel
theorem dX1_openHydrants_21 : decode cX1_openHydrants 21 = .ok (.istore_n 3, 1) := by decide +kernel
theorem dX1_openHydrants_22 : decode cX1_openHydrants 22 = .ok (.iload_n 3, 1) := by decide +kernel
theorem dX1_openHydrants_23 : decode cX1_openHydrants 23 = .ok (.ifCond .lt 9, 3) := by decide +kernel
theorem dX1_openHydrants_26 : decode cX1_openHydrants 26 = .ok (.iload_n 3, 1) := by decide +kernel
theorem dX1_openHydrants_27 : decode cX1_openHydrants 27 = .ok (.bipush 12, 2) := by decide +kernel
theorem dX1_openHydrants_29 : decode cX1_openHydrants 29 = .ok (.if_icmp .lt 13, 3) := by decide +kernel
theorem dX1_openHydrants_32 : decode cX1_openHydrants 32 = .ok (.aload_n 0, 1) := by decide +kernel
theorem dX1_openHydrants_33 : decode cX1_openHydrants 33 = .ok (.getfield 18, 3) := by decide +kernel
theorem dX1_openHydrants_36 : decode cX1_openHydrants 36 = .ok (.iload_n 2, 1) := by decide +kernel
theorem dX1_openHydrants_37 : decode cX1_openHydrants 37 = .ok (.iconst (-1), 1) := by decide +kernel
theorem dX1_openHydrants_38 : decode cX1_openHydrants 38 = .ok (.iastore, 1) := by decide +kernel
theorem dX1_openHydrants_39 : decode cX1_openHydrants 39 = .ok (.goto 48, 3) := by decide +kernel
theorem dX1_openHydrants_42 : decode cX1_openHydrants 42 = .ok (.aload_n 0, 1) := by decide +kernel
theorem dX1_openHydrants_43 : decode cX1_openHydrants 43 = .ok (.getfield 18, 3) := by decide +kernel
theorem dX1_openHydrants_46 : decode cX1_openHydrants 46 = .ok (.iload_n 2, 1) := by decide +kernel
theorem dX1_openHydrants_47 : decode cX1_openHydrants 47 = .ok (.aload_n 0, 1) := by decide +kernel
theorem dX1_openHydrants_48 : decode cX1_openHydrants 48 = .ok (.aload_n 1, 1) := by decide +kernel
theorem dX1_openHydrants_49 : decode cX1_openHydrants 49 = .ok (.iload_n 3, 1) := by decide +kernel
theorem dX1_openHydrants_50 : decode cX1_openHydrants 50 = .ok (.invokevirtual 79, 3) := by decide +kernel
theorem dX1_openHydrants_53 : decode cX1_openHydrants 53 = .ok (.iastore, 1) := by decide +kernel
theorem dX1_openHydrants_54 : decode cX1_openHydrants 54 = .ok (.aload_n 0, 1) := by decide +kernel
theorem dX1_openHydrants_55 : decode cX1_openHydrants 55 = .ok (.getfield 18, 3) := by decide +kernel
theorem dX1_openHydrants_58 : decode cX1_openHydrants 58 = .ok (.iload_n 2, 1) := by decide +kernel
theorem dX1_openHydrants_59 : decode cX1_openHydrants 59 = .ok (.iaload, 1) := by decide +kernel
theorem dX1_openHydrants_60 : decode cX1_openHydrants 60 = .ok (.ifCond .ne 27, 3) := by decide +kernel
theorem dX1_openHydrants_63 : decode cX1_openHydrants 63 = .ok (.aload_n 0, 1) := by decide +kernel
theorem dX1_openHydrants_64 : decode cX1_openHydrants 64 = .ok (.getfield 9, 3) := by decide +kernel
theorem dX1_openHydrants_67 : decode cX1_openHydrants 67 = .ok (.iload_n 3, 1) := by decide +kernel
theorem dX1_openHydrants_68 : decode cX1_openHydrants 68 = .ok (.iload_n 2, 1) := by decide +kernel
theorem dX1_openHydrants_69 : decode cX1_openHydrants 69 = .ok (.iastore, 1) := by decide +kernel
theorem dX1_openHydrants_70 : decode cX1_openHydrants 70 = .ok (.aload_n 0, 1) := by decide +kernel
theorem dX1_openHydrants_71 : decode cX1_openHydrants 71 = .ok (.getfield 15, 3) := by decide +kernel
theorem dX1_openHydrants_74 : decode cX1_openHydrants 74 = .ok (.iload_n 3, 1) := by decide +kernel
theorem dX1_openHydrants_75 : decode cX1_openHydrants 75 = .ok (.iconst 4, 1) := by decide +kernel
theorem dX1_openHydrants_76 : decode cX1_openHydrants 76 = .ok (.idiv, 1) := by decide +kernel
theorem dX1_openHydrants_77 : decode cX1_openHydrants 77 = .ok (.dup2, 1) := by decide +kernel
theorem dX1_openHydrants_78 : decode cX1_openHydrants 78 = .ok (.iaload, 1) := by decide +kernel
theorem dX1_openHydrants_79 : decode cX1_openHydrants 79 = .ok (.aload_n 1, 1) := by decide +kernel
theorem dX1_openHydrants_80 : decode cX1_openHydrants 80 = .ok (.getfield 83, 3) := by decide +kernel
theorem dX1_openHydrants_83 : decode cX1_openHydrants 83 = .ok (.iload_n 3, 1) := by decide +kernel
theorem dX1_openHydrants_84 : decode cX1_openHydrants 84 = .ok (.iaload, 1) := by decide +kernel
theorem dX1_openHydrants_85 : decode cX1_openHydrants 85 = .ok (.iadd, 1) := by decide +kernel
theorem dX1_openHydrants_86 : decode cX1_openHydrants 86 = .ok (.iastore, 1) := by decide +kernel
theorem dX1_openHydrants_87 : decode cX1_openHydrants 87 = .ok (.iinc 2 1, 3) := by decide +kernel
theorem dX1_openHydrants_90 : decode cX1_openHydrants 90 = .ok (.goto (-84), 3) := by decide +kernel
theorem dX1_openHydrants_93 : decode cX1_openHydrants 93 = .ok (.return_, 1) := by decide +kernel
theorem dX1_reasonToWait_0 : decode cX1_reasonToWait 0 = .ok (.aload_n 0, 1) := by decide +kernel
theorem dX1_reasonToWait_1 : decode cX1_reasonToWait 1 = .ok (.getfield 9, 3) := by decide +kernel
theorem dX1_reasonToWait_4 : decode cX1_reasonToWait 4 = .ok (.iload_n 2, 1) := by decide +kernel
theorem dX1_reasonToWait_5 : decode cX1_reasonToWait 5 = .ok (.iaload, 1) := by decide +kernel
theorem dX1_reasonToWait_6 : decode cX1_reasonToWait 6 = .ok (.iconst (-1), 1) := by decide +kernel
theorem dX1_reasonToWait_7 : decode cX1_reasonToWait 7 = .ok (.if_icmp .eq 5, 3) := by decide +kernel
theorem dX1_reasonToWait_10 : decode cX1_reasonToWait 10 = .ok (.iconst 1, 1) := by decide +kernel
theorem dX1_reasonToWait_11 : decode cX1_reasonToWait 11 = .ok (.ireturn, 1) := by decide +kernel
theorem dX1_reasonToWait_12 : decode cX1_reasonToWait 12 = .ok (.iload_n 2, 1) := by decide +kernel
theorem dX1_reasonToWait_13 : decode cX1_reasonToWait 13 = .ok (.iconst 4, 1) := by decide +kernel
theorem dX1_reasonToWait_14 : decode cX1_reasonToWait 14 = .ok (.idiv, 1) := by decide +kernel
theorem dX1_reasonToWait_15 : decode cX1_reasonToWait 15 = .ok (.istore_n 3, 1) := by decide +kernel
theorem dX1_reasonToWait_16 : decode cX1_reasonToWait 16 = .ok (.aload_n 0, 1) := by decide +kernel
theorem dX1_reasonToWait_17 : decode cX1_reasonToWait 17 = .ok (.getfield 15, 3) := by decide +kernel
theorem dX1_reasonToWait_20 : decode cX1_reasonToWait 20 = .ok (.iload_n 3, 1) := by decide +kernel
theorem dX1_reasonToWait_21 : decode cX1_reasonToWait 21 = .ok (.dup2, 1) := by decide +kernel
theorem dX1_reasonToWait_22 : decode cX1_reasonToWait 22 = .ok (.iaload, 1) := by decide +kernel
theorem dX1_reasonToWait_23 : decode cX1_reasonToWait 23 = .ok (.aload_n 1, 1) := by decide +kernel
theorem dX1_reasonToWait_24 : decode cX1_reasonToWait 24 = .ok (.getfield 83, 3) := by decide +kernel
theorem dX1_reasonToWait_27 : decode cX1_reasonToWait 27 = .ok (.iload_n 2, 1) := by decide +kernel
theorem dX1_reasonToWait_28 : decode cX1_reasonToWait 28 = .ok (.iaload, 1) := by decide +kernel
theorem dX1_reasonToWait_29 : decode cX1_reasonToWait 29 = .ok (.iadd, 1) := by decide +kernel
theorem dX1_reasonToWait_30 : decode cX1_reasonToWait 30 = .ok (.iastore, 1) := by decide +kernel
theorem dX1_reasonToWait_31 : decode cX1_reasonToWait 31 = .ok (.aload_n 1, 1) := by decide +kernel
theorem dX1_reasonToWait_32 : decode cX1_reasonToWait 32 = .ok (.iload_n 2, 1) := by decide +kernel
theorem dX1_reasonToWait_33 : decode cX1_reasonToWait 33 = .ok (.aload_n 0, 1) := by decide +kernel
theorem dX1_reasonToWait_34 : decode cX1_reasonToWait 34 = .ok (.getfield 15, 3) := by decide +kernel
theorem dX1_reasonToWait_37 : decode cX1_reasonToWait 37 = .ok (.invokevirtual 86, 3) := by decide +kernel
theorem dX1_reasonToWait_40 : decode cX1_reasonToWait 40 = .ok (.istore 4, 2) := by decide +kernel
theorem dX1_reasonToWait_42 : decode cX1_reasonToWait 42 = .ok (.aload_n 0, 1) := by decide +kernel
theorem dX1_reasonToWait_43 : decode cX1_reasonToWait 43 = .ok (.getfield 15, 3) := by decide +kernel
theorem dX1_reasonToWait_46 : decode cX1_reasonToWait 46 = .ok (.iload_n 3, 1) := by decide +kernel
theorem dX1_reasonToWait_47 : decode cX1_reasonToWait 47 = .ok (.dup2, 1) := by decide +kernel
theorem dX1_reasonToWait_48 : decode cX1_reasonToWait 48 = .ok (.iaload, 1) := by decide +kernel
theorem dX1_reasonToWait_49 : decode cX1_reasonToWait 49 = .ok (.aload_n 1, 1) := by decide +kernel
theorem dX1_reasonToWait_50 : decode cX1_reasonToWait 50 = .ok (.getfield 83, 3) := by decide +kernel
theorem dX1_reasonToWait_53 : decode cX1_reasonToWait 53 = .ok (.iload_n 2, 1) := by decide +kernel
theorem dX1_reasonToWait_54 : decode cX1_reasonToWait 54 = .ok (.iaload, 1) := by decide +kernel
theorem dX1_reasonToWait_55 : decode cX1_reasonToWait 55 = .ok (.isub, 1) := by decide +kernel
theorem dX1_reasonToWait_56 : decode cX1_reasonToWait 56 = .ok (.iastore, 1) := by decide +kernel
theorem dX1_reasonToWait_57 : decode cX1_reasonToWait 57 = .ok (.iload 4, 2) := by decide +kernel
theorem dX1_reasonToWait_59 : decode cX1_reasonToWait 59 = .ok (.aload_n 1, 1) := by decide +kernel
theorem dX1_reasonToWait_60 : decode cX1_reasonToWait 60 = .ok (.getfield 47, 3) := by decide +kernel
theorem dX1_reasonToWait_63 : decode cX1_reasonToWait 63 = .ok (.iconst 1, 1) := by decide +kernel
theorem dX1_reasonToWait_64 : decode cX1_reasonToWait 64 = .ok (.iaload, 1) := by decide +kernel
theorem dX1_reasonToWait_65 : decode cX1_reasonToWait 65 = .ok (.if_icmp .ge 5, 3) := by decide +kernel
theorem dX1_reasonToWait_68 : decode cX1_reasonToWait 68 = .ok (.iconst 2, 1) := by decide +kernel
theorem dX1_reasonToWait_69 : decode cX1_reasonToWait 69 = .ok (.ireturn, 1) := by decide +kernel
theorem dX1_reasonToWait_70 : decode cX1_reasonToWait 70 = .ok (.aload_n 1, 1) := by decide +kernel
theorem dX1_reasonToWait_71 : decode cX1_reasonToWait 71 = .ok (.iload_n 2, 1) := by decide +kernel
theorem dX1_reasonToWait_72 : decode cX1_reasonToWait 72 = .ok (.invokevirtual 90, 3) := by decide +kernel
theorem dX1_reasonToWait_75 : decode cX1_reasonToWait 75 = .ok (.istore 5, 2) := by decide +kernel
theorem dX1_reasonToWait_77 : decode cX1_reasonToWait 77 = .ok (.iload 5, 2) := by decide +kernel
theorem dX1_reasonToWait_79 : decode cX1_reasonToWait 79 = .ok (.ifCond .lt 16, 3) := by decide +kernel
theorem dX1_reasonToWait_82 : decode cX1_reasonToWait 82 = .ok (.aload_n 1, 1) := by decide +kernel
theorem dX1_reasonToWait_83 : decode cX1_reasonToWait 83 = .ok (.iload 5, 2) := by decide +kernel
theorem dX1_reasonToWait_85 : decode cX1_reasonToWait 85 = .ok (.invokevirtual 93, 3) := by decide +kernel
theorem dX1_reasonToWait_88 : decode cX1_reasonToWait 88 = .ok (.ifCond .eq 7, 3) := by decide +kernel
theorem dX1_reasonToWait_91 : decode cX1_reasonToWait 91 = .ok (.iconst 3, 1) := by decide +kernel
theorem dX1_reasonToWait_92 : decode cX1_reasonToWait 92 = .ok (.goto 4, 3) := by decide +kernel
theorem dX1_reasonToWait_95 : decode cX1_reasonToWait 95 = .ok (.iconst 0, 1) := by decide +kernel
theorem dX1_reasonToWait_96 : decode cX1_reasonToWait 96 = .ok (.ireturn, 1) := by decide +kernel
theorem dX1_flushOut_0 : decode cX1_flushOut 0 = .ok (.iconst 0, 1) := by decide +kernel
theorem dX1_flushOut_1 : decode cX1_flushOut 1 = .ok (.istore_n 2, 1) := by decide +kernel
theorem dX1_flushOut_2 : decode cX1_flushOut 2 = .ok (.iload_n 2, 1) := by decide +kernel
theorem dX1_flushOut_3 : decode cX1_flushOut 3 = .ok (.bipush 12, 2) := by decide +kernel
theorem dX1_flushOut_5 : decode cX1_flushOut 5 = .ok (.if_icmp .ge 109, 3) := by decide +kernel
theorem dX1_flushOut_8 : decode cX1_flushOut 8 = .ok (.aload_n 0, 1) := by decide +kernel
theorem dX1_flushOut_9 : decode cX1_flushOut 9 = .ok (.getfield 9, 3) := by decide +kernel
theorem dX1_flushOut_12 : decode cX1_flushOut 12 = .ok (.iload_n 2, 1) := by decide +kernel
theorem dX1_flushOut_13 : decode cX1_flushOut 13 = .ok (.iaload, 1) := by decide +kernel
theorem dX1_flushOut_14 : decode cX1_flushOut 14 = .ok (.istore_n 3, 1) := by decide +kernel
theorem dX1_flushOut_15 : decode cX1_flushOut 15 = .ok (.iload_n 3, 1) := by decide +kernel
theorem dX1_flushOut_16 : decode cX1_flushOut 16 = .ok (.ifCond .lt 92, 3) := by decide +kernel
theorem dX1_flushOut_19 : decode cX1_flushOut 19 = .ok (.iload_n 3, 1) := by decide +kernel
theorem dX1_flushOut_20 : decode cX1_flushOut 20 = .ok (.iconst 3, 1) := by decide +kernel
theorem dX1_flushOut_21 : decode cX1_flushOut 21 = .ok (.if_icmp .lt 6, 3) := by decide +kernel
theorem dX1_flushOut_24 : decode cX1_flushOut 24 = .ok (.goto 84, 3) := by decide +kernel
theorem dX1_flushOut_27 : decode cX1_flushOut 27 = .ok (.aload_n 1, 1) := by decide +kernel
theorem dX1_flushOut_28 : decode cX1_flushOut 28 = .ok (.iload_n 2, 1) := by decide +kernel
theorem dX1_flushOut_29 : decode cX1_flushOut 29 = .ok (.aload_n 0, 1) := by decide +kernel
theorem dX1_flushOut_30 : decode cX1_flushOut 30 = .ok (.getfield 15, 3) := by decide +kernel
theorem dX1_flushOut_33 : decode cX1_flushOut 33 = .ok (.invokevirtual 86, 3) := by decide +kernel
theorem dX1_flushOut_36 : decode cX1_flushOut 36 = .ok (.aload_n 1, 1) := by decide +kernel
theorem dX1_flushOut_37 : decode cX1_flushOut 37 = .ok (.getfield 47, 3) := by decide +kernel
theorem dX1_flushOut_40 : decode cX1_flushOut 40 = .ok (.iconst 2, 1) := by decide +kernel
theorem dX1_flushOut_41 : decode cX1_flushOut 41 = .ok (.iaload, 1) := by decide +kernel
theorem dX1_flushOut_42 : decode cX1_flushOut 42 = .ok (.imul, 1) := by decide +kernel
theorem dX1_flushOut_43 : decode cX1_flushOut 43 = .ok (.istore 4, 2) := by decide +kernel
theorem dX1_flushOut_45 : decode cX1_flushOut 45 = .ok (.iload 4, 2) := by decide +kernel
theorem dX1_flushOut_47 : decode cX1_flushOut 47 = .ok (.aload_n 1, 1) := by decide +kernel
theorem dX1_flushOut_48 : decode cX1_flushOut 48 = .ok (.getfield 97, 3) := by decide +kernel
theorem dX1_flushOut_51 : decode cX1_flushOut 51 = .ok (.iload_n 2, 1) := by decide +kernel
theorem dX1_flushOut_52 : decode cX1_flushOut 52 = .ok (.iaload, 1) := by decide +kernel
theorem dX1_flushOut_53 : decode cX1_flushOut 53 = .ok (.invokestatic 100, 3) := by decide +kernel
theorem dX1_flushOut_56 : decode cX1_flushOut 56 = .ok (.istore 5, 2) := by decide +kernel
theorem dX1_flushOut_58 : decode cX1_flushOut 58 = .ok (.aload_n 1, 1) := by decide +kernel
theorem dX1_flushOut_59 : decode cX1_flushOut 59 = .ok (.getfield 97, 3) := by decide +kernel
theorem dX1_flushOut_62 : decode cX1_flushOut 62 = .ok (.iload_n 2, 1) := by decide +kernel
theorem dX1_flushOut_63 : decode cX1_flushOut 63 = .ok (.dup2, 1) := by decide +kernel
theorem dX1_flushOut_64 : decode cX1_flushOut 64 = .ok (.iaload, 1) := by decide +kernel
theorem dX1_flushOut_65 : decode cX1_flushOut 65 = .ok (.iload 5, 2) := by decide +kernel
theorem dX1_flushOut_67 : decode cX1_flushOut 67 = .ok (.isub, 1) := by decide +kernel
theorem dX1_flushOut_68 : decode cX1_flushOut 68 = .ok (.iastore, 1) := by decide +kernel
theorem dX1_flushOut_69 : decode cX1_flushOut 69 = .ok (.aload_n 1, 1) := by decide +kernel
theorem dX1_flushOut_70 : decode cX1_flushOut 70 = .ok (.getfield 106, 3) := by decide +kernel
theorem dX1_flushOut_73 : decode cX1_flushOut 73 = .ok (.iload_n 2, 1) := by decide +kernel
theorem dX1_flushOut_74 : decode cX1_flushOut 74 = .ok (.dup2, 1) := by decide +kernel
theorem dX1_flushOut_75 : decode cX1_flushOut 75 = .ok (.iaload, 1) := by decide +kernel
theorem dX1_flushOut_76 : decode cX1_flushOut 76 = .ok (.iload 5, 2) := by decide +kernel
theorem dX1_flushOut_78 : decode cX1_flushOut 78 = .ok (.iadd, 1) := by decide +kernel
theorem dX1_flushOut_79 : decode cX1_flushOut 79 = .ok (.iastore, 1) := by decide +kernel
theorem dX1_flushOut_80 : decode cX1_flushOut 80 = .ok (.aload_n 1, 1) := by decide +kernel
theorem dX1_flushOut_81 : decode cX1_flushOut 81 = .ok (.getfield 109, 3) := by decide +kernel
theorem dX1_flushOut_84 : decode cX1_flushOut 84 = .ok (.iload_n 2, 1) := by decide +kernel
theorem dX1_flushOut_85 : decode cX1_flushOut 85 = .ok (.dup2, 1) := by decide +kernel
theorem dX1_flushOut_86 : decode cX1_flushOut 86 = .ok (.iaload, 1) := by decide +kernel
theorem dX1_flushOut_87 : decode cX1_flushOut 87 = .ok (.iconst 1, 1) := by decide +kernel
theorem dX1_flushOut_88 : decode cX1_flushOut 88 = .ok (.iadd, 1) := by decide +kernel
theorem dX1_flushOut_89 : decode cX1_flushOut 89 = .ok (.iastore, 1) := by decide +kernel
theorem dX1_flushOut_90 : decode cX1_flushOut 90 = .ok (.aload_n 1, 1) := by decide +kernel
theorem dX1_flushOut_91 : decode cX1_flushOut 91 = .ok (.getfield 97, 3) := by decide +kernel
theorem dX1_flushOut_94 : decode cX1_flushOut 94 = .ok (.iload_n 2, 1) := by decide +kernel
theorem dX1_flushOut_95 : decode cX1_flushOut 95 = .ok (.iaload, 1) := by decide +kernel
theorem dX1_flushOut_96 : decode cX1_flushOut 96 = .ok (.ifCond .ne 12, 3) := by decide +kernel
theorem dX1_flushOut_99 : decode cX1_flushOut 99 = .ok (.aload_n 1, 1) := by decide +kernel
theorem dX1_flushOut_100 : decode cX1_flushOut 100 = .ok (.getfield 69, 3) := by decide +kernel
theorem dX1_flushOut_103 : decode cX1_flushOut 103 = .ok (.iload_n 3, 1) := by decide +kernel
theorem dX1_flushOut_104 : decode cX1_flushOut 104 = .ok (.aaload, 1) := by decide +kernel
theorem dX1_flushOut_105 : decode cX1_flushOut 105 = .ok (.invokevirtual 112, 3) := by decide +kernel
theorem dX1_flushOut_108 : decode cX1_flushOut 108 = .ok (.iinc 2 1, 3) := by decide +kernel
theorem dX1_flushOut_111 : decode cX1_flushOut 111 = .ok (.goto (-109), 3) := by decide +kernel
theorem dX1_flushOut_114 : decode cX1_flushOut 114 = .ok (.return_, 1) := by decide +kernel
theorem dX1_carryOn_0 : decode cX1_carryOn 0 = .ok (.bipush 11, 2) := by decide +kernel
theorem dX1_carryOn_2 : decode cX1_carryOn 2 = .ok (.istore_n 2, 1) := by decide +kernel
theorem dX1_carryOn_3 : decode cX1_carryOn 3 = .ok (.iload_n 2, 1) := by decide +kernel
theorem dX1_carryOn_4 : decode cX1_carryOn 4 = .ok (.ifCond .lt 58, 3) := by decide +kernel
theorem dX1_carryOn_7 : decode cX1_carryOn 7 = .ok (.aload_n 1, 1) := by decide +kernel
theorem dX1_carryOn_8 : decode cX1_carryOn 8 = .ok (.iload_n 2, 1) := by decide +kernel
theorem dX1_carryOn_9 : decode cX1_carryOn 9 = .ok (.invokevirtual 115, 3) := by decide +kernel
theorem dX1_carryOn_12 : decode cX1_carryOn 12 = .ok (.istore_n 3, 1) := by decide +kernel
theorem dX1_carryOn_13 : decode cX1_carryOn 13 = .ok (.iload_n 3, 1) := by decide +kernel
theorem dX1_carryOn_14 : decode cX1_carryOn 14 = .ok (.ifCond .lt 42, 3) := by decide +kernel
theorem dX1_carryOn_17 : decode cX1_carryOn 17 = .ok (.aload_n 0, 1) := by decide +kernel
theorem dX1_carryOn_18 : decode cX1_carryOn 18 = .ok (.getfield 9, 3) := by decide +kernel
theorem dX1_carryOn_21 : decode cX1_carryOn 21 = .ok (.iload_n 2, 1) := by decide +kernel
theorem dX1_carryOn_22 : decode cX1_carryOn 22 = .ok (.iaload, 1) := by decide +kernel
theorem dX1_carryOn_23 : decode cX1_carryOn 23 = .ok (.iconst (-1), 1) := by decide +kernel
theorem dX1_carryOn_24 : decode cX1_carryOn 24 = .ok (.if_icmp .ne 32, 3) := by decide +kernel
theorem dX1_carryOn_27 : decode cX1_carryOn 27 = .ok (.aload_n 1, 1) := by decide +kernel
theorem dX1_carryOn_28 : decode cX1_carryOn 28 = .ok (.getfield 97, 3) := by decide +kernel
theorem dX1_carryOn_31 : decode cX1_carryOn 31 = .ok (.iload_n 2, 1) := by decide +kernel
theorem dX1_carryOn_32 : decode cX1_carryOn 32 = .ok (.iaload, 1) := by decide +kernel
theorem dX1_carryOn_33 : decode cX1_carryOn 33 = .ok (.bipush 10, 2) := by decide +kernel
theorem dX1_carryOn_35 : decode cX1_carryOn 35 = .ok (.idiv, 1) := by decide +kernel
theorem dX1_carryOn_36 : decode cX1_carryOn 36 = .ok (.istore 4, 2) := by decide +kernel
theorem dX1_carryOn_38 : decode cX1_carryOn 38 = .ok (.aload_n 1, 1) := by decide +kernel
theorem dX1_carryOn_39 : decode cX1_carryOn 39 = .ok (.getfield 97, 3) := by decide +kernel
theorem dX1_carryOn_42 : decode cX1_carryOn 42 = .ok (.iload_n 2, 1) := by decide +kernel
theorem dX1_carryOn_43 : decode cX1_carryOn 43 = .ok (.dup2, 1) := by decide +kernel
theorem dX1_carryOn_44 : decode cX1_carryOn 44 = .ok (.iaload, 1) := by decide +kernel
theorem dX1_carryOn_45 : decode cX1_carryOn 45 = .ok (.iload 4, 2) := by decide +kernel
theorem dX1_carryOn_47 : decode cX1_carryOn 47 = .ok (.isub, 1) := by decide +kernel
theorem dX1_carryOn_48 : decode cX1_carryOn 48 = .ok (.iastore, 1) := by decide +kernel
theorem dX1_carryOn_49 : decode cX1_carryOn 49 = .ok (.aload_n 1, 1) := by decide +kernel
theorem dX1_carryOn_50 : decode cX1_carryOn 50 = .ok (.iload_n 3, 1) := by decide +kernel
theorem dX1_carryOn_51 : decode cX1_carryOn 51 = .ok (.iload 4, 2) := by decide +kernel
theorem dX1_carryOn_53 : decode cX1_carryOn 53 = .ok (.invokevirtual 50, 3) := by decide +kernel
theorem dX1_carryOn_56 : decode cX1_carryOn 56 = .ok (.iinc 2 (-1), 3) := by decide +kernel
theorem dX1_carryOn_59 : decode cX1_carryOn 59 = .ok (.goto (-56), 3) := by decide +kernel
theorem dX1_carryOn_62 : decode cX1_carryOn 62 = .ok (.return_, 1) := by decide +kernel
theorem dX1_complain_0 : decode cX1_complain 0 = .ok (.iconst 0, 1) := by decide +kernel
theorem dX1_complain_1 : decode cX1_complain 1 = .ok (.istore_n 2, 1) := by decide +kernel
theorem dX1_complain_2 : decode cX1_complain 2 = .ok (.iload_n 2, 1) := by decide +kernel
theorem dX1_complain_3 : decode cX1_complain 3 = .ok (.bipush 12, 2) := by decide +kernel
theorem dX1_complain_5 : decode cX1_complain 5 = .ok (.if_icmp .ge 49, 3) := by decide +kernel
theorem dX1_complain_8 : decode cX1_complain 8 = .ok (.aload_n 1, 1) := by decide +kernel
theorem dX1_complain_9 : decode cX1_complain 9 = .ok (.iload_n 2, 1) := by decide +kernel
theorem dX1_complain_10 : decode cX1_complain 10 = .ok (.invokevirtual 93, 3) := by decide +kernel
theorem dX1_complain_13 : decode cX1_complain 13 = .ok (.istore_n 3, 1) := by decide +kernel
theorem dX1_complain_14 : decode cX1_complain 14 = .ok (.iload_n 3, 1) := by decide +kernel
theorem dX1_complain_15 : decode cX1_complain 15 = .ok (.ifCond .eq 26, 3) := by decide +kernel
theorem dX1_complain_18 : decode cX1_complain 18 = .ok (.aload_n 1, 1) := by decide +kernel
theorem dX1_complain_19 : decode cX1_complain 19 = .ok (.getfield 21, 3) := by decide +kernel
theorem dX1_complain_22 : decode cX1_complain 22 = .ok (.iload_n 2, 1) := by decide +kernel
theorem dX1_complain_23 : decode cX1_complain 23 = .ok (.dup2, 1) := by decide +kernel
theorem dX1_complain_24 : decode cX1_complain 24 = .ok (.iaload, 1) := by decide +kernel
theorem dX1_complain_25 : decode cX1_complain 25 = .ok (.aload_n 1, 1) := by decide +kernel
theorem dX1_complain_26 : decode cX1_complain 26 = .ok (.getfield 118, 3) := by decide +kernel
theorem dX1_complain_29 : decode cX1_complain 29 = .ok (.iload_n 2, 1) := by decide +kernel
theorem dX1_complain_30 : decode cX1_complain 30 = .ok (.baload, 1) := by decide +kernel
theorem dX1_complain_31 : decode cX1_complain 31 = .ok (.ifCond .eq 7, 3) := by decide +kernel
theorem dX1_complain_34 : decode cX1_complain 34 = .ok (.iconst 2, 1) := by decide +kernel
theorem dX1_complain_35 : decode cX1_complain 35 = .ok (.goto 4, 3) := by decide +kernel
theorem dX1_complain_38 : decode cX1_complain 38 = .ok (.iconst 1, 1) := by decide +kernel
theorem dX1_complain_39 : decode cX1_complain 39 = .ok (.iadd, 1) := by decide +kernel
theorem dX1_complain_40 : decode cX1_complain 40 = .ok (.iastore, 1) := by decide +kernel
theorem dX1_complain_41 : decode cX1_complain 41 = .ok (.aload_n 1, 1) := by decide +kernel
theorem dX1_complain_42 : decode cX1_complain 42 = .ok (.getfield 118, 3) := by decide +kernel
theorem dX1_complain_45 : decode cX1_complain 45 = .ok (.iload_n 2, 1) := by decide +kernel
theorem dX1_complain_46 : decode cX1_complain 46 = .ok (.iload_n 3, 1) := by decide +kernel
theorem dX1_complain_47 : decode cX1_complain 47 = .ok (.bastore, 1) := by decide +kernel
theorem dX1_complain_48 : decode cX1_complain 48 = .ok (.iinc 2 1, 3) := by decide +kernel
theorem dX1_complain_51 : decode cX1_complain 51 = .ok (.goto (-49), 3) := by decide +kernel
theorem dX1_complain_54 : decode cX1_complain 54 = .ok (.return_, 1) := by decide +kernel
theorem dX2_init_0 : decode cX2_init 0 = .ok (.aload_n 0, 1) := by decide +kernel
theorem dX2_init_1 : decode cX2_init 1 = .ok (.invokespecial 3, 3) := by decide +kernel
theorem dX2_init_4 : decode cX2_init 4 = .ok (.aload_n 0, 1) := by decide +kernel
theorem dX2_init_5 : decode cX2_init 5 = .ok (.bipush 60, 2) := by decide +kernel
theorem dX2_init_7 : decode cX2_init 7 = .ok (.newarray .int, 2) := by decide +kernel
theorem dX2_init_9 : decode cX2_init 9 = .ok (.putfield 9, 3) := by decide +kernel
theorem dX2_init_12 : decode cX2_init 12 = .ok (.aload_n 0, 1) := by decide +kernel
theorem dX2_init_13 : decode cX2_init 13 = .ok (.iconst 0, 1) := by decide +kernel
theorem dX2_init_14 : decode cX2_init 14 = .ok (.putfield 15, 3) := by decide +kernel
theorem dX2_init_17 : decode cX2_init 17 = .ok (.aload_n 0, 1) := by decide +kernel
theorem dX2_init_18 : decode cX2_init 18 = .ok (.iconst 0, 1) := by decide +kernel
theorem dX2_init_19 : decode cX2_init 19 = .ok (.putfield 19, 3) := by decide +kernel
theorem dX2_init_22 : decode cX2_init 22 = .ok (.aload_n 0, 1) := by decide +kernel
theorem dX2_init_23 : decode cX2_init 23 = .ok (.iconst 0, 1) := by decide +kernel
theorem dX2_init_24 : decode cX2_init 24 = .ok (.putfield 22, 3) := by decide +kernel
theorem dX2_init_27 : decode cX2_init 27 = .ok (.return_, 1) := by decide +kernel
theorem dX3_init_0 : decode cX3_init 0 = .ok (.aload_n 0, 1) := by decide +kernel
theorem dX3_init_1 : decode cX3_init 1 = .ok (.invokespecial 3, 3) := by decide +kernel
theorem dX3_init_4 : decode cX3_init 4 = .ok (.aload_n 0, 1) := by decide +kernel
theorem dX3_init_5 : decode cX3_init 5 = .ok (.iconst 3, 1) := by decide +kernel
theorem dX3_init_6 : decode cX3_init 6 = .ok (.newarray .int, 2) := by decide +kernel
theorem dX3_init_8 : decode cX3_init 8 = .ok (.putfield 9, 3) := by decide +kernel
theorem dX3_init_11 : decode cX3_init 11 = .ok (.aload_n 0, 1) := by decide +kernel
theorem dX3_init_12 : decode cX3_init 12 = .ok (.getfield 9, 3) := by decide +kernel
theorem dX3_init_15 : decode cX3_init 15 = .ok (.bipush 40, 2) := by decide +kernel
theorem dX3_init_17 : decode cX3_init 17 = .ok (.invokestatic 15, 3) := by decide +kernel
theorem dX3_init_20 : decode cX3_init 20 = .ok (.aload_n 0, 1) := by decide +kernel
theorem dX3_init_21 : decode cX3_init 21 = .ok (.iconst 2, 1) := by decide +kernel
theorem dX3_init_22 : decode cX3_init 22 = .ok (.newarray .boolean, 2) := by decide +kernel
theorem dX3_init_24 : decode cX3_init 24 = .ok (.putfield 21, 3) := by decide +kernel
theorem dX3_init_27 : decode cX3_init 27 = .ok (.aload_n 0, 1) := by decide +kernel
theorem dX3_init_28 : decode cX3_init 28 = .ok (.iconst 4, 1) := by decide +kernel
theorem dX3_init_29 : decode cX3_init 29 = .ok (.newarray .int, 2) := by decide +kernel
theorem dX3_init_31 : decode cX3_init 31 = .ok (.putfield 25, 3) := by decide +kernel
theorem dX3_init_34 : decode cX3_init 34 = .ok (.getstatic 28, 3) := by decide +kernel
theorem dX3_init_37 : decode cX3_init 37 = .ok (.iconst 0, 1) := by decide +kernel
theorem dX3_init_38 : decode cX3_init 38 = .ok (.aload_n 0, 1) := by decide +kernel
theorem dX3_init_39 : decode cX3_init 39 = .ok (.getfield 25, 3) := by decide +kernel
theorem dX3_init_42 : decode cX3_init 42 = .ok (.iconst 0, 1) := by decide +kernel
theorem dX3_init_43 : decode cX3_init 43 = .ok (.iconst 4, 1) := by decide +kernel
theorem dX3_init_44 : decode cX3_init 44 = .ok (.invokestatic 31, 3) := by decide +kernel
theorem dX3_init_47 : decode cX3_init 47 = .ok (.aload_n 0, 1) := by decide +kernel
theorem dX3_init_48 : decode cX3_init 48 = .ok (.bipush 12, 2) := by decide +kernel
theorem dX3_init_50 : decode cX3_init 50 = .ok (.newarray .int, 2) := by decide +kernel
theorem dX3_init_52 : decode cX3_init 52 = .ok (.putfield 37, 3) := by decide +kernel
theorem dX3_init_55 : decode cX3_init 55 = .ok (.aload_n 0, 1) := by decide +kernel
theorem dX3_init_56 : decode cX3_init 56 = .ok (.bipush 12, 2) := by decide +kernel
theorem dX3_init_58 : decode cX3_init 58 = .ok (.newarray .int, 2) := by decide +kernel
theorem dX3_init_60 : decode cX3_init 60 = .ok (.putfield 40, 3) := by decide +kernel
theorem dX3_init_63 : decode cX3_init 63 = .ok (.aload_n 0, 1) := by decide +kernel
theorem dX3_init_64 : decode cX3_init 64 = .ok (.getfield 40, 3) := by decide +kernel
theorem dX3_init_67 : decode cX3_init 67 = .ok (.bipush 10, 2) := by decide +kernel
theorem dX3_init_69 : decode cX3_init 69 = .ok (.invokestatic 15, 3) := by decide +kernel
theorem dX3_init_72 : decode cX3_init 72 = .ok (.aload_n 0, 1) := by decide +kernel
theorem dX3_init_73 : decode cX3_init 73 = .ok (.bipush 12, 2) := by decide +kernel
theorem dX3_init_75 : decode cX3_init 75 = .ok (.newarray .boolean, 2) := by decide +kernel
theorem dX3_init_77 : decode cX3_init 77 = .ok (.putfield 43, 3) := by decide +kernel
theorem dX3_init_80 : decode cX3_init 80 = .ok (.aload_n 0, 1) := by decide +kernel
theorem dX3_init_81 : decode cX3_init 81 = .ok (.bipush 12, 2) := by decide +kernel
theorem dX3_init_83 : decode cX3_init 83 = .ok (.newarray .int, 2) := by decide +kernel
theorem dX3_init_85 : decode cX3_init 85 = .ok (.putfield 46, 3) := by decide +kernel
theorem dX3_init_88 : decode cX3_init 88 = .ok (.aload_n 0, 1) := by decide +kernel
theorem dX3_init_89 : decode cX3_init 89 = .ok (.bipush 12, 2) := by decide +kernel
theorem dX3_init_91 : decode cX3_init 91 = .ok (.newarray .int, 2) := by decide +kernel
theorem dX3_init_93 : decode cX3_init 93 = .ok (.putfield 49, 3) := by decide +kernel
theorem dX3_init_96 : decode cX3_init 96 = .ok (.aload_n 0, 1) := by decide +kernel
theorem dX3_init_97 : decode cX3_init 97 = .ok (.bipush 12, 2) := by decide +kernel
theorem dX3_init_99 : decode cX3_init 99 = .ok (.newarray .int, 2) := by decide +kernel
theorem dX3_init_101 : decode cX3_init 101 = .ok (.putfield 52, 3) := by decide +kernel
theorem dX3_init_104 : decode cX3_init 104 = .ok (.aload_n 0, 1) := by decide +kernel
theorem dX3_init_105 : decode cX3_init 105 = .ok (.iconst 3, 1) := by decide +kernel
theorem dX3_init_106 : decode cX3_init 106 = .ok (.anewarray 55, 3) := by decide +kernel
theorem dX3_init_109 : decode cX3_init 109 = .ok (.putfield 57, 3) := by decide +kernel
theorem dX3_init_112 : decode cX3_init 112 = .ok (.iconst 0, 1) := by decide +kernel
theorem dX3_init_113 : decode cX3_init 113 = .ok (.istore_n 1, 1) := by decide +kernel
theorem dX3_init_114 : decode cX3_init 114 = .ok (.iload_n 1, 1) := by decide +kernel
theorem dX3_init_115 : decode cX3_init 115 = .ok (.iconst 3, 1) := by decide +kernel
theorem dX3_init_116 : decode cX3_init 116 = .ok (.if_icmp .ge 22, 3) := by decide +kernel
theorem dX3_init_119 : decode cX3_init 119 = .ok (.aload_n 0, 1) := by decide +kernel
theorem dX3_init_120 : decode cX3_init 120 = .ok (.getfield 57, 3) := by decide +kernel
theorem dX3_init_123 : decode cX3_init 123 = .ok (.iload_n 1, 1) := by decide +kernel
theorem dX3_init_124 : decode cX3_init 124 = .ok (.new 55, 3) := by decide +kernel
theorem dX3_init_127 : decode cX3_init 127 = .ok (.dup, 1) := by decide +kernel
theorem dX3_init_128 : decode cX3_init 128 = .ok (.invokespecial 61, 3) := by decide +kernel
theorem dX3_init_131 : decode cX3_init 131 = .ok (.aastore, 1) := by decide +kernel
theorem dX3_init_132 : decode cX3_init 132 = .ok (.iinc 1 1, 3) := by decide +kernel
theorem dX3_init_135 : decode cX3_init 135 = .ok (.goto (-21), 3) := by decide +kernel
theorem dX3_init_138 : decode cX3_init 138 = .ok (.return_, 1) := by decide +kernel
theorem dX3_copyFrom_0 : decode cX3_copyFrom 0 = .ok (.aload_n 1, 1) := by decide +kernel
theorem dX3_copyFrom_1 : decode cX3_copyFrom 1 = .ok (.getfield 9, 3) := by decide +kernel
theorem dX3_copyFrom_4 : decode cX3_copyFrom 4 = .ok (.iconst 0, 1) := by decide +kernel
theorem dX3_copyFrom_5 : decode cX3_copyFrom 5 = .ok (.aload_n 0, 1) := by decide +kernel
theorem dX3_copyFrom_6 : decode cX3_copyFrom 6 = .ok (.getfield 9, 3) := by decide +kernel
theorem dX3_copyFrom_9 : decode cX3_copyFrom 9 = .ok (.iconst 0, 1) := by decide +kernel
theorem dX3_copyFrom_10 : decode cX3_copyFrom 10 = .ok (.iconst 3, 1) := by decide +kernel
theorem dX3_copyFrom_11 : decode cX3_copyFrom 11 = .ok (.invokestatic 31, 3) := by decide +kernel
theorem dX3_copyFrom_14 : decode cX3_copyFrom 14 = .ok (.aload_n 1, 1) := by decide +kernel
theorem dX3_copyFrom_15 : decode cX3_copyFrom 15 = .ok (.getfield 21, 3) := by decide +kernel
theorem dX3_copyFrom_18 : decode cX3_copyFrom 18 = .ok (.iconst 0, 1) := by decide +kernel
theorem dX3_copyFrom_19 : decode cX3_copyFrom 19 = .ok (.aload_n 0, 1) := by decide +kernel
theorem dX3_copyFrom_20 : decode cX3_copyFrom 20 = .ok (.getfield 21, 3) := by decide +kernel
theorem dX3_copyFrom_23 : decode cX3_copyFrom 23 = .ok (.iconst 0, 1) := by decide +kernel
theorem dX3_copyFrom_24 : decode cX3_copyFrom 24 = .ok (.iconst 2, 1) := by decide +kernel
theorem dX3_copyFrom_25 : decode cX3_copyFrom 25 = .ok (.invokestatic 31, 3) := by decide +kernel
theorem dX3_copyFrom_28 : decode cX3_copyFrom 28 = .ok (.aload_n 1, 1) := by decide +kernel
theorem dX3_copyFrom_29 : decode cX3_copyFrom 29 = .ok (.getfield 25, 3) := by decide +kernel
theorem dX3_copyFrom_32 : decode cX3_copyFrom 32 = .ok (.iconst 0, 1) := by decide +kernel
theorem dX3_copyFrom_33 : decode cX3_copyFrom 33 = .ok (.aload_n 0, 1) := by decide +kernel
theorem dX3_copyFrom_34 : decode cX3_copyFrom 34 = .ok (.getfield 25, 3) := by decide +kernel
theorem dX3_copyFrom_37 : decode cX3_copyFrom 37 = .ok (.iconst 0, 1) := by decide +kernel
theorem dX3_copyFrom_38 : decode cX3_copyFrom 38 = .ok (.iconst 4, 1) := by decide +kernel
theorem dX3_copyFrom_39 : decode cX3_copyFrom 39 = .ok (.invokestatic 31, 3) := by decide +kernel
theorem dX3_copyFrom_42 : decode cX3_copyFrom 42 = .ok (.aload_n 1, 1) := by decide +kernel
theorem dX3_copyFrom_43 : decode cX3_copyFrom 43 = .ok (.getfield 37, 3) := by decide +kernel
theorem dX3_copyFrom_46 : decode cX3_copyFrom 46 = .ok (.iconst 0, 1) := by decide +kernel
theorem dX3_copyFrom_47 : decode cX3_copyFrom 47 = .ok (.aload_n 0, 1) := by decide +kernel
theorem dX3_copyFrom_48 : decode cX3_copyFrom 48 = .ok (.getfield 37, 3) := by decide +kernel
theorem dX3_copyFrom_51 : decode cX3_copyFrom 51 = .ok (.iconst 0, 1) := by decide +kernel
theorem dX3_copyFrom_52 : decode cX3_copyFrom 52 = .ok (.bipush 12, 2) := by decide +kernel
theorem dX3_copyFrom_54 : decode cX3_copyFrom 54 = .ok (.invokestatic 31, 3) := by decide +kernel
theorem dX3_copyFrom_57 : decode cX3_copyFrom 57 = .ok (.aload_n 1, 1) := by decide +kernel
theorem dX3_copyFrom_58 : decode cX3_copyFrom 58 = .ok (.getfield 40, 3) := by decide +kernel
theorem dX3_copyFrom_61 : decode cX3_copyFrom 61 = .ok (.iconst 0, 1) := by decide +kernel
theorem dX3_copyFrom_62 : decode cX3_copyFrom 62 = .ok (.aload_n 0, 1) := by decide +kernel
theorem dX3_copyFrom_63 : decode cX3_copyFrom 63 = .ok (.getfield 40, 3) := by decide +kernel
theorem dX3_copyFrom_66 : decode cX3_copyFrom 66 = .ok (.iconst 0, 1) := by decide +kernel
theorem dX3_copyFrom_67 : decode cX3_copyFrom 67 = .ok (.bipush 12, 2) := by decide +kernel
theorem dX3_copyFrom_69 : decode cX3_copyFrom 69 = .ok (.invokestatic 31, 3) := by decide +kernel
theorem dX3_copyFrom_72 : decode cX3_copyFrom 72 = .ok (.aload_n 1, 1) := by decide +kernel
theorem dX3_copyFrom_73 : decode cX3_copyFrom 73 = .ok (.getfield 43, 3) := by decide +kernel
theorem dX3_copyFrom_76 : decode cX3_copyFrom 76 = .ok (.iconst 0, 1) := by decide +kernel
theorem dX3_copyFrom_77 : decode cX3_copyFrom 77 = .ok (.aload_n 0, 1) := by decide +kernel
theorem dX3_copyFrom_78 : decode cX3_copyFrom 78 = .ok (.getfield 43, 3) := by decide +kernel
theorem dX3_copyFrom_81 : decode cX3_copyFrom 81 = .ok (.iconst 0, 1) := by decide +kernel
theorem dX3_copyFrom_82 : decode cX3_copyFrom 82 = .ok (.bipush 12, 2) := by decide +kernel
theorem dX3_copyFrom_84 : decode cX3_copyFrom 84 = .ok (.invokestatic 31, 3) := by decide +kernel
theorem dX3_copyFrom_87 : decode cX3_copyFrom 87 = .ok (.aload_n 1, 1) := by decide +kernel
theorem dX3_copyFrom_88 : decode cX3_copyFrom 88 = .ok (.getfield 46, 3) := by decide +kernel
theorem dX3_copyFrom_91 : decode cX3_copyFrom 91 = .ok (.iconst 0, 1) := by decide +kernel
theorem dX3_copyFrom_92 : decode cX3_copyFrom 92 = .ok (.aload_n 0, 1) := by decide +kernel
theorem dX3_copyFrom_93 : decode cX3_copyFrom 93 = .ok (.getfield 46, 3) := by decide +kernel
theorem dX3_copyFrom_96 : decode cX3_copyFrom 96 = .ok (.iconst 0, 1) := by decide +kernel
theorem dX3_copyFrom_97 : decode cX3_copyFrom 97 = .ok (.bipush 12, 2) := by decide +kernel
theorem dX3_copyFrom_99 : decode cX3_copyFrom 99 = .ok (.invokestatic 31, 3) := by decide +kernel
theorem dX3_copyFrom_102 : decode cX3_copyFrom 102 = .ok (.aload_n 1, 1) := by decide +kernel
theorem dX3_copyFrom_103 : decode cX3_copyFrom 103 = .ok (.getfield 49, 3) := by decide +kernel
theorem dX3_copyFrom_106 : decode cX3_copyFrom 106 = .ok (.iconst 0, 1) := by decide +kernel
theorem dX3_copyFrom_107 : decode cX3_copyFrom 107 = .ok (.aload_n 0, 1) := by decide +kernel
theorem dX3_copyFrom_108 : decode cX3_copyFrom 108 = .ok (.getfield 49, 3) := by decide +kernel
theorem dX3_copyFrom_111 : decode cX3_copyFrom 111 = .ok (.iconst 0, 1) := by decide +kernel
theorem dX3_copyFrom_112 : decode cX3_copyFrom 112 = .ok (.bipush 12, 2) := by decide +kernel
theorem dX3_copyFrom_114 : decode cX3_copyFrom 114 = .ok (.invokestatic 31, 3) := by decide +kernel
theorem dX3_copyFrom_117 : decode cX3_copyFrom 117 = .ok (.aload_n 1, 1) := by decide +kernel
theorem dX3_copyFrom_118 : decode cX3_copyFrom 118 = .ok (.getfield 52, 3) := by decide +kernel
theorem dX3_copyFrom_121 : decode cX3_copyFrom 121 = .ok (.iconst 0, 1) := by decide +kernel
theorem dX3_copyFrom_122 : decode cX3_copyFrom 122 = .ok (.aload_n 0, 1) := by decide +kernel
theorem dX3_copyFrom_123 : decode cX3_copyFrom 123 = .ok (.getfield 52, 3) := by decide +kernel
theorem dX3_copyFrom_126 : decode cX3_copyFrom 126 = .ok (.iconst 0, 1) := by decide +kernel
theorem dX3_copyFrom_127 : decode cX3_copyFrom 127 = .ok (.bipush 12, 2) := by decide +kernel
theorem dX3_copyFrom_129 : decode cX3_copyFrom 129 = .ok (.invokestatic 31, 3) := by decide +kernel
theorem dX3_copyFrom_132 : decode cX3_copyFrom 132 = .ok (.iconst 0, 1) := by decide +kernel
theorem dX3_copyFrom_133 : decode cX3_copyFrom 133 = .ok (.istore_n 2, 1) := by decide +kernel
theorem dX3_copyFrom_134 : decode cX3_copyFrom 134 = .ok (.iload_n 2, 1) := by decide +kernel
theorem dX3_copyFrom_135 : decode cX3_copyFrom 135 = .ok (.iconst 3, 1) := by decide +kernel
theorem dX3_copyFrom_136 : decode cX3_copyFrom 136 = .ok (.if_icmp .ge 24, 3) := by decide +kernel
theorem dX3_copyFrom_139 : decode cX3_copyFrom 139 = .ok (.aload_n 0, 1) := by decide +kernel
theorem dX3_copyFrom_140 : decode cX3_copyFrom 140 = .ok (.getfield 57, 3) := by decide +kernel
theorem dX3_copyFrom_143 : decode cX3_copyFrom 143 = .ok (.iload_n 2, 1) := by decide +kernel
theorem dX3_copyFrom_144 : decode cX3_copyFrom 144 = .ok (.aaload, 1) := by decide +kernel
theorem dX3_copyFrom_145 : decode cX3_copyFrom 145 = .ok (.aload_n 1, 1) := by decide +kernel
theorem dX3_copyFrom_146 : decode cX3_copyFrom 146 = .ok (.getfield 57, 3) := by decide +kernel
theorem dX3_copyFrom_149 : decode cX3_copyFrom 149 = .ok (.iload_n 2, 1) := by decide +kernel
theorem dX3_copyFrom_150 : decode cX3_copyFrom 150 = .ok (.aaload, 1) := by decide +kernel
theorem dX3_copyFrom_151 : decode cX3_copyFrom 151 = .ok (.invokevirtual 62, 3) := by decide +kernel
theorem dX3_copyFrom_154 : decode cX3_copyFrom 154 = .ok (.iinc 2 1, 3) := by decide +kernel
theorem dX3_copyFrom_157 : decode cX3_copyFrom 157 = .ok (.goto (-23), 3) := by decide +kernel
theorem dX3_copyFrom_160 : decode cX3_copyFrom 160 = .ok (.aload_n 0, 1) := by decide +kernel
theorem dX3_copyFrom_161 : decode cX3_copyFrom 161 = .ok (.aload_n 1, 1) := by decide +kernel
theorem dX3_copyFrom_162 : decode cX3_copyFrom 162 = .ok (.getfield 66, 3) := by decide +kernel
theorem dX3_copyFrom_165 : decode cX3_copyFrom 165 = .ok (.putfield 66, 3) := by decide +kernel
theorem dX3_copyFrom_168 : decode cX3_copyFrom 168 = .ok (.aload_n 0, 1) := by decide +kernel
theorem dX3_copyFrom_169 : decode cX3_copyFrom 169 = .ok (.aload_n 1, 1) := by decide +kernel
theorem dX3_copyFrom_170 : decode cX3_copyFrom 170 = .ok (.getfield 70, 3) := by decide +kernel
theorem dX3_copyFrom_173 : decode cX3_copyFrom 173 = .ok (.putfield 70, 3) := by decide +kernel
theorem dX3_copyFrom_176 : decode cX3_copyFrom 176 = .ok (.aload_n 0, 1) := by decide +kernel
theorem dX3_copyFrom_177 : decode cX3_copyFrom 177 = .ok (.aload_n 1, 1) := by decide +kernel
theorem dX3_copyFrom_178 : decode cX3_copyFrom 178 = .ok (.getfield 73, 3) := by decide +kernel
theorem dX3_copyFrom_181 : decode cX3_copyFrom 181 = .ok (.putfield 73, 3) := by decide +kernel
theorem dX3_copyFrom_184 : decode cX3_copyFrom 184 = .ok (.return_, 1) := by decide +kernel
theorem dX3_isBrown_0 : decode cX3_isBrown 0 = .ok (.aload_n 0, 1) := by decide +kernel
theorem dX3_isBrown_1 : decode cX3_isBrown 1 = .ok (.getfield 37, 3) := by decide +kernel
theorem dX3_isBrown_4 : decode cX3_isBrown 4 = .ok (.iload_n 1, 1) := by decide +kernel
theorem dX3_isBrown_5 : decode cX3_isBrown 5 = .ok (.iaload, 1) := by decide +kernel
theorem dX3_isBrown_6 : decode cX3_isBrown 6 = .ok (.aload_n 0, 1) := by decide +kernel
theorem dX3_isBrown_7 : decode cX3_isBrown 7 = .ok (.getfield 25, 3) := by decide +kernel
theorem dX3_isBrown_10 : decode cX3_isBrown 10 = .ok (.iconst 0, 1) := by decide +kernel
theorem dX3_isBrown_11 : decode cX3_isBrown 11 = .ok (.iaload, 1) := by decide +kernel
theorem dX3_isBrown_12 : decode cX3_isBrown 12 = .ok (.if_icmp .le 7, 3) := by decide +kernel
theorem dX3_isBrown_15 : decode cX3_isBrown 15 = .ok (.iconst 1, 1) := by decide +kernel
theorem dX3_isBrown_16 : decode cX3_isBrown 16 = .ok (.goto 4, 3) := by decide +kernel
theorem dX3_isBrown_19 : decode cX3_isBrown 19 = .ok (.iconst 0, 1) := by decide +kernel
theorem dX3_isBrown_20 : decode cX3_isBrown 20 = .ok (.ireturn, 1) := by decide +kernel
theorem dX3_brownStreets_0 : decode cX3_brownStreets 0 = .ok (.iconst 0, 1) := by decide +kernel
theorem dX3_brownStreets_1 : decode cX3_brownStreets 1 = .ok (.istore_n 1, 1) := by decide +kernel
theorem dX3_brownStreets_2 : decode cX3_brownStreets 2 = .ok (.iconst 0, 1) := by decide +kernel
theorem dX3_brownStreets_3 : decode cX3_brownStreets 3 = .ok (.istore_n 2, 1) := by decide +kernel
theorem dX3_brownStreets_4 : decode cX3_brownStreets 4 = .ok (.iload_n 2, 1) := by decide +kernel
theorem dX3_brownStreets_5 : decode cX3_brownStreets 5 = .ok (.bipush 12, 2) := by decide +kernel
theorem dX3_brownStreets_7 : decode cX3_brownStreets 7 = .ok (.if_icmp .ge 20, 3) := by decide +kernel
theorem dX3_brownStreets_10 : decode cX3_brownStreets 10 = .ok (.aload_n 0, 1) := by decide +kernel
theorem dX3_brownStreets_11 : decode cX3_brownStreets 11 = .ok (.iload_n 2, 1) := by decide +kernel
theorem dX3_brownStreets_12 : decode cX3_brownStreets 12 = .ok (.invokevirtual 76, 3) := by decide +kernel
theorem dX3_brownStreets_15 : decode cX3_brownStreets 15 = .ok (.ifCond .eq 6, 3) := by decide +kernel
theorem dX3_brownStreets_18 : decode cX3_brownStreets 18 = .ok (.iinc 1 1, 3) := by decide +kernel
theorem dX3_brownStreets_21 : decode cX3_brownStreets 21 = .ok (.iinc 2 1, 3) := by decide +kernel
theorem dX3_brownStreets_24 : decode cX3_brownStreets 24 = .ok (.goto (-20), 3) := by decide +kernel
theorem dX3_brownStreets_27 : decode cX3_brownStreets 27 = .ok (.iload_n 1, 1) := by decide +kernel
theorem dX3_brownStreets_28 : decode cX3_brownStreets 28 = .ok (.ireturn, 1) := by decide +kernel
theorem dX3_streetsInTours_0 : decode cX3_streetsInTours 0 = .ok (.iconst 0, 1) := by decide +kernel
theorem dX3_streetsInTours_1 : decode cX3_streetsInTours 1 = .ok (.istore_n 1, 1) := by decide +kernel
theorem dX3_streetsInTours_2 : decode cX3_streetsInTours 2 = .ok (.iconst 0, 1) := by decide +kernel
theorem dX3_streetsInTours_3 : decode cX3_streetsInTours 3 = .ok (.istore_n 2, 1) := by decide +kernel
theorem dX3_streetsInTours_4 : decode cX3_streetsInTours 4 = .ok (.iload_n 2, 1) := by decide +kernel
theorem dX3_streetsInTours_5 : decode cX3_streetsInTours 5 = .ok (.iconst 3, 1) := by decide +kernel
theorem dX3_streetsInTours_6 : decode cX3_streetsInTours 6 = .ok (.if_icmp .ge 21, 3) := by decide +kernel
theorem dX3_streetsInTours_9 : decode cX3_streetsInTours 9 = .ok (.iload_n 1, 1) := by decide +kernel
theorem dX3_streetsInTours_10 : decode cX3_streetsInTours 10 = .ok (.aload_n 0, 1) := by decide +kernel
theorem dX3_streetsInTours_11 : decode cX3_streetsInTours 11 = .ok (.getfield 57, 3) := by decide +kernel
theorem dX3_streetsInTours_14 : decode cX3_streetsInTours 14 = .ok (.iload_n 2, 1) := by decide +kernel
theorem dX3_streetsInTours_15 : decode cX3_streetsInTours 15 = .ok (.aaload, 1) := by decide +kernel
theorem dX3_streetsInTours_16 : decode cX3_streetsInTours 16 = .ok (.getfield 80, 3) := by decide +kernel
theorem dX3_streetsInTours_19 : decode cX3_streetsInTours 19 = .ok (.iadd, 1) := by decide +kernel
theorem dX3_streetsInTours_20 : decode cX3_streetsInTours 20 = .ok (.istore_n 1, 1) := by decide +kernel
theorem dX3_streetsInTours_21 : decode cX3_streetsInTours 21 = .ok (.iinc 2 1, 3) := by decide +kernel
theorem dX3_streetsInTours_24 : decode cX3_streetsInTours 24 = .ok (.goto (-20), 3) := by decide +kernel
theorem dX3_streetsInTours_27 : decode cX3_streetsInTours 27 = .ok (.iload_n 1, 1) := by decide +kernel
theorem dX3_streetsInTours_28 : decode cX3_streetsInTours 28 = .ok (.ireturn, 1) := by decide +kernel
theorem dX3_sourceOf_0 : decode cX3_sourceOf 0 = .ok (.iload_n 1, 1) := by decide +kernel
theorem dX3_sourceOf_1 : decode cX3_sourceOf 1 = .ok (.iconst 4, 1) := by decide +kernel
theorem dX3_sourceOf_2 : decode cX3_sourceOf 2 = .ok (.idiv, 1) := by decide +kernel
theorem dX3_sourceOf_3 : decode cX3_sourceOf 3 = .ok (.istore_n 2, 1) := by decide +kernel
theorem dX3_sourceOf_4 : decode cX3_sourceOf 4 = .ok (.iload_n 1, 1) := by decide +kernel
theorem dX3_sourceOf_5 : decode cX3_sourceOf 5 = .ok (.iconst 4, 1) := by decide +kernel
theorem dX3_sourceOf_6 : decode cX3_sourceOf 6 = .ok (.irem, 1) := by decide +kernel
theorem dX3_sourceOf_7 : decode cX3_sourceOf 7 = .ok (.ifCond .ne 7, 3) := by decide +kernel
theorem dX3_sourceOf_10 : decode cX3_sourceOf 10 = .ok (.iconst 1, 1) := by decide +kernel
theorem dX3_sourceOf_11 : decode cX3_sourceOf 11 = .ok (.goto 4, 3) := by decide +kernel
theorem dX3_sourceOf_14 : decode cX3_sourceOf 14 = .ok (.iconst 0, 1) := by decide +kernel
theorem dX3_sourceOf_15 : decode cX3_sourceOf 15 = .ok (.istore_n 3, 1) := by decide +kernel
theorem dX3_sourceOf_16 : decode cX3_sourceOf 16 = .ok (.iload_n 3, 1) := by decide +kernel
theorem dX3_sourceOf_17 : decode cX3_sourceOf 17 = .ok (.ifCond .eq 20, 3) := by decide +kernel
theorem dX3_sourceOf_20 : decode cX3_sourceOf 20 = .ok (.iload_n 2, 1) := by decide +kernel
theorem dX3_sourceOf_21 : decode cX3_sourceOf 21 = .ok (.ifCond .eq 14, 3) := by decide +kernel
theorem dX3_sourceOf_24 : decode cX3_sourceOf 24 = .ok (.aload_n 0, 1) := by decide +kernel
theorem dX3_sourceOf_25 : decode cX3_sourceOf 25 = .ok (.getfield 21, 3) := by decide +kernel
theorem dX3_sourceOf_28 : decode cX3_sourceOf 28 = .ok (.iload_n 2, 1) := by decide +kernel
theorem dX3_sourceOf_29 : decode cX3_sourceOf 29 = .ok (.iconst 1, 1) := by decide +kernel
theorem dX3_sourceOf_30 : decode cX3_sourceOf 30 = .ok (.isub, 1) := by decide +kernel
theorem dX3_sourceOf_31 : decode cX3_sourceOf 31 = .ok (.baload, 1) := by decide +kernel
theorem dX3_sourceOf_32 : decode cX3_sourceOf 32 = .ok (.ifCond .ne 5, 3) := by decide +kernel
theorem dX3_sourceOf_35 : decode cX3_sourceOf 35 = .ok (.iconst (-1), 1) := by decide +kernel
theorem dX3_sourceOf_36 : decode cX3_sourceOf 36 = .ok (.ireturn, 1) := by decide +kernel
theorem dX3_sourceOf_37 : decode cX3_sourceOf 37 = .ok (.iload_n 1, 1) := by decide +kernel
theorem dX3_sourceOf_38 : decode cX3_sourceOf 38 = .ok (.iconst 1, 1) := by decide +kernel
theorem dX3_sourceOf_39 : decode cX3_sourceOf 39 = .ok (.isub, 1) := by decide +kernel
theorem dX3_sourceOf_40 : decode cX3_sourceOf 40 = .ok (.ireturn, 1) := by decide +kernel
theorem dX3_fedBy_0 : decode cX3_fedBy 0 = .ok (.iload_n 1, 1) := by decide +kernel
theorem dX3_fedBy_1 : decode cX3_fedBy 1 = .ok (.iconst 1, 1) := by decide +kernel
theorem dX3_fedBy_2 : decode cX3_fedBy 2 = .ok (.iadd, 1) := by decide +kernel
theorem dX3_fedBy_3 : decode cX3_fedBy 3 = .ok (.istore_n 2, 1) := by decide +kernel
theorem dX3_fedBy_4 : decode cX3_fedBy 4 = .ok (.iload_n 2, 1) := by decide +kernel
theorem dX3_fedBy_5 : decode cX3_fedBy 5 = .ok (.bipush 12, 2) := by decide +kernel
theorem dX3_fedBy_7 : decode cX3_fedBy 7 = .ok (.if_icmp .ge 16, 3) := by decide +kernel
theorem dX3_fedBy_10 : decode cX3_fedBy 10 = .ok (.aload_n 0, 1) := by decide +kernel
theorem dX3_fedBy_11 : decode cX3_fedBy 11 = .ok (.iload_n 2, 1) := by decide +kernel
theorem dX3_fedBy_12 : decode cX3_fedBy 12 = .ok (.invokevirtual 83, 3) := by decide +kernel
theorem dX3_fedBy_15 : decode cX3_fedBy 15 = .ok (.iload_n 1, 1) := by decide +kernel
theorem dX3_fedBy_16 : decode cX3_fedBy 16 = .ok (.if_icmp .ne 7, 3) := by decide +kernel
theorem dX3_fedBy_19 : decode cX3_fedBy 19 = .ok (.iload_n 2, 1) := by decide +kernel
theorem dX3_fedBy_20 : decode cX3_fedBy 20 = .ok (.goto 4, 3) := by decide +kernel
theorem dX3_fedBy_23 : decode cX3_fedBy 23 = .ok (.iconst (-1), 1) := by decide +kernel
theorem dX3_fedBy_24 : decode cX3_fedBy 24 = .ok (.ireturn, 1) := by decide +kernel
theorem dX3_pressureAt_0 : decode cX3_pressureAt 0 = .ok (.iload_n 1, 1) := by decide +kernel
theorem dX3_pressureAt_1 : decode cX3_pressureAt 1 = .ok (.iconst 4, 1) := by decide +kernel
theorem dX3_pressureAt_2 : decode cX3_pressureAt 2 = .ok (.idiv, 1) := by decide +kernel
theorem dX3_pressureAt_3 : decode cX3_pressureAt 3 = .ok (.istore_n 3, 1) := by decide +kernel
theorem dX3_pressureAt_4 : decode cX3_pressureAt 4 = .ok (.aload_n 0, 1) := by decide +kernel
theorem dX3_pressureAt_5 : decode cX3_pressureAt 5 = .ok (.getfield 9, 3) := by decide +kernel
theorem dX3_pressureAt_8 : decode cX3_pressureAt 8 = .ok (.iload_n 3, 1) := by decide +kernel
theorem dX3_pressureAt_9 : decode cX3_pressureAt 9 = .ok (.iaload, 1) := by decide +kernel
theorem dX3_pressureAt_10 : decode cX3_pressureAt 10 = .ok (.iload_n 1, 1) := by decide +kernel
theorem dX3_pressureAt_11 : decode cX3_pressureAt 11 = .ok (.iconst 4, 1) := by decide +kernel
theorem dX3_pressureAt_12 : decode cX3_pressureAt 12 = .ok (.irem, 1) := by decide +kernel
theorem dX3_pressureAt_13 : decode cX3_pressureAt 13 = .ok (.isub, 1) := by decide +kernel
theorem dX3_pressureAt_14 : decode cX3_pressureAt 14 = .ok (.aload_n 2, 1) := by decide +kernel
theorem dX3_pressureAt_15 : decode cX3_pressureAt 15 = .ok (.iload_n 3, 1) := by decide +kernel
theorem dX3_pressureAt_16 : decode cX3_pressureAt 16 = .ok (.iaload, 1) := by decide +kernel
theorem dX3_pressureAt_17 : decode cX3_pressureAt 17 = .ok (.isub, 1) := by decide +kernel
theorem dX3_pressureAt_18 : decode cX3_pressureAt 18 = .ok (.istore 4, 2) := by decide +kernel
theorem dX3_pressureAt_20 : decode cX3_pressureAt 20 = .ok (.iload_n 3, 1) := by decide +kernel
theorem dX3_pressureAt_21 : decode cX3_pressureAt 21 = .ok (.iconst 1, 1) := by decide +kernel
theorem dX3_pressureAt_22 : decode cX3_pressureAt 22 = .ok (.isub, 1) := by decide +kernel
theorem dX3_pressureAt_23 : decode cX3_pressureAt 23 = .ok (.istore 5, 2) := by decide +kernel
theorem dX3_pressureAt_25 : decode cX3_pressureAt 25 = .ok (.iload 5, 2) := by decide +kernel
theorem dX3_pressureAt_27 : decode cX3_pressureAt 27 = .ok (.ifCond .lt 51, 3) := by decide +kernel
theorem dX3_pressureAt_30 : decode cX3_pressureAt 30 = .ok (.aload_n 0, 1) := by decide +kernel
theorem dX3_pressureAt_31 : decode cX3_pressureAt 31 = .ok (.getfield 21, 3) := by decide +kernel
theorem dX3_pressureAt_34 : decode cX3_pressureAt 34 = .ok (.iload 5, 2) := by decide +kernel
theorem dX3_pressureAt_36 : decode cX3_pressureAt 36 = .ok (.baload, 1) := by decide +kernel
theorem dX3_pressureAt_37 : decode cX3_pressureAt 37 = .ok (.ifCond .eq 41, 3) := by decide +kernel
theorem dX3_pressureAt_40 : decode cX3_pressureAt 40 = .ok (.aload_n 0, 1) := by decide +kernel
theorem dX3_pressureAt_41 : decode cX3_pressureAt 41 = .ok (.getfield 9, 3) := by decide +kernel
theorem dX3_pressureAt_44 : decode cX3_pressureAt 44 = .ok (.iload 5, 2) := by decide +kernel
theorem dX3_pressureAt_46 : decode cX3_pressureAt 46 = .ok (.iaload, 1) := by decide +kernel
theorem dX3_pressureAt_47 : decode cX3_pressureAt 47 = .ok (.iconst 3, 1) := by decide +kernel
theorem dX3_pressureAt_48 : decode cX3_pressureAt 48 = .ok (.isub, 1) := by decide +kernel
theorem dX3_pressureAt_49 : decode cX3_pressureAt 49 = .ok (.aload_n 2, 1) := by decide +kernel
theorem dX3_pressureAt_50 : decode cX3_pressureAt 50 = .ok (.iload 5, 2) := by decide +kernel
theorem dX3_pressureAt_52 : decode cX3_pressureAt 52 = .ok (.iaload, 1) := by decide +kernel
theorem dX3_pressureAt_53 : decode cX3_pressureAt 53 = .ok (.isub, 1) := by decide +kernel
theorem dX3_pressureAt_54 : decode cX3_pressureAt 54 = .ok (.istore 6, 2) := by decide +kernel
theorem dX3_pressureAt_56 : decode cX3_pressureAt 56 = .ok (.iload 6, 2) := by decide +kernel
theorem dX3_pressureAt_58 : decode cX3_pressureAt 58 = .ok (.iload 4, 2) := by decide +kernel
theorem dX3_pressureAt_60 : decode cX3_pressureAt 60 = .ok (.if_icmp .ge 8, 3) := by decide +kernel
theorem dX3_pressureAt_63 : decode cX3_pressureAt 63 = .ok (.iload 6, 2) := by decide +kernel
theorem dX3_pressureAt_65 : decode cX3_pressureAt 65 = .ok (.goto 5, 3) := by decide +kernel
theorem dX3_pressureAt_68 : decode cX3_pressureAt 68 = .ok (.iload 4, 2) := by decide +kernel
theorem dX3_pressureAt_70 : decode cX3_pressureAt 70 = .ok (.istore 4, 2) := by decide +kernel
theorem dX3_pressureAt_72 : decode cX3_pressureAt 72 = .ok (.iinc 5 (-1), 3) := by decide +kernel
theorem dX3_pressureAt_75 : decode cX3_pressureAt 75 = .ok (.goto (-50), 3) := by decide +kernel
theorem dX3_pressureAt_78 : decode cX3_pressureAt 78 = .ok (.iload 4, 2) := by decide +kernel
theorem dX3_pressureAt_80 : decode cX3_pressureAt 80 = .ok (.ifCond .ge 7, 3) := by decide +kernel
theorem dX3_pressureAt_83 : decode cX3_pressureAt 83 = .ok (.iconst 0, 1) := by decide +kernel
theorem dX3_pressureAt_84 : decode cX3_pressureAt 84 = .ok (.goto 5, 3) := by decide +kernel
theorem dX3_pressureAt_87 : decode cX3_pressureAt 87 = .ok (.iload 4, 2) := by decide +kernel
theorem dX3_pressureAt_89 : decode cX3_pressureAt 89 = .ok (.ireturn, 1) := by decide +kernel
theorem dX3_addDirt_0 : decode cX3_addDirt 0 = .ok (.aload_n 0, 1) := by decide +kernel
theorem dX3_addDirt_1 : decode cX3_addDirt 1 = .ok (.getfield 37, 3) := by decide +kernel
theorem dX3_addDirt_4 : decode cX3_addDirt 4 = .ok (.iload_n 1, 1) := by decide +kernel
theorem dX3_addDirt_5 : decode cX3_addDirt 5 = .ok (.iaload, 1) := by decide +kernel
theorem dX3_addDirt_6 : decode cX3_addDirt 6 = .ok (.iload_n 2, 1) := by decide +kernel
theorem dX3_addDirt_7 : decode cX3_addDirt 7 = .ok (.iadd, 1) := by decide +kernel
theorem dX3_addDirt_8 : decode cX3_addDirt 8 = .ok (.istore_n 3, 1) := by decide +kernel
theorem dX3_addDirt_9 : decode cX3_addDirt 9 = .ok (.iload_n 3, 1) := by decide +kernel
theorem dX3_addDirt_10 : decode cX3_addDirt 10 = .ok (.sipush 999, 3) := by decide +kernel
theorem dX3_addDirt_13 : decode cX3_addDirt 13 = .ok (.invokestatic 87, 3) := by decide +kernel
theorem dX3_addDirt_16 : decode cX3_addDirt 16 = .ok (.istore 4, 2) := by decide +kernel
theorem dX3_addDirt_18 : decode cX3_addDirt 18 = .ok (.aload_n 0, 1) := by decide +kernel
theorem dX3_addDirt_19 : decode cX3_addDirt 19 = .ok (.getfield 37, 3) := by decide +kernel
theorem dX3_addDirt_22 : decode cX3_addDirt 22 = .ok (.iload_n 1, 1) := by decide +kernel
theorem dX3_addDirt_23 : decode cX3_addDirt 23 = .ok (.iload 4, 2) := by decide +kernel
theorem dX3_addDirt_25 : decode cX3_addDirt 25 = .ok (.iastore, 1) := by decide +kernel
theorem dX3_addDirt_26 : decode cX3_addDirt 26 = .ok (.aload_n 0, 1) := by decide +kernel
theorem dX3_addDirt_27 : decode cX3_addDirt 27 = .ok (.dup, 1) := by decide +kernel
theorem dX3_addDirt_28 : decode cX3_addDirt 28 = .ok (.getfield 73, 3) := by decide +kernel
theorem dX3_addDirt_31 : decode cX3_addDirt 31 = .ok (.iload_n 3, 1) := by decide +kernel
theorem dX3_addDirt_32 : decode cX3_addDirt 32 = .ok (.iload 4, 2) := by decide +kernel
theorem dX3_addDirt_34 : decode cX3_addDirt 34 = .ok (.isub, 1) := by decide +kernel
theorem dX3_addDirt_35 : decode cX3_addDirt 35 = .ok (.iadd, 1) := by decide +kernel
theorem dX3_addDirt_36 : decode cX3_addDirt 36 = .ok (.putfield 73, 3) := by decide +kernel
theorem dX3_addDirt_39 : decode cX3_addDirt 39 = .ok (.return_, 1) := by decide +kernel
theorem dX4_init_0 : decode cX4_init 0 = .ok (.aload_n 0, 1) := by decide +kernel
theorem dX4_init_1 : decode cX4_init 1 = .ok (.invokespecial 3, 3) := by decide +kernel
theorem dX4_init_4 : decode cX4_init 4 = .ok (.aload_n 0, 1) := by decide +kernel
theorem dX4_init_5 : decode cX4_init 5 = .ok (.bipush 8, 2) := by decide +kernel
theorem dX4_init_7 : decode cX4_init 7 = .ok (.newarray .int, 2) := by decide +kernel
theorem dX4_init_9 : decode cX4_init 9 = .ok (.putfield 9, 3) := by decide +kernel
theorem dX4_init_12 : decode cX4_init 12 = .ok (.aload_n 0, 1) := by decide +kernel
theorem dX4_init_13 : decode cX4_init 13 = .ok (.iconst 0, 1) := by decide +kernel
theorem dX4_init_14 : decode cX4_init 14 = .ok (.putfield 15, 3) := by decide +kernel
theorem dX4_init_17 : decode cX4_init 17 = .ok (.return_, 1) := by decide +kernel
theorem dX4_isFull_0 : decode cX4_isFull 0 = .ok (.aload_n 0, 1) := by decide +kernel
theorem dX4_isFull_1 : decode cX4_isFull 1 = .ok (.getfield 15, 3) := by decide +kernel
theorem dX4_isFull_4 : decode cX4_isFull 4 = .ok (.bipush 8, 2) := by decide +kernel
theorem dX4_isFull_6 : decode cX4_isFull 6 = .ok (.if_icmp .lt 7, 3) := by decide +kernel
theorem dX4_isFull_9 : decode cX4_isFull 9 = .ok (.iconst 1, 1) := by decide +kernel
theorem dX4_isFull_10 : decode cX4_isFull 10 = .ok (.goto 4, 3) := by decide +kernel
theorem dX4_isFull_13 : decode cX4_isFull 13 = .ok (.iconst 0, 1) := by decide +kernel
theorem dX4_isFull_14 : decode cX4_isFull 14 = .ok (.ireturn, 1) := by decide +kernel
theorem dX4_at_0 : decode cX4_at 0 = .ok (.iload_n 1, 1) := by decide +kernel
theorem dX4_at_1 : decode cX4_at 1 = .ok (.ifCond .lt 26, 3) := by decide +kernel
theorem dX4_at_4 : decode cX4_at 4 = .ok (.iload_n 1, 1) := by decide +kernel
theorem dX4_at_5 : decode cX4_at 5 = .ok (.aload_n 0, 1) := by decide +kernel
theorem dX4_at_6 : decode cX4_at 6 = .ok (.getfield 15, 3) := by decide +kernel
theorem dX4_at_9 : decode cX4_at 9 = .ok (.if_icmp .ge 18, 3) := by decide +kernel
theorem dX4_at_12 : decode cX4_at 12 = .ok (.iload_n 1, 1) := by decide +kernel
theorem dX4_at_13 : decode cX4_at 13 = .ok (.bipush 8, 2) := by decide +kernel
theorem dX4_at_15 : decode cX4_at 15 = .ok (.if_icmp .ge 12, 3) := by decide +kernel
theorem dX4_at_18 : decode cX4_at 18 = .ok (.aload_n 0, 1) := by decide +kernel
theorem dX4_at_19 : decode cX4_at 19 = .ok (.getfield 9, 3) := by decide +kernel
theorem dX4_at_22 : decode cX4_at 22 = .ok (.iload_n 1, 1) := by decide +kernel
theorem dX4_at_23 : decode cX4_at 23 = .ok (.iaload, 1) := by decide +kernel
theorem dX4_at_24 : decode cX4_at 24 = .ok (.goto 4, 3) := by decide +kernel
theorem dX4_at_27 : decode cX4_at 27 = .ok (.iconst (-1), 1) := by decide +kernel
theorem dX4_at_28 : decode cX4_at 28 = .ok (.ireturn, 1) := by decide +kernel
theorem dX4_putLast_0 : decode cX4_putLast 0 = .ok (.aload_n 0, 1) := by decide +kernel
theorem dX4_putLast_1 : decode cX4_putLast 1 = .ok (.getfield 15, 3) := by decide +kernel
theorem dX4_putLast_4 : decode cX4_putLast 4 = .ok (.ifCond .lt 32, 3) := by decide +kernel
theorem dX4_putLast_7 : decode cX4_putLast 7 = .ok (.aload_n 0, 1) := by decide +kernel
theorem dX4_putLast_8 : decode cX4_putLast 8 = .ok (.getfield 15, 3) := by decide +kernel
theorem dX4_putLast_11 : decode cX4_putLast 11 = .ok (.bipush 8, 2) := by decide +kernel
theorem dX4_putLast_13 : decode cX4_putLast 13 = .ok (.if_icmp .ge 23, 3) := by decide +kernel
theorem dX4_putLast_16 : decode cX4_putLast 16 = .ok (.aload_n 0, 1) := by decide +kernel
theorem dX4_putLast_17 : decode cX4_putLast 17 = .ok (.getfield 9, 3) := by decide +kernel
theorem dX4_putLast_20 : decode cX4_putLast 20 = .ok (.aload_n 0, 1) := by decide +kernel
theorem dX4_putLast_21 : decode cX4_putLast 21 = .ok (.getfield 15, 3) := by decide +kernel
theorem dX4_putLast_24 : decode cX4_putLast 24 = .ok (.iload_n 1, 1) := by decide +kernel
theorem dX4_putLast_25 : decode cX4_putLast 25 = .ok (.iastore, 1) := by decide +kernel
theorem dX4_putLast_26 : decode cX4_putLast 26 = .ok (.aload_n 0, 1) := by decide +kernel
theorem dX4_putLast_27 : decode cX4_putLast 27 = .ok (.dup, 1) := by decide +kernel
theorem dX4_putLast_28 : decode cX4_putLast 28 = .ok (.getfield 15, 3) := by decide +kernel
theorem dX4_putLast_31 : decode cX4_putLast 31 = .ok (.iconst 1, 1) := by decide +kernel
theorem dX4_putLast_32 : decode cX4_putLast 32 = .ok (.iadd, 1) := by decide +kernel
theorem dX4_putLast_33 : decode cX4_putLast 33 = .ok (.putfield 15, 3) := by decide +kernel
theorem dX4_putLast_36 : decode cX4_putLast 36 = .ok (.return_, 1) := by decide +kernel
theorem dX4_dropFirst_0 : decode cX4_dropFirst 0 = .ok (.aload_n 0, 1) := by decide +kernel
theorem dX4_dropFirst_1 : decode cX4_dropFirst 1 = .ok (.getfield 15, 3) := by decide +kernel
theorem dX4_dropFirst_4 : decode cX4_dropFirst 4 = .ok (.ifCond .gt 4, 3) := by decide +kernel
theorem dX4_dropFirst_7 : decode cX4_dropFirst 7 = .ok (.return_, 1) := by decide +kernel
theorem dX4_dropFirst_8 : decode cX4_dropFirst 8 = .ok (.iconst 1, 1) := by decide +kernel
theorem dX4_dropFirst_9 : decode cX4_dropFirst 9 = .ok (.istore_n 1, 1) := by decide +kernel
theorem dX4_dropFirst_10 : decode cX4_dropFirst 10 = .ok (.iload_n 1, 1) := by decide +kernel
theorem dX4_dropFirst_11 : decode cX4_dropFirst 11 = .ok (.bipush 8, 2) := by decide +kernel
theorem dX4_dropFirst_13 : decode cX4_dropFirst 13 = .ok (.if_icmp .ge 23, 3) := by decide +kernel
theorem dX4_dropFirst_16 : decode cX4_dropFirst 16 = .ok (.aload_n 0, 1) := by decide +kernel
theorem dX4_dropFirst_17 : decode cX4_dropFirst 17 = .ok (.getfield 9, 3) := by decide +kernel
theorem dX4_dropFirst_20 : decode cX4_dropFirst 20 = .ok (.iload_n 1, 1) := by decide +kernel
theorem dX4_dropFirst_21 : decode cX4_dropFirst 21 = .ok (.iconst 1, 1) := by decide +kernel
theorem dX4_dropFirst_22 : decode cX4_dropFirst 22 = .ok (.isub, 1) := by decide +kernel
theorem dX4_dropFirst_23 : decode cX4_dropFirst 23 = .ok (.aload_n 0, 1) := by decide +kernel
theorem dX4_dropFirst_24 : decode cX4_dropFirst 24 = .ok (.getfield 9, 3) := by decide +kernel
theorem dX4_dropFirst_27 : decode cX4_dropFirst 27 = .ok (.iload_n 1, 1) := by decide +kernel
theorem dX4_dropFirst_28 : decode cX4_dropFirst 28 = .ok (.iaload, 1) := by decide +kernel
theorem dX4_dropFirst_29 : decode cX4_dropFirst 29 = .ok (.iastore, 1) := by decide +kernel
theorem dX4_dropFirst_30 : decode cX4_dropFirst 30 = .ok (.iinc 1 1, 3) := by decide +kernel
theorem dX4_dropFirst_33 : decode cX4_dropFirst 33 = .ok (.goto (-23), 3) := by decide +kernel
theorem dX4_dropFirst_36 : decode cX4_dropFirst 36 = .ok (.aload_n 0, 1) := by decide +kernel
theorem dX4_dropFirst_37 : decode cX4_dropFirst 37 = .ok (.dup, 1) := by decide +kernel
