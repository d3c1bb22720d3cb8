theorem dX6_ofStreet_83 : decode cX6_ofStreet 83 = .ok (.getfield 7, 3) := by decide +kernel
theorem dX6_ofStreet_86 : decode cX6_ofStreet 86 = .ok (.iload_n 1, 1) := by decide +kernel
theorem dX6_ofStreet_87 : decode cX6_ofStreet 87 = .ok (.iload_n 2, 1) := by decide +kernel
theorem dX6_ofStreet_88 : decode cX6_ofStreet 88 = .ok (.iconst 2, 1) := by decide +kernel
theorem dX6_ofStreet_89 : decode cX6_ofStreet 89 = .ok (.isub, 1) := by decide +kernel
theorem dX6_ofStreet_90 : decode cX6_ofStreet 90 = .ok (.invokestatic 47, 3) := by decide +kernel
theorem dX6_ofStreet_93 : decode cX6_ofStreet 93 = .ok (.ireturn, 1) := by decide +kernel
theorem dX6_street_0 : decode cX6_street 0 = .ok (.aload_n 0, 1) := by decide +kernel
theorem dX6_street_1 : decode cX6_street 1 = .ok (.iconst 0, 1) := by decide +kernel
theorem dX6_street_2 : decode cX6_street 2 = .ok (.putfield 28, 3) := by decide +kernel
theorem dX6_street_5 : decode cX6_street 5 = .ok (.iload_n 1, 1) := by decide +kernel
theorem dX6_street_6 : decode cX6_street 6 = .ok (.invokestatic 90, 3) := by decide +kernel
theorem dX6_street_9 : decode cX6_street 9 = .ok (.ifCond .ne 9, 3) := by decide +kernel
theorem dX6_street_12 : decode cX6_street 12 = .ok (.aload_n 0, 1) := by decide +kernel
theorem dX6_street_13 : decode cX6_street 13 = .ok (.iconst 1, 1) := by decide +kernel
theorem dX6_street_14 : decode cX6_street 14 = .ok (.invokevirtual 43, 3) := by decide +kernel
theorem dX6_street_17 : decode cX6_street 17 = .ok (.ireturn, 1) := by decide +kernel
theorem dX6_street_18 : decode cX6_street 18 = .ok (.iload_n 2, 1) := by decide +kernel
theorem dX6_street_19 : decode cX6_street 19 = .ok (.iconst 0, 1) := by decide +kernel
theorem dX6_street_20 : decode cX6_street 20 = .ok (.bipush 7, 2) := by decide +kernel
theorem dX6_street_22 : decode cX6_street 22 = .ok (.invokestatic 32, 3) := by decide +kernel
theorem dX6_street_25 : decode cX6_street 25 = .ok (.ifCond .eq 12, 3) := by decide +kernel
theorem dX6_street_28 : decode cX6_street 28 = .ok (.aload_n 0, 1) := by decide +kernel
theorem dX6_street_29 : decode cX6_street 29 = .ok (.iload_n 1, 1) := by decide +kernel
theorem dX6_street_30 : decode cX6_street 30 = .ok (.iload_n 2, 1) := by decide +kernel
theorem dX6_street_31 : decode cX6_street 31 = .ok (.invokevirtual 134, 3) := by decide +kernel
theorem dX6_street_34 : decode cX6_street 34 = .ok (.goto 8, 3) := by decide +kernel
theorem dX6_street_37 : decode cX6_street 37 = .ok (.aload_n 0, 1) := by decide +kernel
theorem dX6_street_38 : decode cX6_street 38 = .ok (.iconst 2, 1) := by decide +kernel
theorem dX6_street_39 : decode cX6_street 39 = .ok (.invokevirtual 43, 3) := by decide +kernel
theorem dX6_street_42 : decode cX6_street 42 = .ok (.ireturn, 1) := by decide +kernel
theorem dX6_round_0 : decode cX6_round 0 = .ok (.aload_n 0, 1) := by decide +kernel
theorem dX6_round_1 : decode cX6_round 1 = .ok (.iconst 0, 1) := by decide +kernel
theorem dX6_round_2 : decode cX6_round 2 = .ok (.putfield 28, 3) := by decide +kernel
theorem dX6_round_5 : decode cX6_round 5 = .ok (.iload_n 1, 1) := by decide +kernel
theorem dX6_round_6 : decode cX6_round 6 = .ok (.invokestatic 94, 3) := by decide +kernel
theorem dX6_round_9 : decode cX6_round 9 = .ok (.ifCond .ne 9, 3) := by decide +kernel
theorem dX6_round_12 : decode cX6_round 12 = .ok (.aload_n 0, 1) := by decide +kernel
theorem dX6_round_13 : decode cX6_round 13 = .ok (.iconst 1, 1) := by decide +kernel
theorem dX6_round_14 : decode cX6_round 14 = .ok (.invokevirtual 43, 3) := by decide +kernel
theorem dX6_round_17 : decode cX6_round 17 = .ok (.ireturn, 1) := by decide +kernel
theorem dX6_round_18 : decode cX6_round 18 = .ok (.iload_n 2, 1) := by decide +kernel
theorem dX6_round_19 : decode cX6_round 19 = .ok (.ifCond .ge 9, 3) := by decide +kernel
theorem dX6_round_22 : decode cX6_round 22 = .ok (.aload_n 0, 1) := by decide +kernel
theorem dX6_round_23 : decode cX6_round 23 = .ok (.iconst 2, 1) := by decide +kernel
theorem dX6_round_24 : decode cX6_round 24 = .ok (.invokevirtual 43, 3) := by decide +kernel
theorem dX6_round_27 : decode cX6_round 27 = .ok (.ireturn, 1) := by decide +kernel
theorem dX6_round_28 : decode cX6_round 28 = .ok (.bipush 84, 2) := by decide +kernel
theorem dX6_round_30 : decode cX6_round 30 = .ok (.bipush 9, 2) := by decide +kernel
theorem dX6_round_32 : decode cX6_round 32 = .ok (.iload_n 1, 1) := by decide +kernel
theorem dX6_round_33 : decode cX6_round 33 = .ok (.imul, 1) := by decide +kernel
theorem dX6_round_34 : decode cX6_round 34 = .ok (.iadd, 1) := by decide +kernel
theorem dX6_round_35 : decode cX6_round 35 = .ok (.istore_n 3, 1) := by decide +kernel
theorem dX6_round_36 : decode cX6_round 36 = .ok (.iload_n 2, 1) := by decide +kernel
theorem dX6_round_37 : decode cX6_round 37 = .ok (.aload_n 0, 1) := by decide +kernel
theorem dX6_round_38 : decode cX6_round 38 = .ok (.getfield 7, 3) := by decide +kernel
theorem dX6_round_41 : decode cX6_round 41 = .ok (.iload_n 3, 1) := by decide +kernel
theorem dX6_round_42 : decode cX6_round 42 = .ok (.iaload, 1) := by decide +kernel
theorem dX6_round_43 : decode cX6_round 43 = .ok (.if_icmp .ge 16, 3) := by decide +kernel
theorem dX6_round_46 : decode cX6_round 46 = .ok (.aload_n 0, 1) := by decide +kernel
theorem dX6_round_47 : decode cX6_round 47 = .ok (.getfield 7, 3) := by decide +kernel
theorem dX6_round_50 : decode cX6_round 50 = .ok (.iload_n 3, 1) := by decide +kernel
theorem dX6_round_51 : decode cX6_round 51 = .ok (.iconst 1, 1) := by decide +kernel
theorem dX6_round_52 : decode cX6_round 52 = .ok (.iadd, 1) := by decide +kernel
theorem dX6_round_53 : decode cX6_round 53 = .ok (.iload_n 2, 1) := by decide +kernel
theorem dX6_round_54 : decode cX6_round 54 = .ok (.iadd, 1) := by decide +kernel
theorem dX6_round_55 : decode cX6_round 55 = .ok (.iaload, 1) := by decide +kernel
theorem dX6_round_56 : decode cX6_round 56 = .ok (.goto 4, 3) := by decide +kernel
theorem dX6_round_59 : decode cX6_round 59 = .ok (.iconst (-1), 1) := by decide +kernel
theorem dX6_round_60 : decode cX6_round 60 = .ok (.ireturn, 1) := by decide +kernel
theorem dX6_counted_0 : decode cX6_counted 0 = .ok (.iload_n 1, 1) := by decide +kernel
theorem dX6_counted_1 : decode cX6_counted 1 = .ok (.tableswitch 105 0 7 #[47, 55, 64, 72, 72, 81, 89, 97], 47) := by decide +kernel
theorem dX6_counted_48 : decode cX6_counted 48 = .ok (.aload_n 0, 1) := by decide +kernel
theorem dX6_counted_49 : decode cX6_counted 49 = .ok (.getfield 7, 3) := by decide +kernel
theorem dX6_counted_52 : decode cX6_counted 52 = .ok (.bipush 9, 2) := by decide +kernel
theorem dX6_counted_54 : decode cX6_counted 54 = .ok (.iaload, 1) := by decide +kernel
theorem dX6_counted_55 : decode cX6_counted 55 = .ok (.ireturn, 1) := by decide +kernel
theorem dX6_counted_56 : decode cX6_counted 56 = .ok (.aload_n 0, 1) := by decide +kernel
theorem dX6_counted_57 : decode cX6_counted 57 = .ok (.getfield 7, 3) := by decide +kernel
theorem dX6_counted_60 : decode cX6_counted 60 = .ok (.iconst 0, 1) := by decide +kernel
theorem dX6_counted_61 : decode cX6_counted 61 = .ok (.invokestatic 101, 3) := by decide +kernel
theorem dX6_counted_64 : decode cX6_counted 64 = .ok (.ireturn, 1) := by decide +kernel
theorem dX6_counted_65 : decode cX6_counted 65 = .ok (.aload_n 0, 1) := by decide +kernel
theorem dX6_counted_66 : decode cX6_counted 66 = .ok (.getfield 7, 3) := by decide +kernel
theorem dX6_counted_69 : decode cX6_counted 69 = .ok (.invokestatic 137, 3) := by decide +kernel
theorem dX6_counted_72 : decode cX6_counted 72 = .ok (.ireturn, 1) := by decide +kernel
theorem dX6_counted_73 : decode cX6_counted 73 = .ok (.aload_n 0, 1) := by decide +kernel
theorem dX6_counted_74 : decode cX6_counted 74 = .ok (.getfield 7, 3) := by decide +kernel
theorem dX6_counted_77 : decode cX6_counted 77 = .ok (.iload_n 1, 1) := by decide +kernel
theorem dX6_counted_78 : decode cX6_counted 78 = .ok (.invokestatic 101, 3) := by decide +kernel
theorem dX6_counted_81 : decode cX6_counted 81 = .ok (.ireturn, 1) := by decide +kernel
theorem dX6_counted_82 : decode cX6_counted 82 = .ok (.aload_n 0, 1) := by decide +kernel
theorem dX6_counted_83 : decode cX6_counted 83 = .ok (.getfield 7, 3) := by decide +kernel
theorem dX6_counted_86 : decode cX6_counted 86 = .ok (.bipush 10, 2) := by decide +kernel
theorem dX6_counted_88 : decode cX6_counted 88 = .ok (.iaload, 1) := by decide +kernel
theorem dX6_counted_89 : decode cX6_counted 89 = .ok (.ireturn, 1) := by decide +kernel
theorem dX6_counted_90 : decode cX6_counted 90 = .ok (.aload_n 0, 1) := by decide +kernel
theorem dX6_counted_91 : decode cX6_counted 91 = .ok (.getfield 7, 3) := by decide +kernel
theorem dX6_counted_94 : decode cX6_counted 94 = .ok (.invokestatic 130, 3) := by decide +kernel
theorem dX6_counted_97 : decode cX6_counted 97 = .ok (.ireturn, 1) := by decide +kernel
theorem dX6_counted_98 : decode cX6_counted 98 = .ok (.aload_n 0, 1) := by decide +kernel
theorem dX6_counted_99 : decode cX6_counted 99 = .ok (.getfield 7, 3) := by decide +kernel
theorem dX6_counted_102 : decode cX6_counted 102 = .ok (.bipush 11, 2) := by decide +kernel
theorem dX6_counted_104 : decode cX6_counted 104 = .ok (.iaload, 1) := by decide +kernel
theorem dX6_counted_105 : decode cX6_counted 105 = .ok (.ireturn, 1) := by decide +kernel
theorem dX6_counted_106 : decode cX6_counted 106 = .ok (.aload_n 0, 1) := by decide +kernel
theorem dX6_counted_107 : decode cX6_counted 107 = .ok (.getfield 36, 3) := by decide +kernel
theorem dX6_counted_110 : decode cX6_counted 110 = .ok (.ireturn, 1) := by decide +kernel
theorem dX6_count_0 : decode cX6_count 0 = .ok (.aload_n 0, 1) := by decide +kernel
theorem dX6_count_1 : decode cX6_count 1 = .ok (.iconst 0, 1) := by decide +kernel
theorem dX6_count_2 : decode cX6_count 2 = .ok (.putfield 28, 3) := by decide +kernel
theorem dX6_count_5 : decode cX6_count 5 = .ok (.iload_n 1, 1) := by decide +kernel
theorem dX6_count_6 : decode cX6_count 6 = .ok (.iconst 0, 1) := by decide +kernel
theorem dX6_count_7 : decode cX6_count 7 = .ok (.bipush 8, 2) := by decide +kernel
theorem dX6_count_9 : decode cX6_count 9 = .ok (.invokestatic 32, 3) := by decide +kernel
theorem dX6_count_12 : decode cX6_count 12 = .ok (.ifCond .eq 11, 3) := by decide +kernel
theorem dX6_count_15 : decode cX6_count 15 = .ok (.aload_n 0, 1) := by decide +kernel
theorem dX6_count_16 : decode cX6_count 16 = .ok (.iload_n 1, 1) := by decide +kernel
theorem dX6_count_17 : decode cX6_count 17 = .ok (.invokevirtual 140, 3) := by decide +kernel
theorem dX6_count_20 : decode cX6_count 20 = .ok (.goto 8, 3) := by decide +kernel
theorem dX6_count_23 : decode cX6_count 23 = .ok (.aload_n 0, 1) := by decide +kernel
theorem dX6_count_24 : decode cX6_count 24 = .ok (.iconst 1, 1) := by decide +kernel
theorem dX6_count_25 : decode cX6_count 25 = .ok (.invokevirtual 43, 3) := by decide +kernel
theorem dX6_count_28 : decode cX6_count 28 = .ok (.ireturn, 1) := by decide +kernel
theorem dX6_setting_0 : decode cX6_setting 0 = .ok (.aload_n 0, 1) := by decide +kernel
theorem dX6_setting_1 : decode cX6_setting 1 = .ok (.iconst 0, 1) := by decide +kernel
theorem dX6_setting_2 : decode cX6_setting 2 = .ok (.putfield 28, 3) := by decide +kernel
theorem dX6_setting_5 : decode cX6_setting 5 = .ok (.iload_n 1, 1) := by decide +kernel
theorem dX6_setting_6 : decode cX6_setting 6 = .ok (.iconst 0, 1) := by decide +kernel
theorem dX6_setting_7 : decode cX6_setting 7 = .ok (.iconst 3, 1) := by decide +kernel
theorem dX6_setting_8 : decode cX6_setting 8 = .ok (.invokestatic 32, 3) := by decide +kernel
theorem dX6_setting_11 : decode cX6_setting 11 = .ok (.ifCond .eq 12, 3) := by decide +kernel
theorem dX6_setting_14 : decode cX6_setting 14 = .ok (.aload_n 0, 1) := by decide +kernel
theorem dX6_setting_15 : decode cX6_setting 15 = .ok (.getfield 7, 3) := by decide +kernel
theorem dX6_setting_18 : decode cX6_setting 18 = .ok (.iload_n 1, 1) := by decide +kernel
theorem dX6_setting_19 : decode cX6_setting 19 = .ok (.iaload, 1) := by decide +kernel
theorem dX6_setting_20 : decode cX6_setting 20 = .ok (.goto 8, 3) := by decide +kernel
theorem dX6_setting_23 : decode cX6_setting 23 = .ok (.aload_n 0, 1) := by decide +kernel
theorem dX6_setting_24 : decode cX6_setting 24 = .ok (.iconst 1, 1) := by decide +kernel
theorem dX6_setting_25 : decode cX6_setting 25 = .ok (.invokevirtual 43, 3) := by decide +kernel
theorem dX6_setting_28 : decode cX6_setting 28 = .ok (.ireturn, 1) := by decide +kernel
theorem dX6_waits_0 : decode cX6_waits 0 = .ok (.aload_n 0, 1) := by decide +kernel
theorem dX6_waits_1 : decode cX6_waits 1 = .ok (.iconst 0, 1) := by decide +kernel
theorem dX6_waits_2 : decode cX6_waits 2 = .ok (.putfield 28, 3) := by decide +kernel
theorem dX6_waits_5 : decode cX6_waits 5 = .ok (.iload_n 1, 1) := by decide +kernel
theorem dX6_waits_6 : decode cX6_waits 6 = .ok (.invokestatic 94, 3) := by decide +kernel
theorem dX6_waits_9 : decode cX6_waits 9 = .ok (.ifCond .ne 9, 3) := by decide +kernel
theorem dX6_waits_12 : decode cX6_waits 12 = .ok (.aload_n 0, 1) := by decide +kernel
theorem dX6_waits_13 : decode cX6_waits 13 = .ok (.iconst 1, 1) := by decide +kernel
theorem dX6_waits_14 : decode cX6_waits 14 = .ok (.invokevirtual 43, 3) := by decide +kernel
theorem dX6_waits_17 : decode cX6_waits 17 = .ok (.ireturn, 1) := by decide +kernel
theorem dX6_waits_18 : decode cX6_waits 18 = .ok (.aload_n 0, 1) := by decide +kernel
theorem dX6_waits_19 : decode cX6_waits 19 = .ok (.aload_n 0, 1) := by decide +kernel
theorem dX6_waits_20 : decode cX6_waits 20 = .ok (.getfield 7, 3) := by decide +kernel
theorem dX6_waits_23 : decode cX6_waits 23 = .ok (.invokevirtual 71, 3) := by decide +kernel
theorem dX6_waits_26 : decode cX6_waits 26 = .ok (.aload_n 0, 1) := by decide +kernel
theorem dX6_waits_27 : decode cX6_waits 27 = .ok (.getfield 25, 3) := by decide +kernel
theorem dX6_waits_30 : decode cX6_waits 30 = .ok (.iload_n 1, 1) := by decide +kernel
theorem dX6_waits_31 : decode cX6_waits 31 = .ok (.iaload, 1) := by decide +kernel
theorem dX6_waits_32 : decode cX6_waits 32 = .ok (.ireturn, 1) := by decide +kernel
theorem dX6_byPassing_0 : decode cX6_byPassing 0 = .ok (.aload_n 0, 1) := by decide +kernel
theorem dX6_byPassing_1 : decode cX6_byPassing 1 = .ok (.getfield 7, 3) := by decide +kernel
theorem dX6_byPassing_4 : decode cX6_byPassing 4 = .ok (.iconst 0, 1) := by decide +kernel
theorem dX6_byPassing_5 : decode cX6_byPassing 5 = .ok (.aload_n 0, 1) := by decide +kernel
theorem dX6_byPassing_6 : decode cX6_byPassing 6 = .ok (.getfield 13, 3) := by decide +kernel
theorem dX6_byPassing_9 : decode cX6_byPassing 9 = .ok (.iconst 0, 1) := by decide +kernel
theorem dX6_byPassing_10 : decode cX6_byPassing 10 = .ok (.invokestatic 39, 3) := by decide +kernel
theorem dX6_byPassing_13 : decode cX6_byPassing 13 = .ok (.iconst 0, 1) := by decide +kernel
theorem dX6_byPassing_14 : decode cX6_byPassing 14 = .ok (.istore_n 3, 1) := by decide +kernel
theorem dX6_byPassing_15 : decode cX6_byPassing 15 = .ok (.iload_n 3, 1) := by decide +kernel
theorem dX6_byPassing_16 : decode cX6_byPassing 16 = .ok (.iload_n 1, 1) := by decide +kernel
theorem dX6_byPassing_17 : decode cX6_byPassing 17 = .ok (.if_icmp .ge 17, 3) := by decide +kernel
theorem dX6_byPassing_20 : decode cX6_byPassing 20 = .ok (.aload_n 0, 1) := by decide +kernel
theorem dX6_byPassing_21 : decode cX6_byPassing 21 = .ok (.aload_n 0, 1) := by decide +kernel
theorem dX6_byPassing_22 : decode cX6_byPassing 22 = .ok (.getfield 13, 3) := by decide +kernel
theorem dX6_byPassing_25 : decode cX6_byPassing 25 = .ok (.invokevirtual 104, 3) := by decide +kernel
theorem dX6_byPassing_28 : decode cX6_byPassing 28 = .ok (.iinc 3 1, 3) := by decide +kernel
theorem dX6_byPassing_31 : decode cX6_byPassing 31 = .ok (.goto (-16), 3) := by decide +kernel
theorem dX6_byPassing_34 : decode cX6_byPassing 34 = .ok (.iload_n 2, 1) := by decide +kernel
theorem dX6_byPassing_35 : decode cX6_byPassing 35 = .ok (.ifCond .ne 23, 3) := by decide +kernel
theorem dX6_byPassing_38 : decode cX6_byPassing 38 = .ok (.aload_n 0, 1) := by decide +kernel
theorem dX6_byPassing_39 : decode cX6_byPassing 39 = .ok (.getfield 13, 3) := by decide +kernel
theorem dX6_byPassing_42 : decode cX6_byPassing 42 = .ok (.iconst 3, 1) := by decide +kernel
theorem dX6_byPassing_43 : decode cX6_byPassing 43 = .ok (.invokestatic 101, 3) := by decide +kernel
theorem dX6_byPassing_46 : decode cX6_byPassing 46 = .ok (.aload_n 0, 1) := by decide +kernel
theorem dX6_byPassing_47 : decode cX6_byPassing 47 = .ok (.getfield 7, 3) := by decide +kernel
theorem dX6_byPassing_50 : decode cX6_byPassing 50 = .ok (.iconst 3, 1) := by decide +kernel
theorem dX6_byPassing_51 : decode cX6_byPassing 51 = .ok (.invokestatic 101, 3) := by decide +kernel
theorem dX6_byPassing_54 : decode cX6_byPassing 54 = .ok (.isub, 1) := by decide +kernel
theorem dX6_byPassing_55 : decode cX6_byPassing 55 = .ok (.goto 50, 3) := by decide +kernel
theorem dX6_byPassing_58 : decode cX6_byPassing 58 = .ok (.iload_n 2, 1) := by decide +kernel
theorem dX6_byPassing_59 : decode cX6_byPassing 59 = .ok (.iconst 1, 1) := by decide +kernel
theorem dX6_byPassing_60 : decode cX6_byPassing 60 = .ok (.if_icmp .ne 23, 3) := by decide +kernel
theorem dX6_byPassing_63 : decode cX6_byPassing 63 = .ok (.aload_n 0, 1) := by decide +kernel
theorem dX6_byPassing_64 : decode cX6_byPassing 64 = .ok (.getfield 13, 3) := by decide +kernel
theorem dX6_byPassing_67 : decode cX6_byPassing 67 = .ok (.iconst 4, 1) := by decide +kernel
theorem dX6_byPassing_68 : decode cX6_byPassing 68 = .ok (.invokestatic 101, 3) := by decide +kernel
theorem dX6_byPassing_71 : decode cX6_byPassing 71 = .ok (.aload_n 0, 1) := by decide +kernel
theorem dX6_byPassing_72 : decode cX6_byPassing 72 = .ok (.getfield 7, 3) := by decide +kernel
theorem dX6_byPassing_75 : decode cX6_byPassing 75 = .ok (.iconst 4, 1) := by decide +kernel
theorem dX6_byPassing_76 : decode cX6_byPassing 76 = .ok (.invokestatic 101, 3) := by decide +kernel
theorem dX6_byPassing_79 : decode cX6_byPassing 79 = .ok (.isub, 1) := by decide +kernel
theorem dX6_byPassing_80 : decode cX6_byPassing 80 = .ok (.goto 25, 3) := by decide +kernel
theorem dX6_byPassing_83 : decode cX6_byPassing 83 = .ok (.iload_n 2, 1) := by decide +kernel
theorem dX6_byPassing_84 : decode cX6_byPassing 84 = .ok (.iconst 2, 1) := by decide +kernel
theorem dX6_byPassing_85 : decode cX6_byPassing 85 = .ok (.if_icmp .ne 13, 3) := by decide +kernel
theorem dX6_byPassing_88 : decode cX6_byPassing 88 = .ok (.aload_n 0, 1) := by decide +kernel
theorem dX6_byPassing_89 : decode cX6_byPassing 89 = .ok (.getfield 13, 3) := by decide +kernel
theorem dX6_byPassing_92 : decode cX6_byPassing 92 = .ok (.invokestatic 137, 3) := by decide +kernel
theorem dX6_byPassing_95 : decode cX6_byPassing 95 = .ok (.goto 10, 3) := by decide +kernel
theorem dX6_byPassing_98 : decode cX6_byPassing 98 = .ok (.aload_n 0, 1) := by decide +kernel
theorem dX6_byPassing_99 : decode cX6_byPassing 99 = .ok (.getfield 13, 3) := by decide +kernel
theorem dX6_byPassing_102 : decode cX6_byPassing 102 = .ok (.invokestatic 130, 3) := by decide +kernel
theorem dX6_byPassing_105 : decode cX6_byPassing 105 = .ok (.ireturn, 1) := by decide +kernel
theorem dX6_ifPassed_0 : decode cX6_ifPassed 0 = .ok (.aload_n 0, 1) := by decide +kernel
theorem dX6_ifPassed_1 : decode cX6_ifPassed 1 = .ok (.iconst 0, 1) := by decide +kernel
theorem dX6_ifPassed_2 : decode cX6_ifPassed 2 = .ok (.putfield 28, 3) := by decide +kernel
theorem dX6_ifPassed_5 : decode cX6_ifPassed 5 = .ok (.iload_n 1, 1) := by decide +kernel
theorem dX6_ifPassed_6 : decode cX6_ifPassed 6 = .ok (.iconst 1, 1) := by decide +kernel
theorem dX6_ifPassed_7 : decode cX6_ifPassed 7 = .ok (.bipush 48, 2) := by decide +kernel
theorem dX6_ifPassed_9 : decode cX6_ifPassed 9 = .ok (.invokestatic 32, 3) := by decide +kernel
theorem dX6_ifPassed_12 : decode cX6_ifPassed 12 = .ok (.ifCond .eq 21, 3) := by decide +kernel
theorem dX6_ifPassed_15 : decode cX6_ifPassed 15 = .ok (.iload_n 2, 1) := by decide +kernel
theorem dX6_ifPassed_16 : decode cX6_ifPassed 16 = .ok (.iconst 0, 1) := by decide +kernel
theorem dX6_ifPassed_17 : decode cX6_ifPassed 17 = .ok (.iconst 3, 1) := by decide +kernel
theorem dX6_ifPassed_18 : decode cX6_ifPassed 18 = .ok (.invokestatic 32, 3) := by decide +kernel
theorem dX6_ifPassed_21 : decode cX6_ifPassed 21 = .ok (.ifCond .eq 12, 3) := by decide +kernel
theorem dX6_ifPassed_24 : decode cX6_ifPassed 24 = .ok (.aload_n 0, 1) := by decide +kernel
theorem dX6_ifPassed_25 : decode cX6_ifPassed 25 = .ok (.iload_n 1, 1) := by decide +kernel
theorem dX6_ifPassed_26 : decode cX6_ifPassed 26 = .ok (.iload_n 2, 1) := by decide +kernel
theorem dX6_ifPassed_27 : decode cX6_ifPassed 27 = .ok (.invokevirtual 143, 3) := by decide +kernel
theorem dX6_ifPassed_30 : decode cX6_ifPassed 30 = .ok (.goto 8, 3) := by decide +kernel
theorem dX6_ifPassed_33 : decode cX6_ifPassed 33 = .ok (.aload_n 0, 1) := by decide +kernel
theorem dX6_ifPassed_34 : decode cX6_ifPassed 34 = .ok (.iconst 1, 1) := by decide +kernel
theorem dX6_ifPassed_35 : decode cX6_ifPassed 35 = .ok (.invokevirtual 43, 3) := by decide +kernel
theorem dX6_ifPassed_38 : decode cX6_ifPassed 38 = .ok (.ireturn, 1) := by decide +kernel
theorem dX6_best_0 : decode cX6_best 0 = .ok (.iconst (-1), 1) := by decide +kernel
theorem dX6_best_1 : decode cX6_best 1 = .ok (.istore_n 1, 1) := by decide +kernel
theorem dX6_best_2 : decode cX6_best 2 = .ok (.iconst 0, 1) := by decide +kernel
theorem dX6_best_3 : decode cX6_best 3 = .ok (.istore_n 2, 1) := by decide +kernel
theorem dX6_best_4 : decode cX6_best 4 = .ok (.iconst 0, 1) := by decide +kernel
theorem dX6_best_5 : decode cX6_best 5 = .ok (.istore_n 3, 1) := by decide +kernel
theorem dX6_best_6 : decode cX6_best 6 = .ok (.iload_n 3, 1) := by decide +kernel
theorem dX6_best_7 : decode cX6_best 7 = .ok (.bipush 12, 2) := by decide +kernel
theorem dX6_best_9 : decode cX6_best 9 = .ok (.if_icmp .ge 117, 3) := by decide +kernel
theorem dX6_best_12 : decode cX6_best 12 = .ok (.aload_n 0, 1) := by decide +kernel
theorem dX6_best_13 : decode cX6_best 13 = .ok (.getfield 7, 3) := by decide +kernel
theorem dX6_best_16 : decode cX6_best 16 = .ok (.iconst 0, 1) := by decide +kernel
theorem dX6_best_17 : decode cX6_best 17 = .ok (.aload_n 0, 1) := by decide +kernel
theorem dX6_best_18 : decode cX6_best 18 = .ok (.getfield 13, 3) := by decide +kernel
theorem dX6_best_21 : decode cX6_best 21 = .ok (.iconst 0, 1) := by decide +kernel
theorem dX6_best_22 : decode cX6_best 22 = .ok (.invokestatic 39, 3) := by decide +kernel
theorem dX6_best_25 : decode cX6_best 25 = .ok (.aload_n 0, 1) := by decide +kernel
theorem dX6_best_26 : decode cX6_best 26 = .ok (.getfield 13, 3) := by decide +kernel
theorem dX6_best_29 : decode cX6_best 29 = .ok (.bipush 84, 2) := by decide +kernel
theorem dX6_best_31 : decode cX6_best 31 = .ok (.iconst 1, 1) := by decide +kernel
theorem dX6_best_32 : decode cX6_best 32 = .ok (.iastore, 1) := by decide +kernel
theorem dX6_best_33 : decode cX6_best 33 = .ok (.aload_n 0, 1) := by decide +kernel
theorem dX6_best_34 : decode cX6_best 34 = .ok (.getfield 13, 3) := by decide +kernel
theorem dX6_best_37 : decode cX6_best 37 = .ok (.bipush 85, 2) := by decide +kernel
theorem dX6_best_39 : decode cX6_best 39 = .ok (.iload_n 3, 1) := by decide +kernel
theorem dX6_best_40 : decode cX6_best 40 = .ok (.iastore, 1) := by decide +kernel
theorem dX6_best_41 : decode cX6_best 41 = .ok (.aload_n 0, 1) := by decide +kernel
theorem dX6_best_42 : decode cX6_best 42 = .ok (.getfield 13, 3) := by decide +kernel
theorem dX6_best_45 : decode cX6_best 45 = .ok (.bipush 93, 2) := by decide +kernel
theorem dX6_best_47 : decode cX6_best 47 = .ok (.iconst 0, 1) := by decide +kernel
theorem dX6_best_48 : decode cX6_best 48 = .ok (.iastore, 1) := by decide +kernel
theorem dX6_best_49 : decode cX6_best 49 = .ok (.aload_n 0, 1) := by decide +kernel
theorem dX6_best_50 : decode cX6_best 50 = .ok (.getfield 13, 3) := by decide +kernel
theorem dX6_best_53 : decode cX6_best 53 = .ok (.bipush 102, 2) := by decide +kernel
theorem dX6_best_55 : decode cX6_best 55 = .ok (.iconst 0, 1) := by decide +kernel
theorem dX6_best_56 : decode cX6_best 56 = .ok (.iastore, 1) := by decide +kernel
theorem dX6_best_57 : decode cX6_best 57 = .ok (.iconst 0, 1) := by decide +kernel
theorem dX6_best_58 : decode cX6_best 58 = .ok (.istore 4, 2) := by decide +kernel
theorem dX6_best_60 : decode cX6_best 60 = .ok (.iload 4, 2) := by decide +kernel
theorem dX6_best_62 : decode cX6_best 62 = .ok (.bipush 12, 2) := by decide +kernel
theorem dX6_best_64 : decode cX6_best 64 = .ok (.if_icmp .ge 17, 3) := by decide +kernel
theorem dX6_best_67 : decode cX6_best 67 = .ok (.aload_n 0, 1) := by decide +kernel
theorem dX6_best_68 : decode cX6_best 68 = .ok (.aload_n 0, 1) := by decide +kernel
theorem dX6_best_69 : decode cX6_best 69 = .ok (.getfield 13, 3) := by decide +kernel
theorem dX6_best_72 : decode cX6_best 72 = .ok (.invokevirtual 104, 3) := by decide +kernel
theorem dX6_best_75 : decode cX6_best 75 = .ok (.iinc 4 1, 3) := by decide +kernel
theorem dX6_best_78 : decode cX6_best 78 = .ok (.goto (-18), 3) := by decide +kernel
theorem dX6_best_81 : decode cX6_best 81 = .ok (.aload_n 0, 1) := by decide +kernel
theorem dX6_best_82 : decode cX6_best 82 = .ok (.getfield 13, 3) := by decide +kernel
theorem dX6_best_85 : decode cX6_best 85 = .ok (.iconst 3, 1) := by decide +kernel
theorem dX6_best_86 : decode cX6_best 86 = .ok (.invokestatic 101, 3) := by decide +kernel
theorem dX6_best_89 : decode cX6_best 89 = .ok (.istore 4, 2) := by decide +kernel
theorem dX6_best_91 : decode cX6_best 91 = .ok (.iload_n 1, 1) := by decide +kernel
theorem dX6_best_92 : decode cX6_best 92 = .ok (.iconst (-1), 1) := by decide +kernel
theorem dX6_best_93 : decode cX6_best 93 = .ok (.if_icmp .eq 9, 3) := by decide +kernel
theorem dX6_best_96 : decode cX6_best 96 = .ok (.iload 4, 2) := by decide +kernel
theorem dX6_best_98 : decode cX6_best 98 = .ok (.iload_n 2, 1) := by decide +kernel
theorem dX6_best_99 : decode cX6_best 99 = .ok (.if_icmp .ge 7, 3) := by decide +kernel
theorem dX6_best_102 : decode cX6_best 102 = .ok (.iload_n 3, 1) := by decide +kernel
theorem dX6_best_103 : decode cX6_best 103 = .ok (.goto 4, 3) := by decide +kernel
theorem dX6_best_106 : decode cX6_best 106 = .ok (.iload_n 1, 1) := by decide +kernel
theorem dX6_best_107 : decode cX6_best 107 = .ok (.istore_n 1, 1) := by decide +kernel
theorem dX6_best_108 : decode cX6_best 108 = .ok (.iload_n 1, 1) := by decide +kernel
theorem dX6_best_109 : decode cX6_best 109 = .ok (.iload_n 3, 1) := by decide +kernel
theorem dX6_best_110 : decode cX6_best 110 = .ok (.if_icmp .ne 8, 3) := by decide +kernel
theorem dX6_best_113 : decode cX6_best 113 = .ok (.iload 4, 2) := by decide +kernel
theorem dX6_best_115 : decode cX6_best 115 = .ok (.goto 4, 3) := by decide +kernel
theorem dX6_best_118 : decode cX6_best 118 = .ok (.iload_n 2, 1) := by decide +kernel
theorem dX6_best_119 : decode cX6_best 119 = .ok (.istore_n 2, 1) := by decide +kernel
theorem dX6_best_120 : decode cX6_best 120 = .ok (.iinc 3 1, 3) := by decide +kernel
theorem dX6_best_123 : decode cX6_best 123 = .ok (.goto (-117), 3) := by decide +kernel
theorem dX6_best_126 : decode cX6_best 126 = .ok (.iload_n 1, 1) := by decide +kernel
theorem dX6_best_127 : decode cX6_best 127 = .ok (.ireturn, 1) := by decide +kernel
theorem dX6_bestStreet_0 : decode cX6_bestStreet 0 = .ok (.aload_n 0, 1) := by decide +kernel
theorem dX6_bestStreet_1 : decode cX6_bestStreet 1 = .ok (.iconst 0, 1) := by decide +kernel
theorem dX6_bestStreet_2 : decode cX6_bestStreet 2 = .ok (.putfield 28, 3) := by decide +kernel
theorem dX6_bestStreet_5 : decode cX6_bestStreet 5 = .ok (.aload_n 0, 1) := by decide +kernel
theorem dX6_bestStreet_6 : decode cX6_bestStreet 6 = .ok (.invokevirtual 146, 3) := by decide +kernel
theorem dX6_bestStreet_9 : decode cX6_bestStreet 9 = .ok (.ireturn, 1) := by decide +kernel
theorem dX6_clears_0 : decode cX6_clears 0 = .ok (.aload_n 0, 1) := by decide +kernel
theorem dX6_clears_1 : decode cX6_clears 1 = .ok (.getfield 7, 3) := by decide +kernel
theorem dX6_clears_4 : decode cX6_clears 4 = .ok (.iconst 0, 1) := by decide +kernel
theorem dX6_clears_5 : decode cX6_clears 5 = .ok (.aload_n 0, 1) := by decide +kernel
theorem dX6_clears_6 : decode cX6_clears 6 = .ok (.getfield 13, 3) := by decide +kernel
theorem dX6_clears_9 : decode cX6_clears 9 = .ok (.iconst 0, 1) := by decide +kernel
theorem dX6_clears_10 : decode cX6_clears 10 = .ok (.invokestatic 39, 3) := by decide +kernel
theorem dX6_clears_13 : decode cX6_clears 13 = .ok (.iconst 0, 1) := by decide +kernel
theorem dX6_clears_14 : decode cX6_clears 14 = .ok (.istore_n 1, 1) := by decide +kernel
theorem dX6_clears_15 : decode cX6_clears 15 = .ok (.iload_n 1, 1) := by decide +kernel
theorem dX6_clears_16 : decode cX6_clears 16 = .ok (.sipush 200, 3) := by decide +kernel
theorem dX6_clears_19 : decode cX6_clears 19 = .ok (.if_icmp .gt 29, 3) := by decide +kernel
theorem dX6_clears_22 : decode cX6_clears 22 = .ok (.aload_n 0, 1) := by decide +kernel
theorem dX6_clears_23 : decode cX6_clears 23 = .ok (.getfield 13, 3) := by decide +kernel
theorem dX6_clears_26 : decode cX6_clears 26 = .ok (.invokestatic 137, 3) := by decide +kernel
theorem dX6_clears_29 : decode cX6_clears 29 = .ok (.ifCond .ne 5, 3) := by decide +kernel
theorem dX6_clears_32 : decode cX6_clears 32 = .ok (.iload_n 1, 1) := by decide +kernel
theorem dX6_clears_33 : decode cX6_clears 33 = .ok (.ireturn, 1) := by decide +kernel
theorem dX6_clears_34 : decode cX6_clears 34 = .ok (.aload_n 0, 1) := by decide +kernel
theorem dX6_clears_35 : decode cX6_clears 35 = .ok (.aload_n 0, 1) := by decide +kernel
theorem dX6_clears_36 : decode cX6_clears 36 = .ok (.getfield 13, 3) := by decide +kernel
theorem dX6_clears_39 : decode cX6_clears 39 = .ok (.invokevirtual 104, 3) := by decide +kernel
theorem dX6_clears_42 : decode cX6_clears 42 = .ok (.iinc 1 1, 3) := by decide +kernel
theorem dX6_clears_45 : decode cX6_clears 45 = .ok (.goto (-30), 3) := by decide +kernel
theorem dX6_clears_48 : decode cX6_clears 48 = .ok (.iconst (-1), 1) := by decide +kernel
theorem dX6_clears_49 : decode cX6_clears 49 = .ok (.ireturn, 1) := by decide +kernel
theorem dX6_clearIn_0 : decode cX6_clearIn 0 = .ok (.aload_n 0, 1) := by decide +kernel
theorem dX6_clearIn_1 : decode cX6_clearIn 1 = .ok (.iconst 0, 1) := by decide +kernel
theorem dX6_clearIn_2 : decode cX6_clearIn 2 = .ok (.putfield 28, 3) := by decide +kernel
theorem dX6_clearIn_5 : decode cX6_clearIn 5 = .ok (.aload_n 0, 1) := by decide +kernel
theorem dX6_clearIn_6 : decode cX6_clearIn 6 = .ok (.invokevirtual 150, 3) := by decide +kernel
theorem dX6_clearIn_9 : decode cX6_clearIn 9 = .ok (.ireturn, 1) := by decide +kernel
theorem dX6_least_0 : decode cX6_least 0 = .ok (.aload_n 0, 1) := by decide +kernel
theorem dX6_least_1 : decode cX6_least 1 = .ok (.getfield 7, 3) := by decide +kernel
theorem dX6_least_4 : decode cX6_least 4 = .ok (.iconst 0, 1) := by decide +kernel
theorem dX6_least_5 : decode cX6_least 5 = .ok (.aload_n 0, 1) := by decide +kernel
theorem dX6_least_6 : decode cX6_least 6 = .ok (.getfield 13, 3) := by decide +kernel
theorem dX6_least_9 : decode cX6_least 9 = .ok (.iconst 0, 1) := by decide +kernel
theorem dX6_least_10 : decode cX6_least 10 = .ok (.invokestatic 39, 3) := by decide +kernel
theorem dX6_least_13 : decode cX6_least 13 = .ok (.iconst 0, 1) := by decide +kernel
theorem dX6_least_14 : decode cX6_least 14 = .ok (.istore_n 2, 1) := by decide +kernel
theorem dX6_least_15 : decode cX6_least 15 = .ok (.iload_n 2, 1) := by decide +kernel
theorem dX6_least_16 : decode cX6_least 16 = .ok (.bipush 100, 2) := by decide +kernel
theorem dX6_least_18 : decode cX6_least 18 = .ok (.if_icmp .ge 42, 3) := by decide +kernel
theorem dX6_least_21 : decode cX6_least 21 = .ok (.aload_n 0, 1) := by decide +kernel
theorem dX6_least_22 : decode cX6_least 22 = .ok (.getfield 13, 3) := by decide +kernel
theorem dX6_least_25 : decode cX6_least 25 = .ok (.iconst 4, 1) := by decide +kernel
theorem dX6_least_26 : decode cX6_least 26 = .ok (.iload_n 1, 1) := by decide +kernel
theorem dX6_least_27 : decode cX6_least 27 = .ok (.iconst 4, 1) := by decide +kernel
theorem dX6_least_28 : decode cX6_least 28 = .ok (.idiv, 1) := by decide +kernel
theorem dX6_least_29 : decode cX6_least 29 = .ok (.iadd, 1) := by decide +kernel
theorem dX6_least_30 : decode cX6_least 30 = .ok (.iload_n 2, 1) := by decide +kernel
theorem dX6_least_31 : decode cX6_least 31 = .ok (.iastore, 1) := by decide +kernel
theorem dX6_least_32 : decode cX6_least 32 = .ok (.aload_n 0, 1) := by decide +kernel
theorem dX6_least_33 : decode cX6_least 33 = .ok (.getfield 13, 3) := by decide +kernel
theorem dX6_least_36 : decode cX6_least 36 = .ok (.iload_n 1, 1) := by decide +kernel
theorem dX6_least_37 : decode cX6_least 37 = .ok (.iconst 1, 1) := by decide +kernel
theorem dX6_least_38 : decode cX6_least 38 = .ok (.iload_n 1, 1) := by decide +kernel
theorem dX6_least_39 : decode cX6_least 39 = .ok (.ishl, 1) := by decide +kernel
theorem dX6_least_40 : decode cX6_least 40 = .ok (.invokestatic 64, 3) := by decide +kernel
theorem dX6_least_43 : decode cX6_least 43 = .ok (.aload_n 0, 1) := by decide +kernel
theorem dX6_least_44 : decode cX6_least 44 = .ok (.getfield 7, 3) := by decide +kernel
theorem dX6_least_47 : decode cX6_least 47 = .ok (.iconst 1, 1) := by decide +kernel
theorem dX6_least_48 : decode cX6_least 48 = .ok (.iaload, 1) := by decide +kernel
theorem dX6_least_49 : decode cX6_least 49 = .ok (.if_icmp .lt 5, 3) := by decide +kernel
theorem dX6_least_52 : decode cX6_least 52 = .ok (.iload_n 2, 1) := by decide +kernel
theorem dX6_least_53 : decode cX6_least 53 = .ok (.ireturn, 1) := by decide +kernel
theorem dX6_least_54 : decode cX6_least 54 = .ok (.iinc 2 1, 3) := by decide +kernel
theorem dX6_least_57 : decode cX6_least 57 = .ok (.goto (-42), 3) := by decide +kernel
theorem dX6_least_60 : decode cX6_least 60 = .ok (.iconst (-1), 1) := by decide +kernel
theorem dX6_least_61 : decode cX6_least 61 = .ok (.ireturn, 1) := by decide +kernel
theorem dX6_leastPressure_0 : decode cX6_leastPressure 0 = .ok (.aload_n 0, 1) := by decide +kernel
theorem dX6_leastPressure_1 : decode cX6_leastPressure 1 = .ok (.iconst 0, 1) := by decide +kernel
theorem dX6_leastPressure_2 : decode cX6_leastPressure 2 = .ok (.putfield 28, 3) := by decide +kernel
theorem dX6_leastPressure_5 : decode cX6_leastPressure 5 = .ok (.iload_n 1, 1) := by decide +kernel
theorem dX6_leastPressure_6 : decode cX6_leastPressure 6 = .ok (.invokestatic 90, 3) := by decide +kernel
theorem dX6_leastPressure_9 : decode cX6_leastPressure 9 = .ok (.ifCond .eq 11, 3) := by decide +kernel
theorem dX6_leastPressure_12 : decode cX6_leastPressure 12 = .ok (.aload_n 0, 1) := by decide +kernel
theorem dX6_leastPressure_13 : decode cX6_leastPressure 13 = .ok (.iload_n 1, 1) := by decide +kernel
theorem dX6_leastPressure_14 : decode cX6_leastPressure 14 = .ok (.invokevirtual 153, 3) := by decide +kernel
theorem dX6_leastPressure_17 : decode cX6_leastPressure 17 = .ok (.goto 8, 3) := by decide +kernel
theorem dX6_leastPressure_20 : decode cX6_leastPressure 20 = .ok (.aload_n 0, 1) := by decide +kernel
theorem dX6_leastPressure_21 : decode cX6_leastPressure 21 = .ok (.iconst 1, 1) := by decide +kernel
theorem dX6_leastPressure_22 : decode cX6_leastPressure 22 = .ok (.invokevirtual 43, 3) := by decide +kernel
theorem dX6_leastPressure_25 : decode cX6_leastPressure 25 = .ok (.ireturn, 1) := by decide +kernel
theorem dX6_share_0 : decode cX6_share 0 = .ok (.bipush 12, 2) := by decide +kernel
theorem dX6_share_2 : decode cX6_share 2 = .ok (.aload_n 0, 1) := by decide +kernel
theorem dX6_share_3 : decode cX6_share 3 = .ok (.getfield 7, 3) := by decide +kernel
theorem dX6_share_6 : decode cX6_share 6 = .ok (.invokestatic 137, 3) := by decide +kernel
theorem dX6_share_9 : decode cX6_share 9 = .ok (.isub, 1) := by decide +kernel
theorem dX6_share_10 : decode cX6_share 10 = .ok (.i2d, 1) := by decide +kernel
theorem dX6_share_11 : decode cX6_share 11 = .ok (.ldc2_w 156, 3) := by decide +kernel
theorem dX6_share_14 : decode cX6_share 14 = .ok (.ddiv, 1) := by decide +kernel
theorem dX6_share_15 : decode cX6_share 15 = .ok (.dreturn, 1) := by decide +kernel
theorem dX6_cleanShare_0 : decode cX6_cleanShare 0 = .ok (.aload_n 0, 1) := by decide +kernel
theorem dX6_cleanShare_1 : decode cX6_cleanShare 1 = .ok (.iconst 0, 1) := by decide +kernel
theorem dX6_cleanShare_2 : decode cX6_cleanShare 2 = .ok (.putfield 28, 3) := by decide +kernel
theorem dX6_cleanShare_5 : decode cX6_cleanShare 5 = .ok (.aload_n 0, 1) := by decide +kernel
theorem dX6_cleanShare_6 : decode cX6_cleanShare 6 = .ok (.invokevirtual 158, 3) := by decide +kernel
theorem dX6_cleanShare_9 : decode cX6_cleanShare 9 = .ok (.dreturn, 1) := by decide +kernel
theorem dX6_digest_0 : decode cX6_digest 0 = .ok (.aload_n 0, 1) := by decide +kernel
theorem dX6_digest_1 : decode cX6_digest 1 = .ok (.iconst 0, 1) := by decide +kernel
theorem dX6_digest_2 : decode cX6_digest 2 = .ok (.putfield 28, 3) := by decide +kernel
theorem dX6_digest_5 : decode cX6_digest 5 = .ok (.ldc2_w 162, 3) := by decide +kernel
theorem dX6_digest_8 : decode cX6_digest 8 = .ok (.lstore_n 1, 1) := by decide +kernel
theorem dX6_digest_9 : decode cX6_digest 9 = .ok (.iconst 0, 1) := by decide +kernel
theorem dX6_digest_10 : decode cX6_digest 10 = .ok (.istore_n 3, 1) := by decide +kernel
theorem dX6_digest_11 : decode cX6_digest 11 = .ok (.iload_n 3, 1) := by decide +kernel
theorem dX6_digest_12 : decode cX6_digest 12 = .ok (.bipush 9, 2) := by decide +kernel
theorem dX6_digest_14 : decode cX6_digest 14 = .ok (.if_icmp .ge 22, 3) := by decide +kernel
theorem dX6_digest_17 : decode cX6_digest 17 = .ok (.ldc2_w 164, 3) := by decide +kernel
theorem dX6_digest_20 : decode cX6_digest 20 = .ok (.lload_n 1, 1) := by decide +kernel
theorem dX6_digest_21 : decode cX6_digest 21 = .ok (.lmul, 1) := by decide +kernel
theorem dX6_digest_22 : decode cX6_digest 22 = .ok (.aload_n 0, 1) := by decide +kernel
theorem dX6_digest_23 : decode cX6_digest 23 = .ok (.iload_n 3, 1) := by decide +kernel
theorem dX6_digest_24 : decode cX6_digest 24 = .ok (.invokevirtual 140, 3) := by decide +kernel
theorem dX6_digest_27 : decode cX6_digest 27 = .ok (.i2l, 1) := by decide +kernel
theorem dX6_digest_28 : decode cX6_digest 28 = .ok (.ladd, 1) := by decide +kernel
theorem dX6_digest_29 : decode cX6_digest 29 = .ok (.lstore_n 1, 1) := by decide +kernel
theorem dX6_digest_30 : decode cX6_digest 30 = .ok (.iinc 3 1, 3) := by decide +kernel
theorem dX6_digest_33 : decode cX6_digest 33 = .ok (.goto (-22), 3) := by decide +kernel
theorem dX6_digest_36 : decode cX6_digest 36 = .ok (.iconst 0, 1) := by decide +kernel
theorem dX6_digest_37 : decode cX6_digest 37 = .ok (.istore_n 3, 1) := by decide +kernel
theorem dX6_digest_38 : decode cX6_digest 38 = .ok (.iload_n 3, 1) := by decide +kernel
theorem dX6_digest_39 : decode cX6_digest 39 = .ok (.bipush 9, 2) := by decide +kernel
theorem dX6_digest_41 : decode cX6_digest 41 = .ok (.if_icmp .ge 23, 3) := by decide +kernel
theorem dX6_digest_44 : decode cX6_digest 44 = .ok (.ldc2_w 164, 3) := by decide +kernel
theorem dX6_digest_47 : decode cX6_digest 47 = .ok (.lload_n 1, 1) := by decide +kernel
theorem dX6_digest_48 : decode cX6_digest 48 = .ok (.lmul, 1) := by decide +kernel
theorem dX6_digest_49 : decode cX6_digest 49 = .ok (.aload_n 0, 1) := by decide +kernel
theorem dX6_digest_50 : decode cX6_digest 50 = .ok (.getfield 7, 3) := by decide +kernel
theorem dX6_digest_53 : decode cX6_digest 53 = .ok (.iload_n 3, 1) := by decide +kernel
theorem dX6_digest_54 : decode cX6_digest 54 = .ok (.iaload, 1) := by decide +kernel
theorem dX6_digest_55 : decode cX6_digest 55 = .ok (.i2l, 1) := by decide +kernel
theorem dX6_digest_56 : decode cX6_digest 56 = .ok (.ladd, 1) := by decide +kernel
theorem dX6_digest_57 : decode cX6_digest 57 = .ok (.lstore_n 1, 1) := by decide +kernel
theorem dX6_digest_58 : decode cX6_digest 58 = .ok (.iinc 3 1, 3) := by decide +kernel
theorem dX6_digest_61 : decode cX6_digest 61 = .ok (.goto (-23), 3) := by decide +kernel
theorem dX6_digest_64 : decode cX6_digest 64 = .ok (.iconst 0, 1) := by decide +kernel
theorem dX6_digest_65 : decode cX6_digest 65 = .ok (.istore_n 3, 1) := by decide +kernel
theorem dX6_digest_66 : decode cX6_digest 66 = .ok (.iload_n 3, 1) := by decide +kernel
theorem dX6_digest_67 : decode cX6_digest 67 = .ok (.bipush 12, 2) := by decide +kernel
theorem dX6_digest_69 : decode cX6_digest 69 = .ok (.if_icmp .ge 68, 3) := by decide +kernel
theorem dX6_digest_72 : decode cX6_digest 72 = .ok (.iconst 0, 1) := by decide +kernel
theorem dX6_digest_73 : decode cX6_digest 73 = .ok (.istore 4, 2) := by decide +kernel
theorem dX6_digest_75 : decode cX6_digest 75 = .ok (.iload 4, 2) := by decide +kernel
theorem dX6_digest_77 : decode cX6_digest 77 = .ok (.bipush 8, 2) := by decide +kernel
theorem dX6_digest_79 : decode cX6_digest 79 = .ok (.if_icmp .ge 24, 3) := by decide +kernel
theorem dX6_digest_82 : decode cX6_digest 82 = .ok (.ldc2_w 164, 3) := by decide +kernel
theorem dX6_digest_85 : decode cX6_digest 85 = .ok (.lload_n 1, 1) := by decide +kernel
theorem dX6_digest_86 : decode cX6_digest 86 = .ok (.lmul, 1) := by decide +kernel
theorem dX6_digest_87 : decode cX6_digest 87 = .ok (.aload_n 0, 1) := by decide +kernel
theorem dX6_digest_88 : decode cX6_digest 88 = .ok (.iload_n 3, 1) := by decide +kernel
theorem dX6_digest_89 : decode cX6_digest 89 = .ok (.iload 4, 2) := by decide +kernel
theorem dX6_digest_91 : decode cX6_digest 91 = .ok (.invokevirtual 134, 3) := by decide +kernel
theorem dX6_digest_94 : decode cX6_digest 94 = .ok (.i2l, 1) := by decide +kernel
theorem dX6_digest_95 : decode cX6_digest 95 = .ok (.ladd, 1) := by decide +kernel
theorem dX6_digest_96 : decode cX6_digest 96 = .ok (.lstore_n 1, 1) := by decide +kernel
theorem dX6_digest_97 : decode cX6_digest 97 = .ok (.iinc 4 1, 3) := by decide +kernel
theorem dX6_digest_100 : decode cX6_digest 100 = .ok (.goto (-25), 3) := by decide +kernel
theorem dX6_digest_103 : decode cX6_digest 103 = .ok (.ldc2_w 164, 3) := by decide +kernel
theorem dX6_digest_106 : decode cX6_digest 106 = .ok (.ldc2_w 164, 3) := by decide +kernel
theorem dX6_digest_109 : decode cX6_digest 109 = .ok (.lload_n 1, 1) := by decide +kernel
theorem dX6_digest_110 : decode cX6_digest 110 = .ok (.lmul, 1) := by decide +kernel
theorem dX6_digest_111 : decode cX6_digest 111 = .ok (.aload_n 0, 1) := by decide +kernel
theorem dX6_digest_112 : decode cX6_digest 112 = .ok (.getfield 7, 3) := by decide +kernel
theorem dX6_digest_115 : decode cX6_digest 115 = .ok (.iload_n 3, 1) := by decide +kernel
theorem dX6_digest_116 : decode cX6_digest 116 = .ok (.iconst 2, 1) := by decide +kernel
theorem dX6_digest_117 : decode cX6_digest 117 = .ok (.invokestatic 47, 3) := by decide +kernel
theorem dX6_digest_120 : decode cX6_digest 120 = .ok (.i2l, 1) := by decide +kernel
theorem dX6_digest_121 : decode cX6_digest 121 = .ok (.ladd, 1) := by decide +kernel
theorem dX6_digest_122 : decode cX6_digest 122 = .ok (.lmul, 1) := by decide +kernel
theorem dX6_digest_123 : decode cX6_digest 123 = .ok (.aload_n 0, 1) := by decide +kernel
theorem dX6_digest_124 : decode cX6_digest 124 = .ok (.iload_n 3, 1) := by decide +kernel
theorem dX6_digest_125 : decode cX6_digest 125 = .ok (.invokevirtual 153, 3) := by decide +kernel
theorem dX6_digest_128 : decode cX6_digest 128 = .ok (.i2l, 1) := by decide +kernel
theorem dX6_digest_129 : decode cX6_digest 129 = .ok (.ladd, 1) := by decide +kernel
theorem dX6_digest_130 : decode cX6_digest 130 = .ok (.lstore_n 1, 1) := by decide +kernel
theorem dX6_digest_131 : decode cX6_digest 131 = .ok (.iinc 3 1, 3) := by decide +kernel
theorem dX6_digest_134 : decode cX6_digest 134 = .ok (.goto (-68), 3) := by decide +kernel
theorem dX6_digest_137 : decode cX6_digest 137 = .ok (.aload_n 0, 1) := by decide +kernel
theorem dX6_digest_138 : decode cX6_digest 138 = .ok (.aload_n 0, 1) := by decide +kernel
theorem dX6_digest_139 : decode cX6_digest 139 = .ok (.getfield 7, 3) := by decide +kernel
theorem dX6_digest_142 : decode cX6_digest 142 = .ok (.invokevirtual 71, 3) := by decide +kernel
theorem dX6_digest_145 : decode cX6_digest 145 = .ok (.iconst 0, 1) := by decide +kernel
theorem dX6_digest_146 : decode cX6_digest 146 = .ok (.istore_n 3, 1) := by decide +kernel
theorem dX6_digest_147 : decode cX6_digest 147 = .ok (.iload_n 3, 1) := by decide +kernel
theorem dX6_digest_148 : decode cX6_digest 148 = .ok (.iconst 3, 1) := by decide +kernel
theorem dX6_digest_149 : decode cX6_digest 149 = .ok (.if_icmp .ge 72, 3) := by decide +kernel
theorem dX6_digest_152 : decode cX6_digest 152 = .ok (.ldc2_w 164, 3) := by decide +kernel
theorem dX6_digest_155 : decode cX6_digest 155 = .ok (.lload_n 1, 1) := by decide +kernel
theorem dX6_digest_156 : decode cX6_digest 156 = .ok (.lmul, 1) := by decide +kernel
theorem dX6_digest_157 : decode cX6_digest 157 = .ok (.aload_n 0, 1) := by decide +kernel
theorem dX6_digest_158 : decode cX6_digest 158 = .ok (.getfield 25, 3) := by decide +kernel
theorem dX6_digest_161 : decode cX6_digest 161 = .ok (.iload_n 3, 1) := by decide +kernel
theorem dX6_digest_162 : decode cX6_digest 162 = .ok (.iaload, 1) := by decide +kernel
theorem dX6_digest_163 : decode cX6_digest 163 = .ok (.i2l, 1) := by decide +kernel
theorem dX6_digest_164 : decode cX6_digest 164 = .ok (.ladd, 1) := by decide +kernel
theorem dX6_digest_165 : decode cX6_digest 165 = .ok (.lstore_n 1, 1) := by decide +kernel
theorem dX6_digest_166 : decode cX6_digest 166 = .ok (.iconst 1, 1) := by decide +kernel
theorem dX6_digest_167 : decode cX6_digest 167 = .ok (.istore 4, 2) := by decide +kernel
theorem dX6_digest_169 : decode cX6_digest 169 = .ok (.iload 4, 2) := by decide +kernel
theorem dX6_digest_171 : decode cX6_digest 171 = .ok (.aload_n 0, 1) := by decide +kernel
theorem dX6_digest_172 : decode cX6_digest 172 = .ok (.getfield 7, 3) := by decide +kernel
theorem dX6_digest_175 : decode cX6_digest 175 = .ok (.bipush 84, 2) := by decide +kernel
theorem dX6_digest_177 : decode cX6_digest 177 = .ok (.bipush 9, 2) := by decide +kernel
theorem dX6_digest_179 : decode cX6_digest 179 = .ok (.iload_n 3, 1) := by decide +kernel
theorem dX6_digest_180 : decode cX6_digest 180 = .ok (.imul, 1) := by decide +kernel
theorem dX6_digest_181 : decode cX6_digest 181 = .ok (.iadd, 1) := by decide +kernel
theorem dX6_digest_182 : decode cX6_digest 182 = .ok (.iaload, 1) := by decide +kernel
theorem dX6_digest_183 : decode cX6_digest 183 = .ok (.if_icmp .gt 32, 3) := by decide +kernel
theorem dX6_digest_186 : decode cX6_digest 186 = .ok (.ldc2_w 164, 3) := by decide +kernel
theorem dX6_digest_189 : decode cX6_digest 189 = .ok (.lload_n 1, 1) := by decide +kernel
theorem dX6_digest_190 : decode cX6_digest 190 = .ok (.lmul, 1) := by decide +kernel
theorem dX6_digest_191 : decode cX6_digest 191 = .ok (.aload_n 0, 1) := by decide +kernel
theorem dX6_digest_192 : decode cX6_digest 192 = .ok (.getfield 7, 3) := by decide +kernel
theorem dX6_digest_195 : decode cX6_digest 195 = .ok (.bipush 84, 2) := by decide +kernel
theorem dX6_digest_197 : decode cX6_digest 197 = .ok (.bipush 9, 2) := by decide +kernel
theorem dX6_digest_199 : decode cX6_digest 199 = .ok (.iload_n 3, 1) := by decide +kernel
theorem dX6_digest_200 : decode cX6_digest 200 = .ok (.imul, 1) := by decide +kernel
theorem dX6_digest_201 : decode cX6_digest 201 = .ok (.iadd, 1) := by decide +kernel
theorem dX6_digest_202 : decode cX6_digest 202 = .ok (.iload 4, 2) := by decide +kernel
theorem dX6_digest_204 : decode cX6_digest 204 = .ok (.iadd, 1) := by decide +kernel
theorem dX6_digest_205 : decode cX6_digest 205 = .ok (.iaload, 1) := by decide +kernel
theorem dX6_digest_206 : decode cX6_digest 206 = .ok (.i2l, 1) := by decide +kernel
theorem dX6_digest_207 : decode cX6_digest 207 = .ok (.ladd, 1) := by decide +kernel
theorem dX6_digest_208 : decode cX6_digest 208 = .ok (.lstore_n 1, 1) := by decide +kernel
theorem dX6_digest_209 : decode cX6_digest 209 = .ok (.iinc 4 1, 3) := by decide +kernel
theorem dX6_digest_212 : decode cX6_digest 212 = .ok (.goto (-43), 3) := by decide +kernel
theorem dX6_digest_215 : decode cX6_digest 215 = .ok (.iinc 3 1, 3) := by decide +kernel
theorem dX6_digest_218 : decode cX6_digest 218 = .ok (.goto (-71), 3) := by decide +kernel
theorem dX6_digest_221 : decode cX6_digest 221 = .ok (.iconst 0, 1) := by decide +kernel
theorem dX6_digest_222 : decode cX6_digest 222 = .ok (.istore_n 3, 1) := by decide +kernel
theorem dX6_digest_223 : decode cX6_digest 223 = .ok (.iload_n 3, 1) := by decide +kernel
theorem dX6_digest_224 : decode cX6_digest 224 = .ok (.iconst 4, 1) := by decide +kernel
theorem dX6_digest_225 : decode cX6_digest 225 = .ok (.if_icmp .ge 24, 3) := by decide +kernel
theorem dX6_digest_228 : decode cX6_digest 228 = .ok (.ldc2_w 164, 3) := by decide +kernel
theorem dX6_digest_231 : decode cX6_digest 231 = .ok (.lload_n 1, 1) := by decide +kernel
theorem dX6_digest_232 : decode cX6_digest 232 = .ok (.lmul, 1) := by decide +kernel
theorem dX6_digest_233 : decode cX6_digest 233 = .ok (.aload_n 0, 1) := by decide +kernel
theorem dX6_digest_234 : decode cX6_digest 234 = .ok (.bipush 6, 2) := by decide +kernel
theorem dX6_digest_236 : decode cX6_digest 236 = .ok (.iload_n 3, 1) := by decide +kernel
theorem dX6_digest_237 : decode cX6_digest 237 = .ok (.invokevirtual 143, 3) := by decide +kernel
theorem dX6_digest_240 : decode cX6_digest 240 = .ok (.i2l, 1) := by decide +kernel
theorem dX6_digest_241 : decode cX6_digest 241 = .ok (.ladd, 1) := by decide +kernel
theorem dX6_digest_242 : decode cX6_digest 242 = .ok (.lstore_n 1, 1) := by decide +kernel
theorem dX6_digest_243 : decode cX6_digest 243 = .ok (.iinc 3 1, 3) := by decide +kernel
theorem dX6_digest_246 : decode cX6_digest 246 = .ok (.goto (-23), 3) := by decide +kernel
theorem dX6_digest_249 : decode cX6_digest 249 = .ok (.ldc2_w 164, 3) := by decide +kernel
theorem dX6_digest_252 : decode cX6_digest 252 = .ok (.ldc2_w 164, 3) := by decide +kernel
theorem dX6_digest_255 : decode cX6_digest 255 = .ok (.lload_n 1, 1) := by decide +kernel
theorem dX6_digest_256 : decode cX6_digest 256 = .ok (.lmul, 1) := by decide +kernel
theorem dX6_digest_257 : decode cX6_digest 257 = .ok (.aload_n 0, 1) := by decide +kernel
theorem dX6_digest_258 : decode cX6_digest 258 = .ok (.invokevirtual 146, 3) := by decide +kernel
theorem dX6_digest_261 : decode cX6_digest 261 = .ok (.i2l, 1) := by decide +kernel
theorem dX6_digest_262 : decode cX6_digest 262 = .ok (.ladd, 1) := by decide +kernel
theorem dX6_digest_263 : decode cX6_digest 263 = .ok (.lmul, 1) := by decide +kernel
theorem dX6_digest_264 : decode cX6_digest 264 = .ok (.aload_n 0, 1) := by decide +kernel
theorem dX6_digest_265 : decode cX6_digest 265 = .ok (.invokevirtual 150, 3) := by decide +kernel
theorem dX6_digest_268 : decode cX6_digest 268 = .ok (.i2l, 1) := by decide +kernel
theorem dX6_digest_269 : decode cX6_digest 269 = .ok (.ladd, 1) := by decide +kernel
theorem dX6_digest_270 : decode cX6_digest 270 = .ok (.lstore_n 1, 1) := by decide +kernel
theorem dX6_digest_271 : decode cX6_digest 271 = .ok (.ldc2_w 164, 3) := by decide +kernel
theorem dX6_digest_274 : decode cX6_digest 274 = .ok (.ldc2_w 164, 3) := by decide +kernel
theorem dX6_digest_277 : decode cX6_digest 277 = .ok (.lload_n 1, 1) := by decide +kernel
theorem dX6_digest_278 : decode cX6_digest 278 = .ok (.lmul, 1) := by decide +kernel
theorem dX6_digest_279 : decode cX6_digest 279 = .ok (.aload_n 0, 1) := by decide +kernel
theorem dX6_digest_280 : decode cX6_digest 280 = .ok (.invokevirtual 158, 3) := by decide +kernel
theorem dX6_digest_283 : decode cX6_digest 283 = .ok (.invokestatic 166, 3) := by decide +kernel
theorem dX6_digest_286 : decode cX6_digest 286 = .ok (.ladd, 1) := by decide +kernel
theorem dX6_digest_287 : decode cX6_digest 287 = .ok (.lmul, 1) := by decide +kernel
theorem dX6_digest_288 : decode cX6_digest 288 = .ok (.aload_n 0, 1) := by decide +kernel
theorem dX6_digest_289 : decode cX6_digest 289 = .ok (.getfield 107, 3) := by decide +kernel
theorem dX6_digest_292 : decode cX6_digest 292 = .ok (.i2l, 1) := by decide +kernel
theorem dX6_digest_293 : decode cX6_digest 293 = .ok (.ladd, 1) := by decide +kernel
theorem dX6_digest_294 : decode cX6_digest 294 = .ok (.lstore_n 1, 1) := by decide +kernel
theorem dX6_digest_295 : decode cX6_digest 295 = .ok (.iconst 0, 1) := by decide +kernel
theorem dX6_digest_296 : decode cX6_digest 296 = .ok (.istore_n 3, 1) := by decide +kernel
theorem dX6_digest_297 : decode cX6_digest 297 = .ok (.iload_n 3, 1) := by decide +kernel
theorem dX6_digest_298 : decode cX6_digest 298 = .ok (.aload_n 0, 1) := by decide +kernel
theorem dX6_digest_299 : decode cX6_digest 299 = .ok (.getfield 107, 3) := by decide +kernel
theorem dX6_digest_302 : decode cX6_digest 302 = .ok (.if_icmp .ge 23, 3) := by decide +kernel
theorem dX6_digest_305 : decode cX6_digest 305 = .ok (.ldc2_w 164, 3) := by decide +kernel
theorem dX6_digest_308 : decode cX6_digest 308 = .ok (.lload_n 1, 1) := by decide +kernel
theorem dX6_digest_309 : decode cX6_digest 309 = .ok (.lmul, 1) := by decide +kernel
theorem dX6_digest_310 : decode cX6_digest 310 = .ok (.aload_n 0, 1) := by decide +kernel
theorem dX6_digest_311 : decode cX6_digest 311 = .ok (.getfield 19, 3) := by decide +kernel
theorem dX6_digest_314 : decode cX6_digest 314 = .ok (.iload_n 3, 1) := by decide +kernel
theorem dX6_digest_315 : decode cX6_digest 315 = .ok (.iaload, 1) := by decide +kernel
theorem dX6_digest_316 : decode cX6_digest 316 = .ok (.i2l, 1) := by decide +kernel
theorem dX6_digest_317 : decode cX6_digest 317 = .ok (.ladd, 1) := by decide +kernel
theorem dX6_digest_318 : decode cX6_digest 318 = .ok (.lstore_n 1, 1) := by decide +kernel
theorem dX6_digest_319 : decode cX6_digest 319 = .ok (.iinc 3 1, 3) := by decide +kernel
theorem dX6_digest_322 : decode cX6_digest 322 = .ok (.goto (-25), 3) := by decide +kernel
theorem dX6_digest_325 : decode cX6_digest 325 = .ok (.lload_n 1, 1) := by decide +kernel
theorem dX6_digest_326 : decode cX6_digest 326 = .ok (.lreturn, 1) := by decide +kernel
theorem dJxe99ae_isNaN_b9ae7_0 : decode cJxe99ae_isNaN_b9ae7 0 = .ok (.dload_n 0, 1) := by decide +kernel
theorem dJxe99ae_isNaN_b9ae7_1 : decode cJxe99ae_isNaN_b9ae7 1 = .ok (.dload_n 0, 1) := by decide +kernel
theorem dJxe99ae_isNaN_b9ae7_2 : decode cJxe99ae_isNaN_b9ae7 2 = .ok (.dcmp .l, 1) := by decide +kernel
theorem dJxe99ae_isNaN_b9ae7_3 : decode cJxe99ae_isNaN_b9ae7 3 = .ok (.ifCond .eq 7, 3) := by decide +kernel
theorem dJxe99ae_isNaN_b9ae7_6 : decode cJxe99ae_isNaN_b9ae7 6 = .ok (.iconst 1, 1) := by decide +kernel
theorem dJxe99ae_isNaN_b9ae7_7 : decode cJxe99ae_isNaN_b9ae7 7 = .ok (.goto 4, 3) := by decide +kernel
theorem dJxe99ae_isNaN_b9ae7_10 : decode cJxe99ae_isNaN_b9ae7 10 = .ok (.iconst 0, 1) := by decide +kernel
theorem dJxe99ae_isNaN_b9ae7_11 : decode cJxe99ae_isNaN_b9ae7 11 = .ok (.ireturn, 1) := by decide +kernel
theorem dJxe99ae_doubleToLongBits_ccdee_0 : decode cJxe99ae_doubleToLongBits_ccdee 0 = .ok (.dload_n 0, 1) := by decide +kernel
theorem dJxe99ae_doubleToLongBits_ccdee_1 : decode cJxe99ae_doubleToLongBits_ccdee 1 = .ok (.invokestatic 122, 3) := by decide +kernel
theorem dJxe99ae_doubleToLongBits_ccdee_4 : decode cJxe99ae_doubleToLongBits_ccdee 4 = .ok (.ifCond .ne 8, 3) := by decide +kernel
theorem dJxe99ae_doubleToLongBits_ccdee_7 : decode cJxe99ae_doubleToLongBits_ccdee 7 = .ok (.dload_n 0, 1) := by decide +kernel
theorem dJxe99ae_doubleToLongBits_ccdee_8 : decode cJxe99ae_doubleToLongBits_ccdee 8 = .ok (.invokestatic 134, 3) := by decide +kernel
theorem dJxe99ae_doubleToLongBits_ccdee_11 : decode cJxe99ae_doubleToLongBits_ccdee 11 = .ok (.lreturn, 1) := by decide +kernel
theorem dJxe99ae_doubleToLongBits_ccdee_12 : decode cJxe99ae_doubleToLongBits_ccdee 12 = .ok (.ldc2_w 137, 3) := by decide +kernel
theorem dJxe99ae_doubleToLongBits_ccdee_15 : decode cJxe99ae_doubleToLongBits_ccdee 15 = .ok (.lreturn, 1) := by decide +kernel
theorem dJ9_min_7cf53_0 : decode cJ9_min_7cf53 0 = .ok (.iload_n 0, 1) := by decide +kernel
theorem dJ9_min_7cf53_1 : decode cJ9_min_7cf53 1 = .ok (.iload_n 1, 1) := by decide +kernel
theorem dJ9_min_7cf53_2 : decode cJ9_min_7cf53 2 = .ok (.if_icmp .gt 7, 3) := by decide +kernel
theorem dJ9_min_7cf53_5 : decode cJ9_min_7cf53 5 = .ok (.iload_n 0, 1) := by decide +kernel
theorem dJ9_min_7cf53_6 : decode cJ9_min_7cf53 6 = .ok (.goto 4, 3) := by decide +kernel
theorem dJ9_min_7cf53_9 : decode cJ9_min_7cf53 9 = .ok (.iload_n 1, 1) := by decide +kernel
theorem dJ9_min_7cf53_10 : decode cJ9_min_7cf53 10 = .ok (.ireturn, 1) := by decide +kernel
theorem dJ7_fill_53178_0 : decode cJ7_fill_53178 0 = .ok (.iconst 0, 1) := by decide +kernel
theorem dJ7_fill_53178_1 : decode cJ7_fill_53178 1 = .ok (.istore_n 2, 1) := by decide +kernel
theorem dJ7_fill_53178_2 : decode cJ7_fill_53178 2 = .ok (.aload_n 0, 1) := by decide +kernel
theorem dJ7_fill_53178_3 : decode cJ7_fill_53178 3 = .ok (.arraylength, 1) := by decide +kernel
theorem dJ7_fill_53178_4 : decode cJ7_fill_53178 4 = .ok (.istore_n 3, 1) := by decide +kernel
theorem dJ7_fill_53178_5 : decode cJ7_fill_53178 5 = .ok (.iload_n 2, 1) := by decide +kernel
theorem dJ7_fill_53178_6 : decode cJ7_fill_53178 6 = .ok (.iload_n 3, 1) := by decide +kernel
theorem dJ7_fill_53178_7 : decode cJ7_fill_53178 7 = .ok (.if_icmp .ge 13, 3) := by decide +kernel
theorem dJ7_fill_53178_10 : decode cJ7_fill_53178 10 = .ok (.aload_n 0, 1) := by decide +kernel
theorem dJ7_fill_53178_11 : decode cJ7_fill_53178 11 = .ok (.iload_n 2, 1) := by decide +kernel
theorem dJ7_fill_53178_12 : decode cJ7_fill_53178 12 = .ok (.iload_n 1, 1) := by decide +kernel
theorem dJ7_fill_53178_13 : decode cJ7_fill_53178 13 = .ok (.iastore, 1) := by decide +kernel
theorem dJ7_fill_53178_14 : decode cJ7_fill_53178 14 = .ok (.iinc 2 1, 3) := by decide +kernel
theorem dJ7_fill_53178_17 : decode cJ7_fill_53178 17 = .ok (.goto (-12), 3) := by decide +kernel
theorem dJ7_fill_53178_20 : decode cJ7_fill_53178 20 = .ok (.return_, 1) := by decide +kernel
theorem dL_pressure_0 : decode cL_pressure 0 = .ok (.aload_n 3, 1) := by decide +kernel
theorem dL_pressure_1 : decode cL_pressure 1 = .ok (.iconst 0, 1) := by decide +kernel
theorem dL_pressure_2 : decode cL_pressure 2 = .ok (.aload_n 0, 1) := by decide +kernel
theorem dL_pressure_3 : decode cL_pressure 3 = .ok (.iload_n 1, 1) := by decide +kernel
theorem dL_pressure_4 : decode cL_pressure 4 = .ok (.iload_n 2, 1) := by decide +kernel
theorem dL_pressure_5 : decode cL_pressure 5 = .ok (.invokevirtual 7, 3) := by decide +kernel
theorem dL_pressure_8 : decode cL_pressure 8 = .ok (.i2l, 1) := by decide +kernel
theorem dL_pressure_9 : decode cL_pressure 9 = .ok (.lastore, 1) := by decide +kernel
theorem dL_pressure_10 : decode cL_pressure 10 = .ok (.goto 11, 3) := by decide +kernel
theorem dL_pressure_13 : decode cL_pressure 13 = .ok (.astore 4, 2) := by decide +kernel
theorem dL_pressure_15 : decode cL_pressure 15 = .ok (.iconst 1, 1) := by decide +kernel
theorem dL_pressure_16 : decode cL_pressure 16 = .ok (.ireturn, 1) := by decide +kernel
theorem dL_pressure_17 : decode cL_pressure 17 = .ok (.astore 4, 2) := by decide +kernel
theorem dL_pressure_19 : decode cL_pressure 19 = .ok (.iconst 2, 1) := by decide +kernel
theorem dL_pressure_20 : decode cL_pressure 20 = .ok (.ireturn, 1) := by decide +kernel
theorem dL_pressure_21 : decode cL_pressure 21 = .ok (.iconst 0, 1) := by decide +kernel
theorem dL_pressure_22 : decode cL_pressure 22 = .ok (.ireturn, 1) := by decide +kernel
theorem dL_valve_0 : decode cL_valve 0 = .ok (.aload_n 3, 1) := by decide +kernel
theorem dL_valve_1 : decode cL_valve 1 = .ok (.iconst 0, 1) := by decide +kernel
theorem dL_valve_2 : decode cL_valve 2 = .ok (.aload_n 0, 1) := by decide +kernel
theorem dL_valve_3 : decode cL_valve 3 = .ok (.iload_n 1, 1) := by decide +kernel
theorem dL_valve_4 : decode cL_valve 4 = .ok (.iload_n 2, 1) := by decide +kernel
theorem dL_valve_5 : decode cL_valve 5 = .ok (.invokevirtual 17, 3) := by decide +kernel
theorem dL_valve_8 : decode cL_valve 8 = .ok (.i2l, 1) := by decide +kernel
theorem dL_valve_9 : decode cL_valve 9 = .ok (.lastore, 1) := by decide +kernel
theorem dL_valve_10 : decode cL_valve 10 = .ok (.goto 7, 3) := by decide +kernel
theorem dL_valve_13 : decode cL_valve 13 = .ok (.astore 4, 2) := by decide +kernel
theorem dL_valve_15 : decode cL_valve 15 = .ok (.iconst 1, 1) := by decide +kernel
theorem dL_valve_16 : decode cL_valve 16 = .ok (.ireturn, 1) := by decide +kernel
theorem dL_valve_17 : decode cL_valve 17 = .ok (.iconst 0, 1) := by decide +kernel
theorem dL_valve_18 : decode cL_valve 18 = .ok (.ireturn, 1) := by decide +kernel
theorem dL_dirt_0 : decode cL_dirt 0 = .ok (.aload_n 3, 1) := by decide +kernel
theorem dL_dirt_1 : decode cL_dirt 1 = .ok (.iconst 0, 1) := by decide +kernel
theorem dL_dirt_2 : decode cL_dirt 2 = .ok (.aload_n 0, 1) := by decide +kernel
theorem dL_dirt_3 : decode cL_dirt 3 = .ok (.iload_n 1, 1) := by decide +kernel
theorem dL_dirt_4 : decode cL_dirt 4 = .ok (.iload_n 2, 1) := by decide +kernel
theorem dL_dirt_5 : decode cL_dirt 5 = .ok (.invokevirtual 21, 3) := by decide +kernel
theorem dL_dirt_8 : decode cL_dirt 8 = .ok (.i2l, 1) := by decide +kernel
theorem dL_dirt_9 : decode cL_dirt 9 = .ok (.lastore, 1) := by decide +kernel
theorem dL_dirt_10 : decode cL_dirt 10 = .ok (.goto 11, 3) := by decide +kernel
theorem dL_dirt_13 : decode cL_dirt 13 = .ok (.astore 4, 2) := by decide +kernel
theorem dL_dirt_15 : decode cL_dirt 15 = .ok (.iconst 1, 1) := by decide +kernel
theorem dL_dirt_16 : decode cL_dirt 16 = .ok (.ireturn, 1) := by decide +kernel
theorem dL_dirt_17 : decode cL_dirt 17 = .ok (.astore 4, 2) := by decide +kernel
theorem dL_dirt_19 : decode cL_dirt 19 = .ok (.iconst 2, 1) := by decide +kernel
theorem dL_dirt_20 : decode cL_dirt 20 = .ok (.ireturn, 1) := by decide +kernel
theorem dL_dirt_21 : decode cL_dirt 21 = .ok (.iconst 0, 1) := by decide +kernel
theorem dL_dirt_22 : decode cL_dirt 22 = .ok (.ireturn, 1) := by decide +kernel
theorem dL_hydrant_0 : decode cL_hydrant 0 = .ok (.aload_n 3, 1) := by decide +kernel
theorem dL_hydrant_1 : decode cL_hydrant 1 = .ok (.iconst 0, 1) := by decide +kernel
theorem dL_hydrant_2 : decode cL_hydrant 2 = .ok (.aload_n 0, 1) := by decide +kernel
theorem dL_hydrant_3 : decode cL_hydrant 3 = .ok (.iload_n 1, 1) := by decide +kernel
theorem dL_hydrant_4 : decode cL_hydrant 4 = .ok (.iload_n 2, 1) := by decide +kernel
theorem dL_hydrant_5 : decode cL_hydrant 5 = .ok (.invokevirtual 24, 3) := by decide +kernel
theorem dL_hydrant_8 : decode cL_hydrant 8 = .ok (.i2l, 1) := by decide +kernel
theorem dL_hydrant_9 : decode cL_hydrant 9 = .ok (.lastore, 1) := by decide +kernel
theorem dL_hydrant_10 : decode cL_hydrant 10 = .ok (.goto 11, 3) := by decide +kernel
theorem dL_hydrant_13 : decode cL_hydrant 13 = .ok (.astore 4, 2) := by decide +kernel
theorem dL_hydrant_15 : decode cL_hydrant 15 = .ok (.iconst 1, 1) := by decide +kernel
theorem dL_hydrant_16 : decode cL_hydrant 16 = .ok (.ireturn, 1) := by decide +kernel
theorem dL_hydrant_17 : decode cL_hydrant 17 = .ok (.astore 4, 2) := by decide +kernel
theorem dL_hydrant_19 : decode cL_hydrant 19 = .ok (.iconst 2, 1) := by decide +kernel
theorem dL_hydrant_20 : decode cL_hydrant 20 = .ok (.ireturn, 1) := by decide +kernel
theorem dL_hydrant_21 : decode cL_hydrant 21 = .ok (.iconst 0, 1) := by decide +kernel
theorem dL_hydrant_22 : decode cL_hydrant 22 = .ok (.ireturn, 1) := by decide +kernel
theorem dL_send_0 : decode cL_send 0 = .ok (.aload_n 3, 1) := by decide +kernel
theorem dL_send_1 : decode cL_send 1 = .ok (.iconst 0, 1) := by decide +kernel
theorem dL_send_2 : decode cL_send 2 = .ok (.aload_n 0, 1) := by decide +kernel
theorem dL_send_3 : decode cL_send 3 = .ok (.iload_n 1, 1) := by decide +kernel
theorem dL_send_4 : decode cL_send 4 = .ok (.iload_n 2, 1) := by decide +kernel
theorem dL_send_5 : decode cL_send 5 = .ok (.invokevirtual 27, 3) := by decide +kernel
theorem dL_send_8 : decode cL_send 8 = .ok (.i2l, 1) := by decide +kernel
theorem dL_send_9 : decode cL_send 9 = .ok (.lastore, 1) := by decide +kernel
theorem dL_send_10 : decode cL_send 10 = .ok (.goto 11, 3) := by decide +kernel
theorem dL_send_13 : decode cL_send 13 = .ok (.astore 4, 2) := by decide +kernel
theorem dL_send_15 : decode cL_send 15 = .ok (.iconst 1, 1) := by decide +kernel
theorem dL_send_16 : decode cL_send 16 = .ok (.ireturn, 1) := by decide +kernel
theorem dL_send_17 : decode cL_send 17 = .ok (.astore 4, 2) := by decide +kernel
theorem dL_send_19 : decode cL_send 19 = .ok (.iconst 2, 1) := by decide +kernel
theorem dL_send_20 : decode cL_send 20 = .ok (.ireturn, 1) := by decide +kernel
theorem dL_send_21 : decode cL_send 21 = .ok (.iconst 0, 1) := by decide +kernel
theorem dL_send_22 : decode cL_send 22 = .ok (.ireturn, 1) := by decide +kernel
theorem dL_skip_0 : decode cL_skip 0 = .ok (.aload_n 2, 1) := by decide +kernel
theorem dL_skip_1 : decode cL_skip 1 = .ok (.iconst 0, 1) := by decide +kernel
theorem dL_skip_2 : decode cL_skip 2 = .ok (.aload_n 0, 1) := by decide +kernel
theorem dL_skip_3 : decode cL_skip 3 = .ok (.iload_n 1, 1) := by decide +kernel
theorem dL_skip_4 : decode cL_skip 4 = .ok (.invokevirtual 32, 3) := by decide +kernel
theorem dL_skip_7 : decode cL_skip 7 = .ok (.i2l, 1) := by decide +kernel
theorem dL_skip_8 : decode cL_skip 8 = .ok (.lastore, 1) := by decide +kernel
theorem dL_skip_9 : decode cL_skip 9 = .ok (.goto 6, 3) := by decide +kernel
theorem dL_skip_12 : decode cL_skip 12 = .ok (.astore_n 3, 1) := by decide +kernel
theorem dL_skip_13 : decode cL_skip 13 = .ok (.iconst 1, 1) := by decide +kernel
theorem dL_skip_14 : decode cL_skip 14 = .ok (.ireturn, 1) := by decide +kernel
theorem dL_skip_15 : decode cL_skip 15 = .ok (.iconst 0, 1) := by decide +kernel
theorem dL_skip_16 : decode cL_skip 16 = .ok (.ireturn, 1) := by decide +kernel
theorem dL_set_0 : decode cL_set 0 = .ok (.aload_n 3, 1) := by decide +kernel
theorem dL_set_1 : decode cL_set 1 = .ok (.iconst 0, 1) := by decide +kernel
theorem dL_set_2 : decode cL_set 2 = .ok (.aload_n 0, 1) := by decide +kernel
theorem dL_set_3 : decode cL_set 3 = .ok (.iload_n 1, 1) := by decide +kernel
theorem dL_set_4 : decode cL_set 4 = .ok (.iload_n 2, 1) := by decide +kernel
theorem dL_set_5 : decode cL_set 5 = .ok (.invokevirtual 36, 3) := by decide +kernel
theorem dL_set_8 : decode cL_set 8 = .ok (.i2l, 1) := by decide +kernel
theorem dL_set_9 : decode cL_set 9 = .ok (.lastore, 1) := by decide +kernel
theorem dL_set_10 : decode cL_set 10 = .ok (.goto 11, 3) := by decide +kernel
theorem dL_set_13 : decode cL_set 13 = .ok (.astore 4, 2) := by decide +kernel
theorem dL_set_15 : decode cL_set 15 = .ok (.iconst 1, 1) := by decide +kernel
theorem dL_set_16 : decode cL_set 16 = .ok (.ireturn, 1) := by decide +kernel
theorem dL_set_17 : decode cL_set 17 = .ok (.astore 4, 2) := by decide +kernel
theorem dL_set_19 : decode cL_set 19 = .ok (.iconst 2, 1) := by decide +kernel
theorem dL_set_20 : decode cL_set 20 = .ok (.ireturn, 1) := by decide +kernel
theorem dL_set_21 : decode cL_set 21 = .ok (.iconst 0, 1) := by decide +kernel
theorem dL_set_22 : decode cL_set 22 = .ok (.ireturn, 1) := by decide +kernel
theorem dL_pass_0 : decode cL_pass 0 = .ok (.aload_n 2, 1) := by decide +kernel
theorem dL_pass_1 : decode cL_pass 1 = .ok (.iconst 0, 1) := by decide +kernel
theorem dL_pass_2 : decode cL_pass 2 = .ok (.aload_n 0, 1) := by decide +kernel
theorem dL_pass_3 : decode cL_pass 3 = .ok (.iload_n 1, 1) := by decide +kernel
theorem dL_pass_4 : decode cL_pass 4 = .ok (.invokevirtual 39, 3) := by decide +kernel
theorem dL_pass_7 : decode cL_pass 7 = .ok (.i2l, 1) := by decide +kernel
theorem dL_pass_8 : decode cL_pass 8 = .ok (.lastore, 1) := by decide +kernel
theorem dL_pass_9 : decode cL_pass 9 = .ok (.goto 6, 3) := by decide +kernel
theorem dL_pass_12 : decode cL_pass 12 = .ok (.astore_n 3, 1) := by decide +kernel
theorem dL_pass_13 : decode cL_pass 13 = .ok (.iconst 1, 1) := by decide +kernel
theorem dL_pass_14 : decode cL_pass 14 = .ok (.ireturn, 1) := by decide +kernel
theorem dL_pass_15 : decode cL_pass 15 = .ok (.iconst 0, 1) := by decide +kernel
theorem dL_pass_16 : decode cL_pass 16 = .ok (.ireturn, 1) := by decide +kernel
theorem dL_append_0 : decode cL_append 0 = .ok (.aload_n 2, 1) := by decide +kernel
theorem dL_append_1 : decode cL_append 1 = .ok (.iconst 0, 1) := by decide +kernel
theorem dL_append_2 : decode cL_append 2 = .ok (.aload_n 0, 1) := by decide +kernel
theorem dL_append_3 : decode cL_append 3 = .ok (.iload_n 1, 1) := by decide +kernel
theorem dL_append_4 : decode cL_append 4 = .ok (.invokevirtual 42, 3) := by decide +kernel
theorem dL_append_7 : decode cL_append 7 = .ok (.i2l, 1) := by decide +kernel
theorem dL_append_8 : decode cL_append 8 = .ok (.lastore, 1) := by decide +kernel
theorem dL_append_9 : decode cL_append 9 = .ok (.goto 9, 3) := by decide +kernel
theorem dL_append_12 : decode cL_append 12 = .ok (.astore_n 3, 1) := by decide +kernel
theorem dL_append_13 : decode cL_append 13 = .ok (.iconst 1, 1) := by decide +kernel
theorem dL_append_14 : decode cL_append 14 = .ok (.ireturn, 1) := by decide +kernel
theorem dL_append_15 : decode cL_append 15 = .ok (.astore_n 3, 1) := by decide +kernel
theorem dL_append_16 : decode cL_append 16 = .ok (.iconst 2, 1) := by decide +kernel
theorem dL_append_17 : decode cL_append 17 = .ok (.ireturn, 1) := by decide +kernel
theorem dL_append_18 : decode cL_append 18 = .ok (.iconst 0, 1) := by decide +kernel
theorem dL_append_19 : decode cL_append 19 = .ok (.ireturn, 1) := by decide +kernel
theorem dL_rounds_0 : decode cL_rounds 0 = .ok (.aload_n 1, 1) := by decide +kernel
theorem dL_rounds_1 : decode cL_rounds 1 = .ok (.iconst 0, 1) := by decide +kernel
theorem dL_rounds_2 : decode cL_rounds 2 = .ok (.aload_n 0, 1) := by decide +kernel
theorem dL_rounds_3 : decode cL_rounds 3 = .ok (.invokevirtual 45, 3) := by decide +kernel
theorem dL_rounds_6 : decode cL_rounds 6 = .ok (.i2l, 1) := by decide +kernel
theorem dL_rounds_7 : decode cL_rounds 7 = .ok (.lastore, 1) := by decide +kernel
theorem dL_rounds_8 : decode cL_rounds 8 = .ok (.goto 6, 3) := by decide +kernel
theorem dL_rounds_11 : decode cL_rounds 11 = .ok (.astore_n 2, 1) := by decide +kernel
theorem dL_rounds_12 : decode cL_rounds 12 = .ok (.iconst 1, 1) := by decide +kernel
theorem dL_rounds_13 : decode cL_rounds 13 = .ok (.ireturn, 1) := by decide +kernel
theorem dL_rounds_14 : decode cL_rounds 14 = .ok (.iconst 0, 1) := by decide +kernel
theorem dL_rounds_15 : decode cL_rounds 15 = .ok (.ireturn, 1) := by decide +kernel
theorem dL_undo_0 : decode cL_undo 0 = .ok (.aload_n 1, 1) := by decide +kernel
theorem dL_undo_1 : decode cL_undo 1 = .ok (.iconst 0, 1) := by decide +kernel
theorem dL_undo_2 : decode cL_undo 2 = .ok (.aload_n 0, 1) := by decide +kernel
theorem dL_undo_3 : decode cL_undo 3 = .ok (.invokevirtual 49, 3) := by decide +kernel
theorem dL_undo_6 : decode cL_undo 6 = .ok (.i2l, 1) := by decide +kernel
theorem dL_undo_7 : decode cL_undo 7 = .ok (.lastore, 1) := by decide +kernel
theorem dL_undo_8 : decode cL_undo 8 = .ok (.goto 6, 3) := by decide +kernel
theorem dL_undo_11 : decode cL_undo 11 = .ok (.astore_n 2, 1) := by decide +kernel
theorem dL_undo_12 : decode cL_undo 12 = .ok (.iconst 1, 1) := by decide +kernel
theorem dL_undo_13 : decode cL_undo 13 = .ok (.ireturn, 1) := by decide +kernel
theorem dL_undo_14 : decode cL_undo 14 = .ok (.iconst 0, 1) := by decide +kernel
theorem dL_undo_15 : decode cL_undo 15 = .ok (.ireturn, 1) := by decide +kernel
theorem dL_street_0 : decode cL_street 0 = .ok (.aload_n 3, 1) := by decide +kernel
theorem dL_street_1 : decode cL_street 1 = .ok (.iconst 0, 1) := by decide +kernel
theorem dL_street_2 : decode cL_street 2 = .ok (.aload_n 0, 1) := by decide +kernel
theorem dL_street_3 : decode cL_street 3 = .ok (.iload_n 1, 1) := by decide +kernel
theorem dL_street_4 : decode cL_street 4 = .ok (.iload_n 2, 1) := by decide +kernel
theorem dL_street_5 : decode cL_street 5 = .ok (.invokevirtual 52, 3) := by decide +kernel
theorem dL_street_8 : decode cL_street 8 = .ok (.i2l, 1) := by decide +kernel
theorem dL_street_9 : decode cL_street 9 = .ok (.lastore, 1) := by decide +kernel
theorem dL_street_10 : decode cL_street 10 = .ok (.goto 11, 3) := by decide +kernel
theorem dL_street_13 : decode cL_street 13 = .ok (.astore 4, 2) := by decide +kernel
theorem dL_street_15 : decode cL_street 15 = .ok (.iconst 1, 1) := by decide +kernel
theorem dL_street_16 : decode cL_street 16 = .ok (.ireturn, 1) := by decide +kernel
theorem dL_street_17 : decode cL_street 17 = .ok (.astore 4, 2) := by decide +kernel
theorem dL_street_19 : decode cL_street 19 = .ok (.iconst 2, 1) := by decide +kernel
theorem dL_street_20 : decode cL_street 20 = .ok (.ireturn, 1) := by decide +kernel
theorem dL_street_21 : decode cL_street 21 = .ok (.iconst 0, 1) := by decide +kernel
theorem dL_street_22 : decode cL_street 22 = .ok (.ireturn, 1) := by decide +kernel
theorem dL_round_0 : decode cL_round 0 = .ok (.aload_n 3, 1) := by decide +kernel
theorem dL_round_1 : decode cL_round 1 = .ok (.iconst 0, 1) := by decide +kernel
theorem dL_round_2 : decode cL_round 2 = .ok (.aload_n 0, 1) := by decide +kernel
theorem dL_round_3 : decode cL_round 3 = .ok (.iload_n 1, 1) := by decide +kernel
theorem dL_round_4 : decode cL_round 4 = .ok (.iload_n 2, 1) := by decide +kernel
theorem dL_round_5 : decode cL_round 5 = .ok (.invokevirtual 55, 3) := by decide +kernel
theorem dL_round_8 : decode cL_round 8 = .ok (.i2l, 1) := by decide +kernel
theorem dL_round_9 : decode cL_round 9 = .ok (.lastore, 1) := by decide +kernel
theorem dL_round_10 : decode cL_round 10 = .ok (.goto 11, 3) := by decide +kernel
theorem dL_round_13 : decode cL_round 13 = .ok (.astore 4, 2) := by decide +kernel
theorem dL_round_15 : decode cL_round 15 = .ok (.iconst 1, 1) := by decide +kernel
theorem dL_round_16 : decode cL_round 16 = .ok (.ireturn, 1) := by decide +kernel
theorem dL_round_17 : decode cL_round 17 = .ok (.astore 4, 2) := by decide +kernel
theorem dL_round_19 : decode cL_round 19 = .ok (.iconst 2, 1) := by decide +kernel
theorem dL_round_20 : decode cL_round 20 = .ok (.ireturn, 1) := by decide +kernel
theorem dL_round_21 : decode cL_round 21 = .ok (.iconst 0, 1) := by decide +kernel
theorem dL_round_22 : decode cL_round 22 = .ok (.ireturn, 1) := by decide +kernel
theorem dL_count_0 : decode cL_count 0 = .ok (.aload_n 2, 1) := by decide +kernel
theorem dL_count_1 : decode cL_count 1 = .ok (.iconst 0, 1) := by decide +kernel
theorem dL_count_2 : decode cL_count 2 = .ok (.aload_n 0, 1) := by decide +kernel
theorem dL_count_3 : decode cL_count 3 = .ok (.iload_n 1, 1) := by decide +kernel
theorem dL_count_4 : decode cL_count 4 = .ok (.invokevirtual 58, 3) := by decide +kernel
theorem dL_count_7 : decode cL_count 7 = .ok (.i2l, 1) := by decide +kernel
theorem dL_count_8 : decode cL_count 8 = .ok (.lastore, 1) := by decide +kernel
theorem dL_count_9 : decode cL_count 9 = .ok (.goto 6, 3) := by decide +kernel
theorem dL_count_12 : decode cL_count 12 = .ok (.astore_n 3, 1) := by decide +kernel
theorem dL_count_13 : decode cL_count 13 = .ok (.iconst 1, 1) := by decide +kernel
theorem dL_count_14 : decode cL_count 14 = .ok (.ireturn, 1) := by decide +kernel
theorem dL_count_15 : decode cL_count 15 = .ok (.iconst 0, 1) := by decide +kernel
theorem dL_count_16 : decode cL_count 16 = .ok (.ireturn, 1) := by decide +kernel
theorem dL_setting_0 : decode cL_setting 0 = .ok (.aload_n 2, 1) := by decide +kernel
theorem dL_setting_1 : decode cL_setting 1 = .ok (.iconst 0, 1) := by decide +kernel
theorem dL_setting_2 : decode cL_setting 2 = .ok (.aload_n 0, 1) := by decide +kernel
theorem dL_setting_3 : decode cL_setting 3 = .ok (.iload_n 1, 1) := by decide +kernel
theorem dL_setting_4 : decode cL_setting 4 = .ok (.invokevirtual 61, 3) := by decide +kernel
theorem dL_setting_7 : decode cL_setting 7 = .ok (.i2l, 1) := by decide +kernel
theorem dL_setting_8 : decode cL_setting 8 = .ok (.lastore, 1) := by decide +kernel
theorem dL_setting_9 : decode cL_setting 9 = .ok (.goto 6, 3) := by decide +kernel
theorem dL_setting_12 : decode cL_setting 12 = .ok (.astore_n 3, 1) := by decide +kernel
theorem dL_setting_13 : decode cL_setting 13 = .ok (.iconst 1, 1) := by decide +kernel
theorem dL_setting_14 : decode cL_setting 14 = .ok (.ireturn, 1) := by decide +kernel
theorem dL_setting_15 : decode cL_setting 15 = .ok (.iconst 0, 1) := by decide +kernel
theorem dL_setting_16 : decode cL_setting 16 = .ok (.ireturn, 1) := by decide +kernel
theorem dL_waits_0 : decode cL_waits 0 = .ok (.aload_n 2, 1) := by decide +kernel
theorem dL_waits_1 : decode cL_waits 1 = .ok (.iconst 0, 1) := by decide +kernel
theorem dL_waits_2 : decode cL_waits 2 = .ok (.aload_n 0, 1) := by decide +kernel
theorem dL_waits_3 : decode cL_waits 3 = .ok (.iload_n 1, 1) := by decide +kernel
theorem dL_waits_4 : decode cL_waits 4 = .ok (.invokevirtual 64, 3) := by decide +kernel
theorem dL_waits_7 : decode cL_waits 7 = .ok (.i2l, 1) := by decide +kernel
theorem dL_waits_8 : decode cL_waits 8 = .ok (.lastore, 1) := by decide +kernel
theorem dL_waits_9 : decode cL_waits 9 = .ok (.goto 6, 3) := by decide +kernel
theorem dL_waits_12 : decode cL_waits 12 = .ok (.astore_n 3, 1) := by decide +kernel
theorem dL_waits_13 : decode cL_waits 13 = .ok (.iconst 1, 1) := by decide +kernel
theorem dL_waits_14 : decode cL_waits 14 = .ok (.ireturn, 1) := by decide +kernel
theorem dL_waits_15 : decode cL_waits 15 = .ok (.iconst 0, 1) := by decide +kernel
theorem dL_waits_16 : decode cL_waits 16 = .ok (.ireturn, 1) := by decide +kernel
theorem dL_ifPassed_0 : decode cL_ifPassed 0 = .ok (.aload_n 3, 1) := by decide +kernel
theorem dL_ifPassed_1 : decode cL_ifPassed 1 = .ok (.iconst 0, 1) := by decide +kernel
theorem dL_ifPassed_2 : decode cL_ifPassed 2 = .ok (.aload_n 0, 1) := by decide +kernel
theorem dL_ifPassed_3 : decode cL_ifPassed 3 = .ok (.iload_n 1, 1) := by decide +kernel
theorem dL_ifPassed_4 : decode cL_ifPassed 4 = .ok (.iload_n 2, 1) := by decide +kernel
theorem dL_ifPassed_5 : decode cL_ifPassed 5 = .ok (.invokevirtual 67, 3) := by decide +kernel
theorem dL_ifPassed_8 : decode cL_ifPassed 8 = .ok (.i2l, 1) := by decide +kernel
theorem dL_ifPassed_9 : decode cL_ifPassed 9 = .ok (.lastore, 1) := by decide +kernel
theorem dL_ifPassed_10 : decode cL_ifPassed 10 = .ok (.goto 7, 3) := by decide +kernel
theorem dL_ifPassed_13 : decode cL_ifPassed 13 = .ok (.astore 4, 2) := by decide +kernel
theorem dL_ifPassed_15 : decode cL_ifPassed 15 = .ok (.iconst 1, 1) := by decide +kernel
theorem dL_ifPassed_16 : decode cL_ifPassed 16 = .ok (.ireturn, 1) := by decide +kernel
theorem dL_ifPassed_17 : decode cL_ifPassed 17 = .ok (.iconst 0, 1) := by decide +kernel
