theorem dX5_cleanShare_11 : decode cX5_cleanShare 11 = .ok (.ldc2_w 204, 3) := by decide +kernel
theorem dX5_cleanShare_14 : decode cX5_cleanShare 14 = .ok (.ddiv, 1) := by decide +kernel
theorem dX5_cleanShare_15 : decode cX5_cleanShare 15 = .ok (.dreturn, 1) := by decide +kernel
theorem dX5_digest_0 : decode cX5_digest 0 = .ok (.ldc2_w 206, 3) := by decide +kernel
theorem dX5_digest_3 : decode cX5_digest 3 = .ok (.lstore_n 1, 1) := by decide +kernel
theorem dX5_digest_4 : decode cX5_digest 4 = .ok (.iconst 0, 1) := by decide +kernel
theorem dX5_digest_5 : decode cX5_digest 5 = .ok (.istore_n 3, 1) := by decide +kernel
theorem dX5_digest_6 : decode cX5_digest 6 = .ok (.iload_n 3, 1) := by decide +kernel
theorem dX5_digest_7 : decode cX5_digest 7 = .ok (.bipush 9, 2) := by decide +kernel
theorem dX5_digest_9 : decode cX5_digest 9 = .ok (.if_icmp .ge 20, 3) := by decide +kernel
theorem dX5_digest_12 : decode cX5_digest 12 = .ok (.lload_n 1, 1) := by decide +kernel
theorem dX5_digest_13 : decode cX5_digest 13 = .ok (.aload_n 0, 1) := by decide +kernel
theorem dX5_digest_14 : decode cX5_digest 14 = .ok (.iload_n 3, 1) := by decide +kernel
theorem dX5_digest_15 : decode cX5_digest 15 = .ok (.invokevirtual 208, 3) := by decide +kernel
theorem dX5_digest_18 : decode cX5_digest 18 = .ok (.i2l, 1) := by decide +kernel
theorem dX5_digest_19 : decode cX5_digest 19 = .ok (.invokestatic 211, 3) := by decide +kernel
theorem dX5_digest_22 : decode cX5_digest 22 = .ok (.lstore_n 1, 1) := by decide +kernel
theorem dX5_digest_23 : decode cX5_digest 23 = .ok (.iinc 3 1, 3) := by decide +kernel
theorem dX5_digest_26 : decode cX5_digest 26 = .ok (.goto (-20), 3) := by decide +kernel
theorem dX5_digest_29 : decode cX5_digest 29 = .ok (.iconst 0, 1) := by decide +kernel
theorem dX5_digest_30 : decode cX5_digest 30 = .ok (.istore_n 3, 1) := by decide +kernel
theorem dX5_digest_31 : decode cX5_digest 31 = .ok (.iload_n 3, 1) := by decide +kernel
theorem dX5_digest_32 : decode cX5_digest 32 = .ok (.iconst 4, 1) := by decide +kernel
theorem dX5_digest_33 : decode cX5_digest 33 = .ok (.if_icmp .ge 24, 3) := by decide +kernel
theorem dX5_digest_36 : decode cX5_digest 36 = .ok (.lload_n 1, 1) := by decide +kernel
theorem dX5_digest_37 : decode cX5_digest 37 = .ok (.aload_n 0, 1) := by decide +kernel
theorem dX5_digest_38 : decode cX5_digest 38 = .ok (.getfield 12, 3) := by decide +kernel
theorem dX5_digest_41 : decode cX5_digest 41 = .ok (.getfield 104, 3) := by decide +kernel
theorem dX5_digest_44 : decode cX5_digest 44 = .ok (.iload_n 3, 1) := by decide +kernel
theorem dX5_digest_45 : decode cX5_digest 45 = .ok (.iaload, 1) := by decide +kernel
theorem dX5_digest_46 : decode cX5_digest 46 = .ok (.i2l, 1) := by decide +kernel
theorem dX5_digest_47 : decode cX5_digest 47 = .ok (.invokestatic 211, 3) := by decide +kernel
theorem dX5_digest_50 : decode cX5_digest 50 = .ok (.lstore_n 1, 1) := by decide +kernel
theorem dX5_digest_51 : decode cX5_digest 51 = .ok (.iinc 3 1, 3) := by decide +kernel
theorem dX5_digest_54 : decode cX5_digest 54 = .ok (.goto (-23), 3) := by decide +kernel
theorem dX5_digest_57 : decode cX5_digest 57 = .ok (.aload_n 0, 1) := by decide +kernel
theorem dX5_digest_58 : decode cX5_digest 58 = .ok (.lload_n 1, 1) := by decide +kernel
theorem dX5_digest_59 : decode cX5_digest 59 = .ok (.invokevirtual 215, 3) := by decide +kernel
theorem dX5_digest_62 : decode cX5_digest 62 = .ok (.lstore_n 1, 1) := by decide +kernel
theorem dX5_digest_63 : decode cX5_digest 63 = .ok (.aload_n 0, 1) := by decide +kernel
theorem dX5_digest_64 : decode cX5_digest 64 = .ok (.lload_n 1, 1) := by decide +kernel
theorem dX5_digest_65 : decode cX5_digest 65 = .ok (.invokevirtual 219, 3) := by decide +kernel
theorem dX5_digest_68 : decode cX5_digest 68 = .ok (.lstore_n 1, 1) := by decide +kernel
theorem dX5_digest_69 : decode cX5_digest 69 = .ok (.aload_n 0, 1) := by decide +kernel
theorem dX5_digest_70 : decode cX5_digest 70 = .ok (.lload_n 1, 1) := by decide +kernel
theorem dX5_digest_71 : decode cX5_digest 71 = .ok (.invokevirtual 222, 3) := by decide +kernel
theorem dX5_digest_74 : decode cX5_digest 74 = .ok (.lstore_n 1, 1) := by decide +kernel
theorem dX5_digest_75 : decode cX5_digest 75 = .ok (.iconst 0, 1) := by decide +kernel
theorem dX5_digest_76 : decode cX5_digest 76 = .ok (.istore_n 3, 1) := by decide +kernel
theorem dX5_digest_77 : decode cX5_digest 77 = .ok (.iload_n 3, 1) := by decide +kernel
theorem dX5_digest_78 : decode cX5_digest 78 = .ok (.iconst 4, 1) := by decide +kernel
theorem dX5_digest_79 : decode cX5_digest 79 = .ok (.if_icmp .ge 22, 3) := by decide +kernel
theorem dX5_digest_82 : decode cX5_digest 82 = .ok (.lload_n 1, 1) := by decide +kernel
theorem dX5_digest_83 : decode cX5_digest 83 = .ok (.aload_n 0, 1) := by decide +kernel
theorem dX5_digest_84 : decode cX5_digest 84 = .ok (.bipush 6, 2) := by decide +kernel
theorem dX5_digest_86 : decode cX5_digest 86 = .ok (.iload_n 3, 1) := by decide +kernel
theorem dX5_digest_87 : decode cX5_digest 87 = .ok (.invokevirtual 225, 3) := by decide +kernel
theorem dX5_digest_90 : decode cX5_digest 90 = .ok (.i2l, 1) := by decide +kernel
theorem dX5_digest_91 : decode cX5_digest 91 = .ok (.invokestatic 211, 3) := by decide +kernel
theorem dX5_digest_94 : decode cX5_digest 94 = .ok (.lstore_n 1, 1) := by decide +kernel
theorem dX5_digest_95 : decode cX5_digest 95 = .ok (.iinc 3 1, 3) := by decide +kernel
theorem dX5_digest_98 : decode cX5_digest 98 = .ok (.goto (-21), 3) := by decide +kernel
theorem dX5_digest_101 : decode cX5_digest 101 = .ok (.lload_n 1, 1) := by decide +kernel
theorem dX5_digest_102 : decode cX5_digest 102 = .ok (.aload_n 0, 1) := by decide +kernel
theorem dX5_digest_103 : decode cX5_digest 103 = .ok (.invokevirtual 229, 3) := by decide +kernel
theorem dX5_digest_106 : decode cX5_digest 106 = .ok (.i2l, 1) := by decide +kernel
theorem dX5_digest_107 : decode cX5_digest 107 = .ok (.invokestatic 211, 3) := by decide +kernel
theorem dX5_digest_110 : decode cX5_digest 110 = .ok (.lstore_n 1, 1) := by decide +kernel
theorem dX5_digest_111 : decode cX5_digest 111 = .ok (.lload_n 1, 1) := by decide +kernel
theorem dX5_digest_112 : decode cX5_digest 112 = .ok (.aload_n 0, 1) := by decide +kernel
theorem dX5_digest_113 : decode cX5_digest 113 = .ok (.invokevirtual 232, 3) := by decide +kernel
theorem dX5_digest_116 : decode cX5_digest 116 = .ok (.i2l, 1) := by decide +kernel
theorem dX5_digest_117 : decode cX5_digest 117 = .ok (.invokestatic 211, 3) := by decide +kernel
theorem dX5_digest_120 : decode cX5_digest 120 = .ok (.lstore_n 1, 1) := by decide +kernel
theorem dX5_digest_121 : decode cX5_digest 121 = .ok (.lload_n 1, 1) := by decide +kernel
theorem dX5_digest_122 : decode cX5_digest 122 = .ok (.bipush 12, 2) := by decide +kernel
theorem dX5_digest_124 : decode cX5_digest 124 = .ok (.aload_n 0, 1) := by decide +kernel
theorem dX5_digest_125 : decode cX5_digest 125 = .ok (.getfield 12, 3) := by decide +kernel
theorem dX5_digest_128 : decode cX5_digest 128 = .ok (.invokevirtual 180, 3) := by decide +kernel
theorem dX5_digest_131 : decode cX5_digest 131 = .ok (.isub, 1) := by decide +kernel
theorem dX5_digest_132 : decode cX5_digest 132 = .ok (.invokestatic 235, 3) := by decide +kernel
theorem dX5_digest_135 : decode cX5_digest 135 = .ok (.invokestatic 211, 3) := by decide +kernel
theorem dX5_digest_138 : decode cX5_digest 138 = .ok (.lstore_n 1, 1) := by decide +kernel
theorem dX5_digest_139 : decode cX5_digest 139 = .ok (.aload_n 0, 1) := by decide +kernel
theorem dX5_digest_140 : decode cX5_digest 140 = .ok (.lload_n 1, 1) := by decide +kernel
theorem dX5_digest_141 : decode cX5_digest 141 = .ok (.invokevirtual 239, 3) := by decide +kernel
theorem dX5_digest_144 : decode cX5_digest 144 = .ok (.lreturn, 1) := by decide +kernel
theorem dX5_hashOfZones_0 : decode cX5_hashOfZones 0 = .ok (.lload_n 1, 1) := by decide +kernel
theorem dX5_hashOfZones_1 : decode cX5_hashOfZones 1 = .ok (.lstore_n 3, 1) := by decide +kernel
theorem dX5_hashOfZones_2 : decode cX5_hashOfZones 2 = .ok (.iconst 0, 1) := by decide +kernel
theorem dX5_hashOfZones_3 : decode cX5_hashOfZones 3 = .ok (.istore 5, 2) := by decide +kernel
theorem dX5_hashOfZones_5 : decode cX5_hashOfZones 5 = .ok (.iload 5, 2) := by decide +kernel
theorem dX5_hashOfZones_7 : decode cX5_hashOfZones 7 = .ok (.iconst 3, 1) := by decide +kernel
theorem dX5_hashOfZones_8 : decode cX5_hashOfZones 8 = .ok (.if_icmp .ge 25, 3) := by decide +kernel
theorem dX5_hashOfZones_11 : decode cX5_hashOfZones 11 = .ok (.lload_n 3, 1) := by decide +kernel
theorem dX5_hashOfZones_12 : decode cX5_hashOfZones 12 = .ok (.aload_n 0, 1) := by decide +kernel
theorem dX5_hashOfZones_13 : decode cX5_hashOfZones 13 = .ok (.getfield 12, 3) := by decide +kernel
theorem dX5_hashOfZones_16 : decode cX5_hashOfZones 16 = .ok (.getfield 52, 3) := by decide +kernel
theorem dX5_hashOfZones_19 : decode cX5_hashOfZones 19 = .ok (.iload 5, 2) := by decide +kernel
theorem dX5_hashOfZones_21 : decode cX5_hashOfZones 21 = .ok (.iaload, 1) := by decide +kernel
theorem dX5_hashOfZones_22 : decode cX5_hashOfZones 22 = .ok (.i2l, 1) := by decide +kernel
theorem dX5_hashOfZones_23 : decode cX5_hashOfZones 23 = .ok (.invokestatic 211, 3) := by decide +kernel
theorem dX5_hashOfZones_26 : decode cX5_hashOfZones 26 = .ok (.lstore_n 3, 1) := by decide +kernel
theorem dX5_hashOfZones_27 : decode cX5_hashOfZones 27 = .ok (.iinc 5 1, 3) := by decide +kernel
theorem dX5_hashOfZones_30 : decode cX5_hashOfZones 30 = .ok (.goto (-25), 3) := by decide +kernel
theorem dX5_hashOfZones_33 : decode cX5_hashOfZones 33 = .ok (.iconst 0, 1) := by decide +kernel
theorem dX5_hashOfZones_34 : decode cX5_hashOfZones 34 = .ok (.istore 5, 2) := by decide +kernel
theorem dX5_hashOfZones_36 : decode cX5_hashOfZones 36 = .ok (.iload 5, 2) := by decide +kernel
theorem dX5_hashOfZones_38 : decode cX5_hashOfZones 38 = .ok (.iconst 2, 1) := by decide +kernel
theorem dX5_hashOfZones_39 : decode cX5_hashOfZones 39 = .ok (.if_icmp .ge 32, 3) := by decide +kernel
theorem dX5_hashOfZones_42 : decode cX5_hashOfZones 42 = .ok (.lload_n 3, 1) := by decide +kernel
theorem dX5_hashOfZones_43 : decode cX5_hashOfZones 43 = .ok (.aload_n 0, 1) := by decide +kernel
theorem dX5_hashOfZones_44 : decode cX5_hashOfZones 44 = .ok (.getfield 12, 3) := by decide +kernel
theorem dX5_hashOfZones_47 : decode cX5_hashOfZones 47 = .ok (.getfield 56, 3) := by decide +kernel
theorem dX5_hashOfZones_50 : decode cX5_hashOfZones 50 = .ok (.iload 5, 2) := by decide +kernel
theorem dX5_hashOfZones_52 : decode cX5_hashOfZones 52 = .ok (.baload, 1) := by decide +kernel
theorem dX5_hashOfZones_53 : decode cX5_hashOfZones 53 = .ok (.ifCond .eq 7, 3) := by decide +kernel
theorem dX5_hashOfZones_56 : decode cX5_hashOfZones 56 = .ok (.lconst 1, 1) := by decide +kernel
theorem dX5_hashOfZones_57 : decode cX5_hashOfZones 57 = .ok (.goto 4, 3) := by decide +kernel
theorem dX5_hashOfZones_60 : decode cX5_hashOfZones 60 = .ok (.lconst 0, 1) := by decide +kernel
theorem dX5_hashOfZones_61 : decode cX5_hashOfZones 61 = .ok (.invokestatic 211, 3) := by decide +kernel
theorem dX5_hashOfZones_64 : decode cX5_hashOfZones 64 = .ok (.lstore_n 3, 1) := by decide +kernel
theorem dX5_hashOfZones_65 : decode cX5_hashOfZones 65 = .ok (.iinc 5 1, 3) := by decide +kernel
theorem dX5_hashOfZones_68 : decode cX5_hashOfZones 68 = .ok (.goto (-32), 3) := by decide +kernel
theorem dX5_hashOfZones_71 : decode cX5_hashOfZones 71 = .ok (.lload_n 3, 1) := by decide +kernel
theorem dX5_hashOfZones_72 : decode cX5_hashOfZones 72 = .ok (.lreturn, 1) := by decide +kernel
theorem dX5_hashOfStreets_0 : decode cX5_hashOfStreets 0 = .ok (.lload_n 1, 1) := by decide +kernel
theorem dX5_hashOfStreets_1 : decode cX5_hashOfStreets 1 = .ok (.lstore_n 3, 1) := by decide +kernel
theorem dX5_hashOfStreets_2 : decode cX5_hashOfStreets 2 = .ok (.iconst 0, 1) := by decide +kernel
theorem dX5_hashOfStreets_3 : decode cX5_hashOfStreets 3 = .ok (.istore 5, 2) := by decide +kernel
theorem dX5_hashOfStreets_5 : decode cX5_hashOfStreets 5 = .ok (.iload 5, 2) := by decide +kernel
theorem dX5_hashOfStreets_7 : decode cX5_hashOfStreets 7 = .ok (.bipush 12, 2) := by decide +kernel
theorem dX5_hashOfStreets_9 : decode cX5_hashOfStreets 9 = .ok (.if_icmp .ge 74, 3) := by decide +kernel
theorem dX5_hashOfStreets_12 : decode cX5_hashOfStreets 12 = .ok (.iconst 0, 1) := by decide +kernel
theorem dX5_hashOfStreets_13 : decode cX5_hashOfStreets 13 = .ok (.istore 6, 2) := by decide +kernel
theorem dX5_hashOfStreets_15 : decode cX5_hashOfStreets 15 = .ok (.iload 6, 2) := by decide +kernel
theorem dX5_hashOfStreets_17 : decode cX5_hashOfStreets 17 = .ok (.bipush 8, 2) := by decide +kernel
theorem dX5_hashOfStreets_19 : decode cX5_hashOfStreets 19 = .ok (.if_icmp .ge 23, 3) := by decide +kernel
theorem dX5_hashOfStreets_22 : decode cX5_hashOfStreets 22 = .ok (.lload_n 3, 1) := by decide +kernel
theorem dX5_hashOfStreets_23 : decode cX5_hashOfStreets 23 = .ok (.aload_n 0, 1) := by decide +kernel
theorem dX5_hashOfStreets_24 : decode cX5_hashOfStreets 24 = .ok (.iload 5, 2) := by decide +kernel
theorem dX5_hashOfStreets_26 : decode cX5_hashOfStreets 26 = .ok (.iload 6, 2) := by decide +kernel
theorem dX5_hashOfStreets_28 : decode cX5_hashOfStreets 28 = .ok (.invokevirtual 242, 3) := by decide +kernel
theorem dX5_hashOfStreets_31 : decode cX5_hashOfStreets 31 = .ok (.i2l, 1) := by decide +kernel
theorem dX5_hashOfStreets_32 : decode cX5_hashOfStreets 32 = .ok (.invokestatic 211, 3) := by decide +kernel
theorem dX5_hashOfStreets_35 : decode cX5_hashOfStreets 35 = .ok (.lstore_n 3, 1) := by decide +kernel
theorem dX5_hashOfStreets_36 : decode cX5_hashOfStreets 36 = .ok (.iinc 6 1, 3) := by decide +kernel
theorem dX5_hashOfStreets_39 : decode cX5_hashOfStreets 39 = .ok (.goto (-24), 3) := by decide +kernel
theorem dX5_hashOfStreets_42 : decode cX5_hashOfStreets 42 = .ok (.lload_n 3, 1) := by decide +kernel
theorem dX5_hashOfStreets_43 : decode cX5_hashOfStreets 43 = .ok (.aload_n 0, 1) := by decide +kernel
theorem dX5_hashOfStreets_44 : decode cX5_hashOfStreets 44 = .ok (.getfield 12, 3) := by decide +kernel
theorem dX5_hashOfStreets_47 : decode cX5_hashOfStreets 47 = .ok (.getfield 245, 3) := by decide +kernel
theorem dX5_hashOfStreets_50 : decode cX5_hashOfStreets 50 = .ok (.iload 5, 2) := by decide +kernel
theorem dX5_hashOfStreets_52 : decode cX5_hashOfStreets 52 = .ok (.baload, 1) := by decide +kernel
theorem dX5_hashOfStreets_53 : decode cX5_hashOfStreets 53 = .ok (.ifCond .eq 7, 3) := by decide +kernel
theorem dX5_hashOfStreets_56 : decode cX5_hashOfStreets 56 = .ok (.lconst 1, 1) := by decide +kernel
theorem dX5_hashOfStreets_57 : decode cX5_hashOfStreets 57 = .ok (.goto 4, 3) := by decide +kernel
theorem dX5_hashOfStreets_60 : decode cX5_hashOfStreets 60 = .ok (.lconst 0, 1) := by decide +kernel
theorem dX5_hashOfStreets_61 : decode cX5_hashOfStreets 61 = .ok (.invokestatic 211, 3) := by decide +kernel
theorem dX5_hashOfStreets_64 : decode cX5_hashOfStreets 64 = .ok (.lstore_n 3, 1) := by decide +kernel
theorem dX5_hashOfStreets_65 : decode cX5_hashOfStreets 65 = .ok (.lload_n 3, 1) := by decide +kernel
theorem dX5_hashOfStreets_66 : decode cX5_hashOfStreets 66 = .ok (.aload_n 0, 1) := by decide +kernel
theorem dX5_hashOfStreets_67 : decode cX5_hashOfStreets 67 = .ok (.iload 5, 2) := by decide +kernel
theorem dX5_hashOfStreets_69 : decode cX5_hashOfStreets 69 = .ok (.invokevirtual 248, 3) := by decide +kernel
theorem dX5_hashOfStreets_72 : decode cX5_hashOfStreets 72 = .ok (.i2l, 1) := by decide +kernel
theorem dX5_hashOfStreets_73 : decode cX5_hashOfStreets 73 = .ok (.invokestatic 211, 3) := by decide +kernel
theorem dX5_hashOfStreets_76 : decode cX5_hashOfStreets 76 = .ok (.lstore_n 3, 1) := by decide +kernel
theorem dX5_hashOfStreets_77 : decode cX5_hashOfStreets 77 = .ok (.iinc 5 1, 3) := by decide +kernel
theorem dX5_hashOfStreets_80 : decode cX5_hashOfStreets 80 = .ok (.goto (-75), 3) := by decide +kernel
theorem dX5_hashOfStreets_83 : decode cX5_hashOfStreets 83 = .ok (.lload_n 3, 1) := by decide +kernel
theorem dX5_hashOfStreets_84 : decode cX5_hashOfStreets 84 = .ok (.lreturn, 1) := by decide +kernel
theorem dX5_hashOfCrews_0 : decode cX5_hashOfCrews 0 = .ok (.lload_n 1, 1) := by decide +kernel
theorem dX5_hashOfCrews_1 : decode cX5_hashOfCrews 1 = .ok (.lstore_n 3, 1) := by decide +kernel
theorem dX5_hashOfCrews_2 : decode cX5_hashOfCrews 2 = .ok (.iconst 0, 1) := by decide +kernel
theorem dX5_hashOfCrews_3 : decode cX5_hashOfCrews 3 = .ok (.istore 5, 2) := by decide +kernel
theorem dX5_hashOfCrews_5 : decode cX5_hashOfCrews 5 = .ok (.iload 5, 2) := by decide +kernel
theorem dX5_hashOfCrews_7 : decode cX5_hashOfCrews 7 = .ok (.iconst 3, 1) := by decide +kernel
theorem dX5_hashOfCrews_8 : decode cX5_hashOfCrews 8 = .ok (.if_icmp .ge 69, 3) := by decide +kernel
theorem dX5_hashOfCrews_11 : decode cX5_hashOfCrews 11 = .ok (.lload_n 3, 1) := by decide +kernel
theorem dX5_hashOfCrews_12 : decode cX5_hashOfCrews 12 = .ok (.aload_n 0, 1) := by decide +kernel
theorem dX5_hashOfCrews_13 : decode cX5_hashOfCrews 13 = .ok (.iload 5, 2) := by decide +kernel
theorem dX5_hashOfCrews_15 : decode cX5_hashOfCrews 15 = .ok (.invokevirtual 251, 3) := by decide +kernel
theorem dX5_hashOfCrews_18 : decode cX5_hashOfCrews 18 = .ok (.i2l, 1) := by decide +kernel
theorem dX5_hashOfCrews_19 : decode cX5_hashOfCrews 19 = .ok (.invokestatic 211, 3) := by decide +kernel
theorem dX5_hashOfCrews_22 : decode cX5_hashOfCrews 22 = .ok (.lstore_n 3, 1) := by decide +kernel
theorem dX5_hashOfCrews_23 : decode cX5_hashOfCrews 23 = .ok (.iconst 0, 1) := by decide +kernel
theorem dX5_hashOfCrews_24 : decode cX5_hashOfCrews 24 = .ok (.istore 6, 2) := by decide +kernel
theorem dX5_hashOfCrews_26 : decode cX5_hashOfCrews 26 = .ok (.iload 6, 2) := by decide +kernel
theorem dX5_hashOfCrews_28 : decode cX5_hashOfCrews 28 = .ok (.aload_n 0, 1) := by decide +kernel
theorem dX5_hashOfCrews_29 : decode cX5_hashOfCrews 29 = .ok (.getfield 12, 3) := by decide +kernel
theorem dX5_hashOfCrews_32 : decode cX5_hashOfCrews 32 = .ok (.getfield 66, 3) := by decide +kernel
theorem dX5_hashOfCrews_35 : decode cX5_hashOfCrews 35 = .ok (.iload 5, 2) := by decide +kernel
theorem dX5_hashOfCrews_37 : decode cX5_hashOfCrews 37 = .ok (.aaload, 1) := by decide +kernel
theorem dX5_hashOfCrews_38 : decode cX5_hashOfCrews 38 = .ok (.getfield 87, 3) := by decide +kernel
theorem dX5_hashOfCrews_41 : decode cX5_hashOfCrews 41 = .ok (.if_icmp .ge 30, 3) := by decide +kernel
theorem dX5_hashOfCrews_44 : decode cX5_hashOfCrews 44 = .ok (.lload_n 3, 1) := by decide +kernel
theorem dX5_hashOfCrews_45 : decode cX5_hashOfCrews 45 = .ok (.aload_n 0, 1) := by decide +kernel
theorem dX5_hashOfCrews_46 : decode cX5_hashOfCrews 46 = .ok (.getfield 12, 3) := by decide +kernel
theorem dX5_hashOfCrews_49 : decode cX5_hashOfCrews 49 = .ok (.getfield 66, 3) := by decide +kernel
theorem dX5_hashOfCrews_52 : decode cX5_hashOfCrews 52 = .ok (.iload 5, 2) := by decide +kernel
theorem dX5_hashOfCrews_54 : decode cX5_hashOfCrews 54 = .ok (.aaload, 1) := by decide +kernel
theorem dX5_hashOfCrews_55 : decode cX5_hashOfCrews 55 = .ok (.iload 6, 2) := by decide +kernel
theorem dX5_hashOfCrews_57 : decode cX5_hashOfCrews 57 = .ok (.invokevirtual 91, 3) := by decide +kernel
theorem dX5_hashOfCrews_60 : decode cX5_hashOfCrews 60 = .ok (.i2l, 1) := by decide +kernel
theorem dX5_hashOfCrews_61 : decode cX5_hashOfCrews 61 = .ok (.invokestatic 211, 3) := by decide +kernel
theorem dX5_hashOfCrews_64 : decode cX5_hashOfCrews 64 = .ok (.lstore_n 3, 1) := by decide +kernel
theorem dX5_hashOfCrews_65 : decode cX5_hashOfCrews 65 = .ok (.iinc 6 1, 3) := by decide +kernel
theorem dX5_hashOfCrews_68 : decode cX5_hashOfCrews 68 = .ok (.goto (-42), 3) := by decide +kernel
theorem dX5_hashOfCrews_71 : decode cX5_hashOfCrews 71 = .ok (.iinc 5 1, 3) := by decide +kernel
theorem dX5_hashOfCrews_74 : decode cX5_hashOfCrews 74 = .ok (.goto (-69), 3) := by decide +kernel
theorem dX5_hashOfCrews_77 : decode cX5_hashOfCrews 77 = .ok (.lload_n 3, 1) := by decide +kernel
theorem dX5_hashOfCrews_78 : decode cX5_hashOfCrews 78 = .ok (.lreturn, 1) := by decide +kernel
theorem dX5_hashOfText_0 : decode cX5_hashOfText 0 = .ok (.lload_n 1, 1) := by decide +kernel
theorem dX5_hashOfText_1 : decode cX5_hashOfText 1 = .ok (.aload_n 0, 1) := by decide +kernel
theorem dX5_hashOfText_2 : decode cX5_hashOfText 2 = .ok (.getfield 36, 3) := by decide +kernel
theorem dX5_hashOfText_5 : decode cX5_hashOfText 5 = .ok (.getfield 115, 3) := by decide +kernel
theorem dX5_hashOfText_8 : decode cX5_hashOfText 8 = .ok (.i2l, 1) := by decide +kernel
theorem dX5_hashOfText_9 : decode cX5_hashOfText 9 = .ok (.invokestatic 211, 3) := by decide +kernel
theorem dX5_hashOfText_12 : decode cX5_hashOfText 12 = .ok (.lstore_n 3, 1) := by decide +kernel
theorem dX5_hashOfText_13 : decode cX5_hashOfText 13 = .ok (.iconst 0, 1) := by decide +kernel
theorem dX5_hashOfText_14 : decode cX5_hashOfText 14 = .ok (.istore 5, 2) := by decide +kernel
theorem dX5_hashOfText_16 : decode cX5_hashOfText 16 = .ok (.iload 5, 2) := by decide +kernel
theorem dX5_hashOfText_18 : decode cX5_hashOfText 18 = .ok (.aload_n 0, 1) := by decide +kernel
theorem dX5_hashOfText_19 : decode cX5_hashOfText 19 = .ok (.getfield 36, 3) := by decide +kernel
theorem dX5_hashOfText_22 : decode cX5_hashOfText 22 = .ok (.getfield 115, 3) := by decide +kernel
theorem dX5_hashOfText_25 : decode cX5_hashOfText 25 = .ok (.if_icmp .ge 32, 3) := by decide +kernel
theorem dX5_hashOfText_28 : decode cX5_hashOfText 28 = .ok (.iload 5, 2) := by decide +kernel
theorem dX5_hashOfText_30 : decode cX5_hashOfText 30 = .ok (.bipush 60, 2) := by decide +kernel
theorem dX5_hashOfText_32 : decode cX5_hashOfText 32 = .ok (.if_icmp .ge 25, 3) := by decide +kernel
theorem dX5_hashOfText_35 : decode cX5_hashOfText 35 = .ok (.lload_n 3, 1) := by decide +kernel
theorem dX5_hashOfText_36 : decode cX5_hashOfText 36 = .ok (.aload_n 0, 1) := by decide +kernel
theorem dX5_hashOfText_37 : decode cX5_hashOfText 37 = .ok (.getfield 36, 3) := by decide +kernel
theorem dX5_hashOfText_40 : decode cX5_hashOfText 40 = .ok (.getfield 254, 3) := by decide +kernel
theorem dX5_hashOfText_43 : decode cX5_hashOfText 43 = .ok (.iload 5, 2) := by decide +kernel
theorem dX5_hashOfText_45 : decode cX5_hashOfText 45 = .ok (.iaload, 1) := by decide +kernel
theorem dX5_hashOfText_46 : decode cX5_hashOfText 46 = .ok (.i2l, 1) := by decide +kernel
theorem dX5_hashOfText_47 : decode cX5_hashOfText 47 = .ok (.invokestatic 211, 3) := by decide +kernel
theorem dX5_hashOfText_50 : decode cX5_hashOfText 50 = .ok (.lstore_n 3, 1) := by decide +kernel
theorem dX5_hashOfText_51 : decode cX5_hashOfText 51 = .ok (.iinc 5 1, 3) := by decide +kernel
theorem dX5_hashOfText_54 : decode cX5_hashOfText 54 = .ok (.goto (-38), 3) := by decide +kernel
theorem dX5_hashOfText_57 : decode cX5_hashOfText 57 = .ok (.lload_n 3, 1) := by decide +kernel
theorem dX5_hashOfText_58 : decode cX5_hashOfText 58 = .ok (.lreturn, 1) := by decide +kernel
theorem dX5_mixed_0 : decode cX5_mixed 0 = .ok (.ldc2_w 257, 3) := by decide +kernel
theorem dX5_mixed_3 : decode cX5_mixed 3 = .ok (.lload_n 0, 1) := by decide +kernel
theorem dX5_mixed_4 : decode cX5_mixed 4 = .ok (.lmul, 1) := by decide +kernel
theorem dX5_mixed_5 : decode cX5_mixed 5 = .ok (.lload_n 2, 1) := by decide +kernel
theorem dX5_mixed_6 : decode cX5_mixed 6 = .ok (.ladd, 1) := by decide +kernel
theorem dX5_mixed_7 : decode cX5_mixed 7 = .ok (.lreturn, 1) := by decide +kernel
theorem dX5_shareBits_0 : decode cX5_shareBits 0 = .ok (.iload_n 0, 1) := by decide +kernel
theorem dX5_shareBits_1 : decode cX5_shareBits 1 = .ok (.ifCond .gt 5, 3) := by decide +kernel
theorem dX5_shareBits_4 : decode cX5_shareBits 4 = .ok (.lconst 0, 1) := by decide +kernel
theorem dX5_shareBits_5 : decode cX5_shareBits 5 = .ok (.lreturn, 1) := by decide +kernel
theorem dX5_shareBits_6 : decode cX5_shareBits 6 = .ok (.ldc2_w 259, 3) := by decide +kernel
theorem dX5_shareBits_9 : decode cX5_shareBits 9 = .ok (.lstore_n 1, 1) := by decide +kernel
theorem dX5_shareBits_10 : decode cX5_shareBits 10 = .ok (.bipush 52, 2) := by decide +kernel
theorem dX5_shareBits_12 : decode cX5_shareBits 12 = .ok (.istore_n 3, 1) := by decide +kernel
theorem dX5_shareBits_13 : decode cX5_shareBits 13 = .ok (.iload_n 3, 1) := by decide +kernel
theorem dX5_shareBits_14 : decode cX5_shareBits 14 = .ok (.bipush 56, 2) := by decide +kernel
theorem dX5_shareBits_16 : decode cX5_shareBits 16 = .ok (.if_icmp .ge 22, 3) := by decide +kernel
theorem dX5_shareBits_19 : decode cX5_shareBits 19 = .ok (.iload_n 0, 1) := by decide +kernel
theorem dX5_shareBits_20 : decode cX5_shareBits 20 = .ok (.i2l, 1) := by decide +kernel
theorem dX5_shareBits_21 : decode cX5_shareBits 21 = .ok (.iload_n 3, 1) := by decide +kernel
theorem dX5_shareBits_22 : decode cX5_shareBits 22 = .ok (.lshl, 1) := by decide +kernel
theorem dX5_shareBits_23 : decode cX5_shareBits 23 = .ok (.ldc2_w 261, 3) := by decide +kernel
theorem dX5_shareBits_26 : decode cX5_shareBits 26 = .ok (.ldiv, 1) := by decide +kernel
theorem dX5_shareBits_27 : decode cX5_shareBits 27 = .ok (.lload_n 1, 1) := by decide +kernel
theorem dX5_shareBits_28 : decode cX5_shareBits 28 = .ok (.lcmp, 1) := by decide +kernel
theorem dX5_shareBits_29 : decode cX5_shareBits 29 = .ok (.ifCond .ge 9, 3) := by decide +kernel
theorem dX5_shareBits_32 : decode cX5_shareBits 32 = .ok (.iinc 3 1, 3) := by decide +kernel
theorem dX5_shareBits_35 : decode cX5_shareBits 35 = .ok (.goto (-22), 3) := by decide +kernel
theorem dX5_shareBits_38 : decode cX5_shareBits 38 = .ok (.iload_n 0, 1) := by decide +kernel
theorem dX5_shareBits_39 : decode cX5_shareBits 39 = .ok (.i2l, 1) := by decide +kernel
theorem dX5_shareBits_40 : decode cX5_shareBits 40 = .ok (.iload_n 3, 1) := by decide +kernel
theorem dX5_shareBits_41 : decode cX5_shareBits 41 = .ok (.lshl, 1) := by decide +kernel
theorem dX5_shareBits_42 : decode cX5_shareBits 42 = .ok (.ldc2_w 263, 3) := by decide +kernel
theorem dX5_shareBits_45 : decode cX5_shareBits 45 = .ok (.ladd, 1) := by decide +kernel
theorem dX5_shareBits_46 : decode cX5_shareBits 46 = .ok (.ldc2_w 261, 3) := by decide +kernel
theorem dX5_shareBits_49 : decode cX5_shareBits 49 = .ok (.ldiv, 1) := by decide +kernel
theorem dX5_shareBits_50 : decode cX5_shareBits 50 = .ok (.lstore 4, 2) := by decide +kernel
theorem dX5_shareBits_52 : decode cX5_shareBits 52 = .ok (.sipush 1075, 3) := by decide +kernel
theorem dX5_shareBits_55 : decode cX5_shareBits 55 = .ok (.iload_n 3, 1) := by decide +kernel
theorem dX5_shareBits_56 : decode cX5_shareBits 56 = .ok (.isub, 1) := by decide +kernel
theorem dX5_shareBits_57 : decode cX5_shareBits 57 = .ok (.i2l, 1) := by decide +kernel
theorem dX5_shareBits_58 : decode cX5_shareBits 58 = .ok (.bipush 52, 2) := by decide +kernel
theorem dX5_shareBits_60 : decode cX5_shareBits 60 = .ok (.lshl, 1) := by decide +kernel
theorem dX5_shareBits_61 : decode cX5_shareBits 61 = .ok (.lload 4, 2) := by decide +kernel
theorem dX5_shareBits_63 : decode cX5_shareBits 63 = .ok (.lload_n 1, 1) := by decide +kernel
theorem dX5_shareBits_64 : decode cX5_shareBits 64 = .ok (.lsub, 1) := by decide +kernel
theorem dX5_shareBits_65 : decode cX5_shareBits 65 = .ok (.ladd, 1) := by decide +kernel
theorem dX5_shareBits_66 : decode cX5_shareBits 66 = .ok (.lreturn, 1) := by decide +kernel
theorem dX5_requireIndex_0 : decode cX5_requireIndex 0 = .ok (.iload_n 0, 1) := by decide +kernel
theorem dX5_requireIndex_1 : decode cX5_requireIndex 1 = .ok (.ifCond .lt 8, 3) := by decide +kernel
theorem dX5_requireIndex_4 : decode cX5_requireIndex 4 = .ok (.iload_n 0, 1) := by decide +kernel
theorem dX5_requireIndex_5 : decode cX5_requireIndex 5 = .ok (.iload_n 1, 1) := by decide +kernel
theorem dX5_requireIndex_6 : decode cX5_requireIndex 6 = .ok (.if_icmp .lt 14, 3) := by decide +kernel
theorem dX5_requireIndex_9 : decode cX5_requireIndex 9 = .ok (.new 265, 3) := by decide +kernel
theorem dX5_requireIndex_12 : decode cX5_requireIndex 12 = .ok (.dup, 1) := by decide +kernel
theorem dX5_requireIndex_13 : decode cX5_requireIndex 13 = .ok (.ldc_w 267, 3) := by decide +kernel
theorem dX5_requireIndex_16 : decode cX5_requireIndex 16 = .ok (.invokespecial 269, 3) := by decide +kernel
theorem dX5_requireIndex_19 : decode cX5_requireIndex 19 = .ok (.athrow, 1) := by decide +kernel
theorem dX5_requireIndex_20 : decode cX5_requireIndex 20 = .ok (.return_, 1) := by decide +kernel
theorem dX5_requireRange_0 : decode cX5_requireRange 0 = .ok (.iload_n 0, 1) := by decide +kernel
theorem dX5_requireRange_1 : decode cX5_requireRange 1 = .ok (.iload_n 1, 1) := by decide +kernel
theorem dX5_requireRange_2 : decode cX5_requireRange 2 = .ok (.if_icmp .lt 8, 3) := by decide +kernel
theorem dX5_requireRange_5 : decode cX5_requireRange 5 = .ok (.iload_n 0, 1) := by decide +kernel
theorem dX5_requireRange_6 : decode cX5_requireRange 6 = .ok (.iload_n 2, 1) := by decide +kernel
theorem dX5_requireRange_7 : decode cX5_requireRange 7 = .ok (.if_icmp .le 14, 3) := by decide +kernel
theorem dX5_requireRange_10 : decode cX5_requireRange 10 = .ok (.new 126, 3) := by decide +kernel
theorem dX5_requireRange_13 : decode cX5_requireRange 13 = .ok (.dup, 1) := by decide +kernel
theorem dX5_requireRange_14 : decode cX5_requireRange 14 = .ok (.ldc_w 270, 3) := by decide +kernel
theorem dX5_requireRange_17 : decode cX5_requireRange 17 = .ok (.invokespecial 130, 3) := by decide +kernel
theorem dX5_requireRange_20 : decode cX5_requireRange 20 = .ok (.athrow, 1) := by decide +kernel
theorem dX5_requireRange_21 : decode cX5_requireRange 21 = .ok (.return_, 1) := by decide +kernel
theorem dX5_sum_0 : decode cX5_sum 0 = .ok (.iconst 0, 1) := by decide +kernel
theorem dX5_sum_1 : decode cX5_sum 1 = .ok (.istore_n 1, 1) := by decide +kernel
theorem dX5_sum_2 : decode cX5_sum 2 = .ok (.aload_n 0, 1) := by decide +kernel
theorem dX5_sum_3 : decode cX5_sum 3 = .ok (.astore_n 2, 1) := by decide +kernel
theorem dX5_sum_4 : decode cX5_sum 4 = .ok (.aload_n 2, 1) := by decide +kernel
theorem dX5_sum_5 : decode cX5_sum 5 = .ok (.arraylength, 1) := by decide +kernel
theorem dX5_sum_6 : decode cX5_sum 6 = .ok (.istore_n 3, 1) := by decide +kernel
theorem dX5_sum_7 : decode cX5_sum 7 = .ok (.iconst 0, 1) := by decide +kernel
theorem dX5_sum_8 : decode cX5_sum 8 = .ok (.istore 4, 2) := by decide +kernel
theorem dX5_sum_10 : decode cX5_sum 10 = .ok (.iload 4, 2) := by decide +kernel
theorem dX5_sum_12 : decode cX5_sum 12 = .ok (.iload_n 3, 1) := by decide +kernel
theorem dX5_sum_13 : decode cX5_sum 13 = .ok (.if_icmp .ge 20, 3) := by decide +kernel
theorem dX5_sum_16 : decode cX5_sum 16 = .ok (.aload_n 2, 1) := by decide +kernel
theorem dX5_sum_17 : decode cX5_sum 17 = .ok (.iload 4, 2) := by decide +kernel
theorem dX5_sum_19 : decode cX5_sum 19 = .ok (.iaload, 1) := by decide +kernel
theorem dX5_sum_20 : decode cX5_sum 20 = .ok (.istore 5, 2) := by decide +kernel
theorem dX5_sum_22 : decode cX5_sum 22 = .ok (.iload_n 1, 1) := by decide +kernel
theorem dX5_sum_23 : decode cX5_sum 23 = .ok (.iload 5, 2) := by decide +kernel
theorem dX5_sum_25 : decode cX5_sum 25 = .ok (.iadd, 1) := by decide +kernel
theorem dX5_sum_26 : decode cX5_sum 26 = .ok (.istore_n 1, 1) := by decide +kernel
theorem dX5_sum_27 : decode cX5_sum 27 = .ok (.iinc 4 1, 3) := by decide +kernel
theorem dX5_sum_30 : decode cX5_sum 30 = .ok (.goto (-20), 3) := by decide +kernel
theorem dX5_sum_33 : decode cX5_sum 33 = .ok (.iload_n 1, 1) := by decide +kernel
theorem dX5_sum_34 : decode cX5_sum 34 = .ok (.ireturn, 1) := by decide +kernel
theorem dX6_init_0 : decode cX6_init 0 = .ok (.aload_n 0, 1) := by decide +kernel
theorem dX6_init_1 : decode cX6_init 1 = .ok (.invokespecial 1, 3) := by decide +kernel
theorem dX6_init_4 : decode cX6_init 4 = .ok (.aload_n 0, 1) := by decide +kernel
theorem dX6_init_5 : decode cX6_init 5 = .ok (.bipush 111, 2) := by decide +kernel
theorem dX6_init_7 : decode cX6_init 7 = .ok (.newarray .int, 2) := by decide +kernel
theorem dX6_init_9 : decode cX6_init 9 = .ok (.putfield 7, 3) := by decide +kernel
theorem dX6_init_12 : decode cX6_init 12 = .ok (.aload_n 0, 1) := by decide +kernel
theorem dX6_init_13 : decode cX6_init 13 = .ok (.bipush 111, 2) := by decide +kernel
theorem dX6_init_15 : decode cX6_init 15 = .ok (.newarray .int, 2) := by decide +kernel
theorem dX6_init_17 : decode cX6_init 17 = .ok (.putfield 13, 3) := by decide +kernel
theorem dX6_init_20 : decode cX6_init 20 = .ok (.aload_n 0, 1) := by decide +kernel
theorem dX6_init_21 : decode cX6_init 21 = .ok (.sipush 666, 3) := by decide +kernel
theorem dX6_init_24 : decode cX6_init 24 = .ok (.newarray .int, 2) := by decide +kernel
theorem dX6_init_26 : decode cX6_init 26 = .ok (.putfield 16, 3) := by decide +kernel
theorem dX6_init_29 : decode cX6_init 29 = .ok (.aload_n 0, 1) := by decide +kernel
theorem dX6_init_30 : decode cX6_init 30 = .ok (.bipush 60, 2) := by decide +kernel
theorem dX6_init_32 : decode cX6_init 32 = .ok (.newarray .int, 2) := by decide +kernel
theorem dX6_init_34 : decode cX6_init 34 = .ok (.putfield 19, 3) := by decide +kernel
theorem dX6_init_37 : decode cX6_init 37 = .ok (.aload_n 0, 1) := by decide +kernel
theorem dX6_init_38 : decode cX6_init 38 = .ok (.bipush 27, 2) := by decide +kernel
theorem dX6_init_40 : decode cX6_init 40 = .ok (.newarray .int, 2) := by decide +kernel
theorem dX6_init_42 : decode cX6_init 42 = .ok (.putfield 22, 3) := by decide +kernel
theorem dX6_init_45 : decode cX6_init 45 = .ok (.aload_n 0, 1) := by decide +kernel
theorem dX6_init_46 : decode cX6_init 46 = .ok (.iconst 3, 1) := by decide +kernel
theorem dX6_init_47 : decode cX6_init 47 = .ok (.newarray .int, 2) := by decide +kernel
theorem dX6_init_49 : decode cX6_init 49 = .ok (.putfield 25, 3) := by decide +kernel
theorem dX6_init_52 : decode cX6_init 52 = .ok (.aload_n 0, 1) := by decide +kernel
theorem dX6_init_53 : decode cX6_init 53 = .ok (.getfield 7, 3) := by decide +kernel
theorem dX6_init_56 : decode cX6_init 56 = .ok (.iconst 0, 1) := by decide +kernel
theorem dX6_init_57 : decode cX6_init 57 = .ok (.bipush 20, 2) := by decide +kernel
theorem dX6_init_59 : decode cX6_init 59 = .ok (.iastore, 1) := by decide +kernel
theorem dX6_init_60 : decode cX6_init 60 = .ok (.aload_n 0, 1) := by decide +kernel
theorem dX6_init_61 : decode cX6_init 61 = .ok (.getfield 7, 3) := by decide +kernel
theorem dX6_init_64 : decode cX6_init 64 = .ok (.iconst 1, 1) := by decide +kernel
theorem dX6_init_65 : decode cX6_init 65 = .ok (.bipush 15, 2) := by decide +kernel
theorem dX6_init_67 : decode cX6_init 67 = .ok (.iastore, 1) := by decide +kernel
theorem dX6_init_68 : decode cX6_init 68 = .ok (.aload_n 0, 1) := by decide +kernel
theorem dX6_init_69 : decode cX6_init 69 = .ok (.getfield 7, 3) := by decide +kernel
theorem dX6_init_72 : decode cX6_init 72 = .ok (.iconst 2, 1) := by decide +kernel
theorem dX6_init_73 : decode cX6_init 73 = .ok (.iconst 2, 1) := by decide +kernel
theorem dX6_init_74 : decode cX6_init 74 = .ok (.iastore, 1) := by decide +kernel
theorem dX6_init_75 : decode cX6_init 75 = .ok (.aload_n 0, 1) := by decide +kernel
theorem dX6_init_76 : decode cX6_init 76 = .ok (.getfield 7, 3) := by decide +kernel
theorem dX6_init_79 : decode cX6_init 79 = .ok (.iconst 3, 1) := by decide +kernel
theorem dX6_init_80 : decode cX6_init 80 = .ok (.iconst 1, 1) := by decide +kernel
theorem dX6_init_81 : decode cX6_init 81 = .ok (.iastore, 1) := by decide +kernel
theorem dX6_init_82 : decode cX6_init 82 = .ok (.iconst 0, 1) := by decide +kernel
theorem dX6_init_83 : decode cX6_init 83 = .ok (.istore_n 1, 1) := by decide +kernel
theorem dX6_init_84 : decode cX6_init 84 = .ok (.iload_n 1, 1) := by decide +kernel
theorem dX6_init_85 : decode cX6_init 85 = .ok (.iconst 3, 1) := by decide +kernel
theorem dX6_init_86 : decode cX6_init 86 = .ok (.if_icmp .ge 19, 3) := by decide +kernel
theorem dX6_init_89 : decode cX6_init 89 = .ok (.aload_n 0, 1) := by decide +kernel
theorem dX6_init_90 : decode cX6_init 90 = .ok (.getfield 7, 3) := by decide +kernel
theorem dX6_init_93 : decode cX6_init 93 = .ok (.iconst 4, 1) := by decide +kernel
theorem dX6_init_94 : decode cX6_init 94 = .ok (.iload_n 1, 1) := by decide +kernel
theorem dX6_init_95 : decode cX6_init 95 = .ok (.iadd, 1) := by decide +kernel
theorem dX6_init_96 : decode cX6_init 96 = .ok (.bipush 40, 2) := by decide +kernel
theorem dX6_init_98 : decode cX6_init 98 = .ok (.iastore, 1) := by decide +kernel
theorem dX6_init_99 : decode cX6_init 99 = .ok (.iinc 1 1, 3) := by decide +kernel
theorem dX6_init_102 : decode cX6_init 102 = .ok (.goto (-18), 3) := by decide +kernel
theorem dX6_init_105 : decode cX6_init 105 = .ok (.iconst 0, 1) := by decide +kernel
theorem dX6_init_106 : decode cX6_init 106 = .ok (.istore_n 1, 1) := by decide +kernel
theorem dX6_init_107 : decode cX6_init 107 = .ok (.iload_n 1, 1) := by decide +kernel
theorem dX6_init_108 : decode cX6_init 108 = .ok (.bipush 12, 2) := by decide +kernel
theorem dX6_init_110 : decode cX6_init 110 = .ok (.if_icmp .ge 25, 3) := by decide +kernel
theorem dX6_init_113 : decode cX6_init 113 = .ok (.aload_n 0, 1) := by decide +kernel
theorem dX6_init_114 : decode cX6_init 114 = .ok (.getfield 7, 3) := by decide +kernel
theorem dX6_init_117 : decode cX6_init 117 = .ok (.bipush 12, 2) := by decide +kernel
theorem dX6_init_119 : decode cX6_init 119 = .ok (.bipush 6, 2) := by decide +kernel
theorem dX6_init_121 : decode cX6_init 121 = .ok (.iload_n 1, 1) := by decide +kernel
theorem dX6_init_122 : decode cX6_init 122 = .ok (.imul, 1) := by decide +kernel
theorem dX6_init_123 : decode cX6_init 123 = .ok (.iadd, 1) := by decide +kernel
theorem dX6_init_124 : decode cX6_init 124 = .ok (.iconst 1, 1) := by decide +kernel
theorem dX6_init_125 : decode cX6_init 125 = .ok (.iadd, 1) := by decide +kernel
theorem dX6_init_126 : decode cX6_init 126 = .ok (.bipush 10, 2) := by decide +kernel
theorem dX6_init_128 : decode cX6_init 128 = .ok (.iastore, 1) := by decide +kernel
theorem dX6_init_129 : decode cX6_init 129 = .ok (.iinc 1 1, 3) := by decide +kernel
theorem dX6_init_132 : decode cX6_init 132 = .ok (.goto (-25), 3) := by decide +kernel
theorem dX6_init_135 : decode cX6_init 135 = .ok (.return_, 1) := by decide +kernel
theorem dX6_thrown_0 : decode cX6_thrown 0 = .ok (.aload_n 0, 1) := by decide +kernel
theorem dX6_thrown_1 : decode cX6_thrown 1 = .ok (.getfield 28, 3) := by decide +kernel
theorem dX6_thrown_4 : decode cX6_thrown 4 = .ok (.ireturn, 1) := by decide +kernel
theorem dX6_fails_0 : decode cX6_fails 0 = .ok (.aload_n 0, 1) := by decide +kernel
theorem dX6_fails_1 : decode cX6_fails 1 = .ok (.iload_n 1, 1) := by decide +kernel
theorem dX6_fails_2 : decode cX6_fails 2 = .ok (.putfield 28, 3) := by decide +kernel
theorem dX6_fails_5 : decode cX6_fails 5 = .ok (.iconst 0, 1) := by decide +kernel
theorem dX6_fails_6 : decode cX6_fails 6 = .ok (.ireturn, 1) := by decide +kernel
theorem dX6_in_0 : decode cX6_in 0 = .ok (.iload_n 0, 1) := by decide +kernel
theorem dX6_in_1 : decode cX6_in 1 = .ok (.iload_n 1, 1) := by decide +kernel
theorem dX6_in_2 : decode cX6_in 2 = .ok (.if_icmp .lt 12, 3) := by decide +kernel
theorem dX6_in_5 : decode cX6_in 5 = .ok (.iload_n 0, 1) := by decide +kernel
theorem dX6_in_6 : decode cX6_in 6 = .ok (.iload_n 2, 1) := by decide +kernel
theorem dX6_in_7 : decode cX6_in 7 = .ok (.if_icmp .gt 7, 3) := by decide +kernel
theorem dX6_in_10 : decode cX6_in 10 = .ok (.iconst 1, 1) := by decide +kernel
theorem dX6_in_11 : decode cX6_in 11 = .ok (.goto 4, 3) := by decide +kernel
theorem dX6_in_14 : decode cX6_in 14 = .ok (.iconst 0, 1) := by decide +kernel
theorem dX6_in_15 : decode cX6_in 15 = .ok (.ireturn, 1) := by decide +kernel
theorem dX6_isStreet_0 : decode cX6_isStreet 0 = .ok (.iload_n 0, 1) := by decide +kernel
theorem dX6_isStreet_1 : decode cX6_isStreet 1 = .ok (.iconst 0, 1) := by decide +kernel
theorem dX6_isStreet_2 : decode cX6_isStreet 2 = .ok (.bipush 11, 2) := by decide +kernel
theorem dX6_isStreet_4 : decode cX6_isStreet 4 = .ok (.invokestatic 32, 3) := by decide +kernel
theorem dX6_isStreet_7 : decode cX6_isStreet 7 = .ok (.ireturn, 1) := by decide +kernel
theorem dX6_isCrew_0 : decode cX6_isCrew 0 = .ok (.iload_n 0, 1) := by decide +kernel
theorem dX6_isCrew_1 : decode cX6_isCrew 1 = .ok (.iconst 0, 1) := by decide +kernel
theorem dX6_isCrew_2 : decode cX6_isCrew 2 = .ok (.iconst 2, 1) := by decide +kernel
theorem dX6_isCrew_3 : decode cX6_isCrew 3 = .ok (.invokestatic 32, 3) := by decide +kernel
theorem dX6_isCrew_6 : decode cX6_isCrew 6 = .ok (.ireturn, 1) := by decide +kernel
theorem dX6_of_0 : decode cX6_of 0 = .ok (.aload_n 0, 1) := by decide +kernel
theorem dX6_of_1 : decode cX6_of 1 = .ok (.bipush 12, 2) := by decide +kernel
theorem dX6_of_3 : decode cX6_of 3 = .ok (.bipush 6, 2) := by decide +kernel
theorem dX6_of_5 : decode cX6_of 5 = .ok (.iload_n 1, 1) := by decide +kernel
theorem dX6_of_6 : decode cX6_of 6 = .ok (.imul, 1) := by decide +kernel
theorem dX6_of_7 : decode cX6_of 7 = .ok (.iadd, 1) := by decide +kernel
theorem dX6_of_8 : decode cX6_of 8 = .ok (.iload_n 2, 1) := by decide +kernel
theorem dX6_of_9 : decode cX6_of 9 = .ok (.iadd, 1) := by decide +kernel
theorem dX6_of_10 : decode cX6_of 10 = .ok (.iaload, 1) := by decide +kernel
theorem dX6_of_11 : decode cX6_of 11 = .ok (.ireturn, 1) := by decide +kernel
theorem dX6_first_0 : decode cX6_first 0 = .ok (.aload_n 0, 1) := by decide +kernel
theorem dX6_first_1 : decode cX6_first 1 = .ok (.bipush 84, 2) := by decide +kernel
theorem dX6_first_3 : decode cX6_first 3 = .ok (.bipush 9, 2) := by decide +kernel
theorem dX6_first_5 : decode cX6_first 5 = .ok (.iload_n 1, 1) := by decide +kernel
theorem dX6_first_6 : decode cX6_first 6 = .ok (.imul, 1) := by decide +kernel
theorem dX6_first_7 : decode cX6_first 7 = .ok (.iadd, 1) := by decide +kernel
theorem dX6_first_8 : decode cX6_first 8 = .ok (.iaload, 1) := by decide +kernel
theorem dX6_first_9 : decode cX6_first 9 = .ok (.ifCond .ne 7, 3) := by decide +kernel
theorem dX6_first_12 : decode cX6_first 12 = .ok (.iconst (-1), 1) := by decide +kernel
theorem dX6_first_13 : decode cX6_first 13 = .ok (.goto 14, 3) := by decide +kernel
theorem dX6_first_16 : decode cX6_first 16 = .ok (.aload_n 0, 1) := by decide +kernel
theorem dX6_first_17 : decode cX6_first 17 = .ok (.bipush 84, 2) := by decide +kernel
theorem dX6_first_19 : decode cX6_first 19 = .ok (.bipush 9, 2) := by decide +kernel
theorem dX6_first_21 : decode cX6_first 21 = .ok (.iload_n 1, 1) := by decide +kernel
theorem dX6_first_22 : decode cX6_first 22 = .ok (.imul, 1) := by decide +kernel
theorem dX6_first_23 : decode cX6_first 23 = .ok (.iadd, 1) := by decide +kernel
theorem dX6_first_24 : decode cX6_first 24 = .ok (.iconst 1, 1) := by decide +kernel
theorem dX6_first_25 : decode cX6_first 25 = .ok (.iadd, 1) := by decide +kernel
theorem dX6_first_26 : decode cX6_first 26 = .ok (.iaload, 1) := by decide +kernel
theorem dX6_first_27 : decode cX6_first 27 = .ok (.ireturn, 1) := by decide +kernel
theorem dX6_copies_0 : decode cX6_copies 0 = .ok (.iconst 0, 1) := by decide +kernel
theorem dX6_copies_1 : decode cX6_copies 1 = .ok (.istore 4, 2) := by decide +kernel
theorem dX6_copies_3 : decode cX6_copies 3 = .ok (.iload 4, 2) := by decide +kernel
theorem dX6_copies_5 : decode cX6_copies 5 = .ok (.bipush 111, 2) := by decide +kernel
theorem dX6_copies_7 : decode cX6_copies 7 = .ok (.if_icmp .ge 21, 3) := by decide +kernel
theorem dX6_copies_10 : decode cX6_copies 10 = .ok (.aload_n 2, 1) := by decide +kernel
theorem dX6_copies_11 : decode cX6_copies 11 = .ok (.iload_n 3, 1) := by decide +kernel
theorem dX6_copies_12 : decode cX6_copies 12 = .ok (.iload 4, 2) := by decide +kernel
theorem dX6_copies_14 : decode cX6_copies 14 = .ok (.iadd, 1) := by decide +kernel
theorem dX6_copies_15 : decode cX6_copies 15 = .ok (.aload_n 0, 1) := by decide +kernel
theorem dX6_copies_16 : decode cX6_copies 16 = .ok (.iload_n 1, 1) := by decide +kernel
theorem dX6_copies_17 : decode cX6_copies 17 = .ok (.iload 4, 2) := by decide +kernel
theorem dX6_copies_19 : decode cX6_copies 19 = .ok (.iadd, 1) := by decide +kernel
theorem dX6_copies_20 : decode cX6_copies 20 = .ok (.iaload, 1) := by decide +kernel
theorem dX6_copies_21 : decode cX6_copies 21 = .ok (.iastore, 1) := by decide +kernel
theorem dX6_copies_22 : decode cX6_copies 22 = .ok (.iinc 4 1, 3) := by decide +kernel
theorem dX6_copies_25 : decode cX6_copies 25 = .ok (.goto (-22), 3) := by decide +kernel
theorem dX6_copies_28 : decode cX6_copies 28 = .ok (.return_, 1) := by decide +kernel
theorem dX6_saves_0 : decode cX6_saves 0 = .ok (.aload_n 0, 1) := by decide +kernel
theorem dX6_saves_1 : decode cX6_saves 1 = .ok (.getfield 36, 3) := by decide +kernel
theorem dX6_saves_4 : decode cX6_saves 4 = .ok (.bipush 6, 2) := by decide +kernel
theorem dX6_saves_6 : decode cX6_saves 6 = .ok (.if_icmp .ne 43, 3) := by decide +kernel
theorem dX6_saves_9 : decode cX6_saves 9 = .ok (.iconst 0, 1) := by decide +kernel
theorem dX6_saves_10 : decode cX6_saves 10 = .ok (.istore_n 1, 1) := by decide +kernel
theorem dX6_saves_11 : decode cX6_saves 11 = .ok (.iload_n 1, 1) := by decide +kernel
theorem dX6_saves_12 : decode cX6_saves 12 = .ok (.sipush 555, 3) := by decide +kernel
theorem dX6_saves_15 : decode cX6_saves 15 = .ok (.if_icmp .ge 24, 3) := by decide +kernel
theorem dX6_saves_18 : decode cX6_saves 18 = .ok (.aload_n 0, 1) := by decide +kernel
theorem dX6_saves_19 : decode cX6_saves 19 = .ok (.getfield 16, 3) := by decide +kernel
theorem dX6_saves_22 : decode cX6_saves 22 = .ok (.iload_n 1, 1) := by decide +kernel
theorem dX6_saves_23 : decode cX6_saves 23 = .ok (.aload_n 0, 1) := by decide +kernel
theorem dX6_saves_24 : decode cX6_saves 24 = .ok (.getfield 16, 3) := by decide +kernel
theorem dX6_saves_27 : decode cX6_saves 27 = .ok (.iload_n 1, 1) := by decide +kernel
theorem dX6_saves_28 : decode cX6_saves 28 = .ok (.bipush 111, 2) := by decide +kernel
theorem dX6_saves_30 : decode cX6_saves 30 = .ok (.iadd, 1) := by decide +kernel
theorem dX6_saves_31 : decode cX6_saves 31 = .ok (.iaload, 1) := by decide +kernel
theorem dX6_saves_32 : decode cX6_saves 32 = .ok (.iastore, 1) := by decide +kernel
theorem dX6_saves_33 : decode cX6_saves 33 = .ok (.iinc 1 1, 3) := by decide +kernel
theorem dX6_saves_36 : decode cX6_saves 36 = .ok (.goto (-25), 3) := by decide +kernel
theorem dX6_saves_39 : decode cX6_saves 39 = .ok (.aload_n 0, 1) := by decide +kernel
theorem dX6_saves_40 : decode cX6_saves 40 = .ok (.dup, 1) := by decide +kernel
theorem dX6_saves_41 : decode cX6_saves 41 = .ok (.getfield 36, 3) := by decide +kernel
theorem dX6_saves_44 : decode cX6_saves 44 = .ok (.iconst 1, 1) := by decide +kernel
theorem dX6_saves_45 : decode cX6_saves 45 = .ok (.isub, 1) := by decide +kernel
theorem dX6_saves_46 : decode cX6_saves 46 = .ok (.putfield 36, 3) := by decide +kernel
theorem dX6_saves_49 : decode cX6_saves 49 = .ok (.aload_n 0, 1) := by decide +kernel
theorem dX6_saves_50 : decode cX6_saves 50 = .ok (.getfield 7, 3) := by decide +kernel
theorem dX6_saves_53 : decode cX6_saves 53 = .ok (.iconst 0, 1) := by decide +kernel
theorem dX6_saves_54 : decode cX6_saves 54 = .ok (.aload_n 0, 1) := by decide +kernel
theorem dX6_saves_55 : decode cX6_saves 55 = .ok (.getfield 16, 3) := by decide +kernel
theorem dX6_saves_58 : decode cX6_saves 58 = .ok (.bipush 111, 2) := by decide +kernel
theorem dX6_saves_60 : decode cX6_saves 60 = .ok (.aload_n 0, 1) := by decide +kernel
theorem dX6_saves_61 : decode cX6_saves 61 = .ok (.getfield 36, 3) := by decide +kernel
theorem dX6_saves_64 : decode cX6_saves 64 = .ok (.imul, 1) := by decide +kernel
theorem dX6_saves_65 : decode cX6_saves 65 = .ok (.invokestatic 39, 3) := by decide +kernel
theorem dX6_saves_68 : decode cX6_saves 68 = .ok (.aload_n 0, 1) := by decide +kernel
theorem dX6_saves_69 : decode cX6_saves 69 = .ok (.dup, 1) := by decide +kernel
theorem dX6_saves_70 : decode cX6_saves 70 = .ok (.getfield 36, 3) := by decide +kernel
theorem dX6_saves_73 : decode cX6_saves 73 = .ok (.iconst 1, 1) := by decide +kernel
theorem dX6_saves_74 : decode cX6_saves 74 = .ok (.iadd, 1) := by decide +kernel
theorem dX6_saves_75 : decode cX6_saves 75 = .ok (.putfield 36, 3) := by decide +kernel
theorem dX6_saves_78 : decode cX6_saves 78 = .ok (.return_, 1) := by decide +kernel
theorem dX6_undo_0 : decode cX6_undo 0 = .ok (.aload_n 0, 1) := by decide +kernel
theorem dX6_undo_1 : decode cX6_undo 1 = .ok (.iconst 0, 1) := by decide +kernel
theorem dX6_undo_2 : decode cX6_undo 2 = .ok (.putfield 28, 3) := by decide +kernel
theorem dX6_undo_5 : decode cX6_undo 5 = .ok (.aload_n 0, 1) := by decide +kernel
theorem dX6_undo_6 : decode cX6_undo 6 = .ok (.getfield 36, 3) := by decide +kernel
theorem dX6_undo_9 : decode cX6_undo 9 = .ok (.ifCond .ne 9, 3) := by decide +kernel
theorem dX6_undo_12 : decode cX6_undo 12 = .ok (.aload_n 0, 1) := by decide +kernel
theorem dX6_undo_13 : decode cX6_undo 13 = .ok (.iconst 1, 1) := by decide +kernel
theorem dX6_undo_14 : decode cX6_undo 14 = .ok (.invokevirtual 43, 3) := by decide +kernel
theorem dX6_undo_17 : decode cX6_undo 17 = .ok (.ireturn, 1) := by decide +kernel
theorem dX6_undo_18 : decode cX6_undo 18 = .ok (.aload_n 0, 1) := by decide +kernel
theorem dX6_undo_19 : decode cX6_undo 19 = .ok (.dup, 1) := by decide +kernel
theorem dX6_undo_20 : decode cX6_undo 20 = .ok (.getfield 36, 3) := by decide +kernel
theorem dX6_undo_23 : decode cX6_undo 23 = .ok (.iconst 1, 1) := by decide +kernel
theorem dX6_undo_24 : decode cX6_undo 24 = .ok (.isub, 1) := by decide +kernel
theorem dX6_undo_25 : decode cX6_undo 25 = .ok (.putfield 36, 3) := by decide +kernel
theorem dX6_undo_28 : decode cX6_undo 28 = .ok (.aload_n 0, 1) := by decide +kernel
theorem dX6_undo_29 : decode cX6_undo 29 = .ok (.getfield 16, 3) := by decide +kernel
theorem dX6_undo_32 : decode cX6_undo 32 = .ok (.bipush 111, 2) := by decide +kernel
theorem dX6_undo_34 : decode cX6_undo 34 = .ok (.aload_n 0, 1) := by decide +kernel
theorem dX6_undo_35 : decode cX6_undo 35 = .ok (.getfield 36, 3) := by decide +kernel
theorem dX6_undo_38 : decode cX6_undo 38 = .ok (.imul, 1) := by decide +kernel
theorem dX6_undo_39 : decode cX6_undo 39 = .ok (.aload_n 0, 1) := by decide +kernel
theorem dX6_undo_40 : decode cX6_undo 40 = .ok (.getfield 7, 3) := by decide +kernel
theorem dX6_undo_43 : decode cX6_undo 43 = .ok (.iconst 0, 1) := by decide +kernel
theorem dX6_undo_44 : decode cX6_undo 44 = .ok (.invokestatic 39, 3) := by decide +kernel
theorem dX6_undo_47 : decode cX6_undo 47 = .ok (.aload_n 0, 1) := by decide +kernel
theorem dX6_undo_48 : decode cX6_undo 48 = .ok (.getfield 36, 3) := by decide +kernel
theorem dX6_undo_51 : decode cX6_undo 51 = .ok (.ireturn, 1) := by decide +kernel
theorem dX6_own_0 : decode cX6_own 0 = .ok (.iload_n 1, 1) := by decide +kernel
theorem dX6_own_1 : decode cX6_own 1 = .ok (.iconst 4, 1) := by decide +kernel
theorem dX6_own_2 : decode cX6_own 2 = .ok (.idiv, 1) := by decide +kernel
theorem dX6_own_3 : decode cX6_own 3 = .ok (.istore_n 3, 1) := by decide +kernel
theorem dX6_own_4 : decode cX6_own 4 = .ok (.aload_n 0, 1) := by decide +kernel
theorem dX6_own_5 : decode cX6_own 5 = .ok (.iconst 4, 1) := by decide +kernel
theorem dX6_own_6 : decode cX6_own 6 = .ok (.iload_n 3, 1) := by decide +kernel
theorem dX6_own_7 : decode cX6_own 7 = .ok (.iadd, 1) := by decide +kernel
theorem dX6_own_8 : decode cX6_own 8 = .ok (.iaload, 1) := by decide +kernel
theorem dX6_own_9 : decode cX6_own 9 = .ok (.iload_n 1, 1) := by decide +kernel
theorem dX6_own_10 : decode cX6_own 10 = .ok (.iconst 4, 1) := by decide +kernel
theorem dX6_own_11 : decode cX6_own 11 = .ok (.irem, 1) := by decide +kernel
theorem dX6_own_12 : decode cX6_own 12 = .ok (.isub, 1) := by decide +kernel
theorem dX6_own_13 : decode cX6_own 13 = .ok (.istore 4, 2) := by decide +kernel
theorem dX6_own_15 : decode cX6_own 15 = .ok (.iconst 4, 1) := by decide +kernel
theorem dX6_own_16 : decode cX6_own 16 = .ok (.iload_n 3, 1) := by decide +kernel
theorem dX6_own_17 : decode cX6_own 17 = .ok (.imul, 1) := by decide +kernel
theorem dX6_own_18 : decode cX6_own 18 = .ok (.istore 5, 2) := by decide +kernel
theorem dX6_own_20 : decode cX6_own 20 = .ok (.iload 5, 2) := by decide +kernel
theorem dX6_own_22 : decode cX6_own 22 = .ok (.iconst 4, 1) := by decide +kernel
theorem dX6_own_23 : decode cX6_own 23 = .ok (.iload_n 3, 1) := by decide +kernel
theorem dX6_own_24 : decode cX6_own 24 = .ok (.imul, 1) := by decide +kernel
theorem dX6_own_25 : decode cX6_own 25 = .ok (.iconst 4, 1) := by decide +kernel
theorem dX6_own_26 : decode cX6_own 26 = .ok (.iadd, 1) := by decide +kernel
theorem dX6_own_27 : decode cX6_own 27 = .ok (.if_icmp .ge 35, 3) := by decide +kernel
theorem dX6_own_30 : decode cX6_own 30 = .ok (.iload 4, 2) := by decide +kernel
theorem dX6_own_32 : decode cX6_own 32 = .ok (.iload_n 2, 1) := by decide +kernel
theorem dX6_own_33 : decode cX6_own 33 = .ok (.iload 5, 2) := by decide +kernel
theorem dX6_own_35 : decode cX6_own 35 = .ok (.ishr, 1) := by decide +kernel
theorem dX6_own_36 : decode cX6_own 36 = .ok (.iconst 1, 1) := by decide +kernel
theorem dX6_own_37 : decode cX6_own 37 = .ok (.iand, 1) := by decide +kernel
theorem dX6_own_38 : decode cX6_own 38 = .ok (.iconst 1, 1) := by decide +kernel
theorem dX6_own_39 : decode cX6_own 39 = .ok (.if_icmp .ne 13, 3) := by decide +kernel
theorem dX6_own_42 : decode cX6_own 42 = .ok (.aload_n 0, 1) := by decide +kernel
theorem dX6_own_43 : decode cX6_own 43 = .ok (.iload 5, 2) := by decide +kernel
theorem dX6_own_45 : decode cX6_own 45 = .ok (.iconst 1, 1) := by decide +kernel
theorem dX6_own_46 : decode cX6_own 46 = .ok (.invokestatic 47, 3) := by decide +kernel
theorem dX6_own_49 : decode cX6_own 49 = .ok (.goto 4, 3) := by decide +kernel
theorem dX6_own_52 : decode cX6_own 52 = .ok (.iconst 0, 1) := by decide +kernel
theorem dX6_own_53 : decode cX6_own 53 = .ok (.isub, 1) := by decide +kernel
theorem dX6_own_54 : decode cX6_own 54 = .ok (.istore 4, 2) := by decide +kernel
theorem dX6_own_56 : decode cX6_own 56 = .ok (.iinc 5 1, 3) := by decide +kernel
theorem dX6_own_59 : decode cX6_own 59 = .ok (.goto (-39), 3) := by decide +kernel
theorem dX6_own_62 : decode cX6_own 62 = .ok (.iload 4, 2) := by decide +kernel
theorem dX6_own_64 : decode cX6_own 64 = .ok (.ifCond .ge 7, 3) := by decide +kernel
theorem dX6_own_67 : decode cX6_own 67 = .ok (.iconst 0, 1) := by decide +kernel
theorem dX6_own_68 : decode cX6_own 68 = .ok (.goto 5, 3) := by decide +kernel
theorem dX6_own_71 : decode cX6_own 71 = .ok (.iload 4, 2) := by decide +kernel
theorem dX6_own_73 : decode cX6_own 73 = .ok (.ireturn, 1) := by decide +kernel
theorem dX6_pressureAt_0 : decode cX6_pressureAt 0 = .ok (.aload_n 0, 1) := by decide +kernel
theorem dX6_pressureAt_1 : decode cX6_pressureAt 1 = .ok (.iload_n 1, 1) := by decide +kernel
theorem dX6_pressureAt_2 : decode cX6_pressureAt 2 = .ok (.iload_n 2, 1) := by decide +kernel
theorem dX6_pressureAt_3 : decode cX6_pressureAt 3 = .ok (.invokestatic 51, 3) := by decide +kernel
theorem dX6_pressureAt_6 : decode cX6_pressureAt 6 = .ok (.istore_n 3, 1) := by decide +kernel
theorem dX6_pressureAt_7 : decode cX6_pressureAt 7 = .ok (.iload_n 1, 1) := by decide +kernel
theorem dX6_pressureAt_8 : decode cX6_pressureAt 8 = .ok (.iconst 4, 1) := by decide +kernel
theorem dX6_pressureAt_9 : decode cX6_pressureAt 9 = .ok (.idiv, 1) := by decide +kernel
theorem dX6_pressureAt_10 : decode cX6_pressureAt 10 = .ok (.istore 4, 2) := by decide +kernel
theorem dX6_pressureAt_12 : decode cX6_pressureAt 12 = .ok (.iload 4, 2) := by decide +kernel
theorem dX6_pressureAt_14 : decode cX6_pressureAt 14 = .ok (.ifCond .le 48, 3) := by decide +kernel
theorem dX6_pressureAt_17 : decode cX6_pressureAt 17 = .ok (.aload_n 0, 1) := by decide +kernel
theorem dX6_pressureAt_18 : decode cX6_pressureAt 18 = .ok (.bipush 7, 2) := by decide +kernel
theorem dX6_pressureAt_20 : decode cX6_pressureAt 20 = .ok (.iload 4, 2) := by decide +kernel
theorem dX6_pressureAt_22 : decode cX6_pressureAt 22 = .ok (.iadd, 1) := by decide +kernel
theorem dX6_pressureAt_23 : decode cX6_pressureAt 23 = .ok (.iconst 1, 1) := by decide +kernel
theorem dX6_pressureAt_24 : decode cX6_pressureAt 24 = .ok (.isub, 1) := by decide +kernel
theorem dX6_pressureAt_25 : decode cX6_pressureAt 25 = .ok (.iaload, 1) := by decide +kernel
theorem dX6_pressureAt_26 : decode cX6_pressureAt 26 = .ok (.iconst 1, 1) := by decide +kernel
theorem dX6_pressureAt_27 : decode cX6_pressureAt 27 = .ok (.if_icmp .ne 35, 3) := by decide +kernel
theorem dX6_pressureAt_30 : decode cX6_pressureAt 30 = .ok (.iinc 4 (-1), 3) := by decide +kernel
theorem dX6_pressureAt_33 : decode cX6_pressureAt 33 = .ok (.aload_n 0, 1) := by decide +kernel
theorem dX6_pressureAt_34 : decode cX6_pressureAt 34 = .ok (.iconst 4, 1) := by decide +kernel
theorem dX6_pressureAt_35 : decode cX6_pressureAt 35 = .ok (.iload 4, 2) := by decide +kernel
theorem dX6_pressureAt_37 : decode cX6_pressureAt 37 = .ok (.imul, 1) := by decide +kernel
theorem dX6_pressureAt_38 : decode cX6_pressureAt 38 = .ok (.iconst 3, 1) := by decide +kernel
theorem dX6_pressureAt_39 : decode cX6_pressureAt 39 = .ok (.iadd, 1) := by decide +kernel
theorem dX6_pressureAt_40 : decode cX6_pressureAt 40 = .ok (.iload_n 2, 1) := by decide +kernel
theorem dX6_pressureAt_41 : decode cX6_pressureAt 41 = .ok (.invokestatic 51, 3) := by decide +kernel
theorem dX6_pressureAt_44 : decode cX6_pressureAt 44 = .ok (.istore 5, 2) := by decide +kernel
theorem dX6_pressureAt_46 : decode cX6_pressureAt 46 = .ok (.iload 5, 2) := by decide +kernel
theorem dX6_pressureAt_48 : decode cX6_pressureAt 48 = .ok (.iload_n 3, 1) := by decide +kernel
theorem dX6_pressureAt_49 : decode cX6_pressureAt 49 = .ok (.if_icmp .ge 8, 3) := by decide +kernel
theorem dX6_pressureAt_52 : decode cX6_pressureAt 52 = .ok (.iload 5, 2) := by decide +kernel
theorem dX6_pressureAt_54 : decode cX6_pressureAt 54 = .ok (.goto 4, 3) := by decide +kernel
theorem dX6_pressureAt_57 : decode cX6_pressureAt 57 = .ok (.iload_n 3, 1) := by decide +kernel
theorem dX6_pressureAt_58 : decode cX6_pressureAt 58 = .ok (.istore_n 3, 1) := by decide +kernel
theorem dX6_pressureAt_59 : decode cX6_pressureAt 59 = .ok (.goto (-47), 3) := by decide +kernel
theorem dX6_pressureAt_62 : decode cX6_pressureAt 62 = .ok (.iload_n 3, 1) := by decide +kernel
theorem dX6_pressureAt_63 : decode cX6_pressureAt 63 = .ok (.ireturn, 1) := by decide +kernel
theorem dX6_source_0 : decode cX6_source 0 = .ok (.iload_n 1, 1) := by decide +kernel
theorem dX6_source_1 : decode cX6_source 1 = .ok (.iconst 4, 1) := by decide +kernel
theorem dX6_source_2 : decode cX6_source 2 = .ok (.irem, 1) := by decide +kernel
theorem dX6_source_3 : decode cX6_source 3 = .ok (.ifCond .gt 21, 3) := by decide +kernel
theorem dX6_source_6 : decode cX6_source 6 = .ok (.iload_n 1, 1) := by decide +kernel
theorem dX6_source_7 : decode cX6_source 7 = .ok (.ifCond .le 21, 3) := by decide +kernel
theorem dX6_source_10 : decode cX6_source 10 = .ok (.aload_n 0, 1) := by decide +kernel
theorem dX6_source_11 : decode cX6_source 11 = .ok (.bipush 7, 2) := by decide +kernel
theorem dX6_source_13 : decode cX6_source 13 = .ok (.iload_n 1, 1) := by decide +kernel
theorem dX6_source_14 : decode cX6_source 14 = .ok (.iconst 4, 1) := by decide +kernel
theorem dX6_source_15 : decode cX6_source 15 = .ok (.idiv, 1) := by decide +kernel
theorem dX6_source_16 : decode cX6_source 16 = .ok (.iadd, 1) := by decide +kernel
theorem dX6_source_17 : decode cX6_source 17 = .ok (.iconst 1, 1) := by decide +kernel
theorem dX6_source_18 : decode cX6_source 18 = .ok (.isub, 1) := by decide +kernel
theorem dX6_source_19 : decode cX6_source 19 = .ok (.iaload, 1) := by decide +kernel
theorem dX6_source_20 : decode cX6_source 20 = .ok (.iconst 1, 1) := by decide +kernel
theorem dX6_source_21 : decode cX6_source 21 = .ok (.if_icmp .ne 7, 3) := by decide +kernel
theorem dX6_source_24 : decode cX6_source 24 = .ok (.iconst 1, 1) := by decide +kernel
theorem dX6_source_25 : decode cX6_source 25 = .ok (.goto 4, 3) := by decide +kernel
theorem dX6_source_28 : decode cX6_source 28 = .ok (.iconst 0, 1) := by decide +kernel
theorem dX6_source_29 : decode cX6_source 29 = .ok (.istore_n 2, 1) := by decide +kernel
theorem dX6_source_30 : decode cX6_source 30 = .ok (.iload_n 2, 1) := by decide +kernel
theorem dX6_source_31 : decode cX6_source 31 = .ok (.ifCond .eq 9, 3) := by decide +kernel
theorem dX6_source_34 : decode cX6_source 34 = .ok (.iload_n 1, 1) := by decide +kernel
theorem dX6_source_35 : decode cX6_source 35 = .ok (.iconst 1, 1) := by decide +kernel
theorem dX6_source_36 : decode cX6_source 36 = .ok (.isub, 1) := by decide +kernel
theorem dX6_source_37 : decode cX6_source 37 = .ok (.goto 4, 3) := by decide +kernel
theorem dX6_source_40 : decode cX6_source 40 = .ok (.iconst (-1), 1) := by decide +kernel
theorem dX6_source_41 : decode cX6_source 41 = .ok (.ireturn, 1) := by decide +kernel
theorem dX6_isBrown_0 : decode cX6_isBrown 0 = .ok (.aload_n 0, 1) := by decide +kernel
theorem dX6_isBrown_1 : decode cX6_isBrown 1 = .ok (.iload_n 1, 1) := by decide +kernel
theorem dX6_isBrown_2 : decode cX6_isBrown 2 = .ok (.iconst 0, 1) := by decide +kernel
theorem dX6_isBrown_3 : decode cX6_isBrown 3 = .ok (.invokestatic 47, 3) := by decide +kernel
theorem dX6_isBrown_6 : decode cX6_isBrown 6 = .ok (.aload_n 0, 1) := by decide +kernel
theorem dX6_isBrown_7 : decode cX6_isBrown 7 = .ok (.iconst 0, 1) := by decide +kernel
theorem dX6_isBrown_8 : decode cX6_isBrown 8 = .ok (.iaload, 1) := by decide +kernel
theorem dX6_isBrown_9 : decode cX6_isBrown 9 = .ok (.if_icmp .le 7, 3) := by decide +kernel
theorem dX6_isBrown_12 : decode cX6_isBrown 12 = .ok (.iconst 1, 1) := by decide +kernel
theorem dX6_isBrown_13 : decode cX6_isBrown 13 = .ok (.goto 4, 3) := by decide +kernel
theorem dX6_isBrown_16 : decode cX6_isBrown 16 = .ok (.iconst 0, 1) := by decide +kernel
theorem dX6_isBrown_17 : decode cX6_isBrown 17 = .ok (.ireturn, 1) := by decide +kernel
theorem dX6_lays_0 : decode cX6_lays 0 = .ok (.aload_n 0, 1) := by decide +kernel
theorem dX6_lays_1 : decode cX6_lays 1 = .ok (.iconst 0, 1) := by decide +kernel
theorem dX6_lays_2 : decode cX6_lays 2 = .ok (.putfield 54, 3) := by decide +kernel
theorem dX6_lays_5 : decode cX6_lays 5 = .ok (.iconst 0, 1) := by decide +kernel
theorem dX6_lays_6 : decode cX6_lays 6 = .ok (.istore_n 2, 1) := by decide +kernel
theorem dX6_lays_7 : decode cX6_lays 7 = .ok (.iload_n 2, 1) := by decide +kernel
theorem dX6_lays_8 : decode cX6_lays 8 = .ok (.iconst 3, 1) := by decide +kernel
theorem dX6_lays_9 : decode cX6_lays 9 = .ok (.if_icmp .ge 151, 3) := by decide +kernel
theorem dX6_lays_12 : decode cX6_lays 12 = .ok (.aload_n 1, 1) := by decide +kernel
theorem dX6_lays_13 : decode cX6_lays 13 = .ok (.iload_n 2, 1) := by decide +kernel
theorem dX6_lays_14 : decode cX6_lays 14 = .ok (.invokestatic 57, 3) := by decide +kernel
theorem dX6_lays_17 : decode cX6_lays 17 = .ok (.istore_n 3, 1) := by decide +kernel
theorem dX6_lays_18 : decode cX6_lays 18 = .ok (.iload_n 3, 1) := by decide +kernel
theorem dX6_lays_19 : decode cX6_lays 19 = .ok (.iconst (-1), 1) := by decide +kernel
theorem dX6_lays_20 : decode cX6_lays 20 = .ok (.if_icmp .ne 13, 3) := by decide +kernel
theorem dX6_lays_23 : decode cX6_lays 23 = .ok (.aload_n 0, 1) := by decide +kernel
theorem dX6_lays_24 : decode cX6_lays 24 = .ok (.getfield 25, 3) := by decide +kernel
theorem dX6_lays_27 : decode cX6_lays 27 = .ok (.iload_n 2, 1) := by decide +kernel
theorem dX6_lays_28 : decode cX6_lays 28 = .ok (.iconst (-1), 1) := by decide +kernel
theorem dX6_lays_29 : decode cX6_lays 29 = .ok (.iastore, 1) := by decide +kernel
theorem dX6_lays_30 : decode cX6_lays 30 = .ok (.goto 124, 3) := by decide +kernel
theorem dX6_lays_33 : decode cX6_lays 33 = .ok (.aload_n 1, 1) := by decide +kernel
theorem dX6_lays_34 : decode cX6_lays 34 = .ok (.iload_n 3, 1) := by decide +kernel
theorem dX6_lays_35 : decode cX6_lays 35 = .ok (.invokestatic 61, 3) := by decide +kernel
theorem dX6_lays_38 : decode cX6_lays 38 = .ok (.istore 4, 2) := by decide +kernel
theorem dX6_lays_40 : decode cX6_lays 40 = .ok (.aload_n 0, 1) := by decide +kernel
theorem dX6_lays_41 : decode cX6_lays 41 = .ok (.getfield 54, 3) := by decide +kernel
theorem dX6_lays_44 : decode cX6_lays 44 = .ok (.iload_n 3, 1) := by decide +kernel
theorem dX6_lays_45 : decode cX6_lays 45 = .ok (.ishr, 1) := by decide +kernel
theorem dX6_lays_46 : decode cX6_lays 46 = .ok (.iconst 1, 1) := by decide +kernel
theorem dX6_lays_47 : decode cX6_lays 47 = .ok (.iand, 1) := by decide +kernel
theorem dX6_lays_48 : decode cX6_lays 48 = .ok (.iconst 1, 1) := by decide +kernel
theorem dX6_lays_49 : decode cX6_lays 49 = .ok (.if_icmp .ne 7, 3) := by decide +kernel
theorem dX6_lays_52 : decode cX6_lays 52 = .ok (.iconst 1, 1) := by decide +kernel
theorem dX6_lays_53 : decode cX6_lays 53 = .ok (.goto 4, 3) := by decide +kernel
theorem dX6_lays_56 : decode cX6_lays 56 = .ok (.iconst 0, 1) := by decide +kernel
theorem dX6_lays_57 : decode cX6_lays 57 = .ok (.istore 5, 2) := by decide +kernel
theorem dX6_lays_59 : decode cX6_lays 59 = .ok (.aload_n 1, 1) := by decide +kernel
theorem dX6_lays_60 : decode cX6_lays 60 = .ok (.iload_n 3, 1) := by decide +kernel
theorem dX6_lays_61 : decode cX6_lays 61 = .ok (.aload_n 0, 1) := by decide +kernel
theorem dX6_lays_62 : decode cX6_lays 62 = .ok (.getfield 54, 3) := by decide +kernel
theorem dX6_lays_65 : decode cX6_lays 65 = .ok (.iconst 1, 1) := by decide +kernel
theorem dX6_lays_66 : decode cX6_lays 66 = .ok (.iload_n 3, 1) := by decide +kernel
theorem dX6_lays_67 : decode cX6_lays 67 = .ok (.ishl, 1) := by decide +kernel
theorem dX6_lays_68 : decode cX6_lays 68 = .ok (.ior, 1) := by decide +kernel
theorem dX6_lays_69 : decode cX6_lays 69 = .ok (.invokestatic 64, 3) := by decide +kernel
theorem dX6_lays_72 : decode cX6_lays 72 = .ok (.aload_n 1, 1) := by decide +kernel
theorem dX6_lays_73 : decode cX6_lays 73 = .ok (.iconst 1, 1) := by decide +kernel
theorem dX6_lays_74 : decode cX6_lays 74 = .ok (.iaload, 1) := by decide +kernel
theorem dX6_lays_75 : decode cX6_lays 75 = .ok (.if_icmp .ge 7, 3) := by decide +kernel
theorem dX6_lays_78 : decode cX6_lays 78 = .ok (.iconst 1, 1) := by decide +kernel
theorem dX6_lays_79 : decode cX6_lays 79 = .ok (.goto 4, 3) := by decide +kernel
theorem dX6_lays_82 : decode cX6_lays 82 = .ok (.iconst 0, 1) := by decide +kernel
theorem dX6_lays_83 : decode cX6_lays 83 = .ok (.istore 6, 2) := by decide +kernel
theorem dX6_lays_85 : decode cX6_lays 85 = .ok (.aload_n 0, 1) := by decide +kernel
theorem dX6_lays_86 : decode cX6_lays 86 = .ok (.getfield 25, 3) := by decide +kernel
theorem dX6_lays_89 : decode cX6_lays 89 = .ok (.iload_n 2, 1) := by decide +kernel
theorem dX6_lays_90 : decode cX6_lays 90 = .ok (.iload 5, 2) := by decide +kernel
theorem dX6_lays_92 : decode cX6_lays 92 = .ok (.ifCond .eq 7, 3) := by decide +kernel
theorem dX6_lays_95 : decode cX6_lays 95 = .ok (.iconst 1, 1) := by decide +kernel
theorem dX6_lays_96 : decode cX6_lays 96 = .ok (.goto 32, 3) := by decide +kernel
theorem dX6_lays_99 : decode cX6_lays 99 = .ok (.iload 6, 2) := by decide +kernel
theorem dX6_lays_101 : decode cX6_lays 101 = .ok (.ifCond .eq 7, 3) := by decide +kernel
theorem dX6_lays_104 : decode cX6_lays 104 = .ok (.iconst 2, 1) := by decide +kernel
theorem dX6_lays_105 : decode cX6_lays 105 = .ok (.goto 23, 3) := by decide +kernel
theorem dX6_lays_108 : decode cX6_lays 108 = .ok (.iload 4, 2) := by decide +kernel
theorem dX6_lays_110 : decode cX6_lays 110 = .ok (.iconst (-1), 1) := by decide +kernel
theorem dX6_lays_111 : decode cX6_lays 111 = .ok (.if_icmp .eq 16, 3) := by decide +kernel
theorem dX6_lays_114 : decode cX6_lays 114 = .ok (.aload_n 1, 1) := by decide +kernel
theorem dX6_lays_115 : decode cX6_lays 115 = .ok (.iload 4, 2) := by decide +kernel
theorem dX6_lays_117 : decode cX6_lays 117 = .ok (.invokestatic 67, 3) := by decide +kernel
theorem dX6_lays_120 : decode cX6_lays 120 = .ok (.ifCond .eq 7, 3) := by decide +kernel
theorem dX6_lays_123 : decode cX6_lays 123 = .ok (.iconst 3, 1) := by decide +kernel
theorem dX6_lays_124 : decode cX6_lays 124 = .ok (.goto 4, 3) := by decide +kernel
theorem dX6_lays_127 : decode cX6_lays 127 = .ok (.iconst 0, 1) := by decide +kernel
theorem dX6_lays_128 : decode cX6_lays 128 = .ok (.iastore, 1) := by decide +kernel
theorem dX6_lays_129 : decode cX6_lays 129 = .ok (.aload_n 0, 1) := by decide +kernel
theorem dX6_lays_130 : decode cX6_lays 130 = .ok (.dup, 1) := by decide +kernel
theorem dX6_lays_131 : decode cX6_lays 131 = .ok (.getfield 54, 3) := by decide +kernel
theorem dX6_lays_134 : decode cX6_lays 134 = .ok (.aload_n 0, 1) := by decide +kernel
theorem dX6_lays_135 : decode cX6_lays 135 = .ok (.getfield 25, 3) := by decide +kernel
theorem dX6_lays_138 : decode cX6_lays 138 = .ok (.iload_n 2, 1) := by decide +kernel
theorem dX6_lays_139 : decode cX6_lays 139 = .ok (.iaload, 1) := by decide +kernel
theorem dX6_lays_140 : decode cX6_lays 140 = .ok (.ifCond .ne 9, 3) := by decide +kernel
theorem dX6_lays_143 : decode cX6_lays 143 = .ok (.iconst 1, 1) := by decide +kernel
theorem dX6_lays_144 : decode cX6_lays 144 = .ok (.iload_n 3, 1) := by decide +kernel
theorem dX6_lays_145 : decode cX6_lays 145 = .ok (.ishl, 1) := by decide +kernel
theorem dX6_lays_146 : decode cX6_lays 146 = .ok (.goto 4, 3) := by decide +kernel
theorem dX6_lays_149 : decode cX6_lays 149 = .ok (.iconst 0, 1) := by decide +kernel
theorem dX6_lays_150 : decode cX6_lays 150 = .ok (.ior, 1) := by decide +kernel
theorem dX6_lays_151 : decode cX6_lays 151 = .ok (.putfield 54, 3) := by decide +kernel
theorem dX6_lays_154 : decode cX6_lays 154 = .ok (.iinc 2 1, 3) := by decide +kernel
theorem dX6_lays_157 : decode cX6_lays 157 = .ok (.goto (-150), 3) := by decide +kernel
theorem dX6_lays_160 : decode cX6_lays 160 = .ok (.return_, 1) := by decide +kernel
theorem dX6_comes_0 : decode cX6_comes 0 = .ok (.bipush 12, 2) := by decide +kernel
theorem dX6_comes_2 : decode cX6_comes 2 = .ok (.bipush 6, 2) := by decide +kernel
theorem dX6_comes_4 : decode cX6_comes 4 = .ok (.iload_n 1, 1) := by decide +kernel
theorem dX6_comes_5 : decode cX6_comes 5 = .ok (.imul, 1) := by decide +kernel
theorem dX6_comes_6 : decode cX6_comes 6 = .ok (.iadd, 1) := by decide +kernel
theorem dX6_comes_7 : decode cX6_comes 7 = .ok (.istore_n 3, 1) := by decide +kernel
theorem dX6_comes_8 : decode cX6_comes 8 = .ok (.aload_n 0, 1) := by decide +kernel
theorem dX6_comes_9 : decode cX6_comes 9 = .ok (.iload_n 3, 1) := by decide +kernel
theorem dX6_comes_10 : decode cX6_comes 10 = .ok (.dup2, 1) := by decide +kernel
theorem dX6_comes_11 : decode cX6_comes 11 = .ok (.iaload, 1) := by decide +kernel
theorem dX6_comes_12 : decode cX6_comes 12 = .ok (.iload_n 2, 1) := by decide +kernel
theorem dX6_comes_13 : decode cX6_comes 13 = .ok (.iadd, 1) := by decide +kernel
theorem dX6_comes_14 : decode cX6_comes 14 = .ok (.iastore, 1) := by decide +kernel
theorem dX6_comes_15 : decode cX6_comes 15 = .ok (.aload_n 0, 1) := by decide +kernel
theorem dX6_comes_16 : decode cX6_comes 16 = .ok (.iload_n 3, 1) := by decide +kernel
theorem dX6_comes_17 : decode cX6_comes 17 = .ok (.iaload, 1) := by decide +kernel
theorem dX6_comes_18 : decode cX6_comes 18 = .ok (.sipush 999, 3) := by decide +kernel
theorem dX6_comes_21 : decode cX6_comes 21 = .ok (.if_icmp .le 23, 3) := by decide +kernel
theorem dX6_comes_24 : decode cX6_comes 24 = .ok (.aload_n 0, 1) := by decide +kernel
theorem dX6_comes_25 : decode cX6_comes 25 = .ok (.bipush 11, 2) := by decide +kernel
theorem dX6_comes_27 : decode cX6_comes 27 = .ok (.dup2, 1) := by decide +kernel
theorem dX6_comes_28 : decode cX6_comes 28 = .ok (.iaload, 1) := by decide +kernel
theorem dX6_comes_29 : decode cX6_comes 29 = .ok (.aload_n 0, 1) := by decide +kernel
theorem dX6_comes_30 : decode cX6_comes 30 = .ok (.iload_n 3, 1) := by decide +kernel
theorem dX6_comes_31 : decode cX6_comes 31 = .ok (.iaload, 1) := by decide +kernel
theorem dX6_comes_32 : decode cX6_comes 32 = .ok (.sipush 999, 3) := by decide +kernel
theorem dX6_comes_35 : decode cX6_comes 35 = .ok (.isub, 1) := by decide +kernel
theorem dX6_comes_36 : decode cX6_comes 36 = .ok (.iadd, 1) := by decide +kernel
theorem dX6_comes_37 : decode cX6_comes 37 = .ok (.iastore, 1) := by decide +kernel
theorem dX6_comes_38 : decode cX6_comes 38 = .ok (.aload_n 0, 1) := by decide +kernel
theorem dX6_comes_39 : decode cX6_comes 39 = .ok (.iload_n 3, 1) := by decide +kernel
theorem dX6_comes_40 : decode cX6_comes 40 = .ok (.sipush 999, 3) := by decide +kernel
theorem dX6_comes_43 : decode cX6_comes 43 = .ok (.iastore, 1) := by decide +kernel
theorem dX6_comes_44 : decode cX6_comes 44 = .ok (.return_, 1) := by decide +kernel
theorem dX6_skips_0 : decode cX6_skips 0 = .ok (.bipush 84, 2) := by decide +kernel
theorem dX6_skips_2 : decode cX6_skips 2 = .ok (.bipush 9, 2) := by decide +kernel
theorem dX6_skips_4 : decode cX6_skips 4 = .ok (.iload_n 1, 1) := by decide +kernel
theorem dX6_skips_5 : decode cX6_skips 5 = .ok (.imul, 1) := by decide +kernel
theorem dX6_skips_6 : decode cX6_skips 6 = .ok (.iadd, 1) := by decide +kernel
theorem dX6_skips_7 : decode cX6_skips 7 = .ok (.istore_n 2, 1) := by decide +kernel
theorem dX6_skips_8 : decode cX6_skips 8 = .ok (.aload_n 0, 1) := by decide +kernel
theorem dX6_skips_9 : decode cX6_skips 9 = .ok (.iload_n 2, 1) := by decide +kernel
theorem dX6_skips_10 : decode cX6_skips 10 = .ok (.dup2, 1) := by decide +kernel
theorem dX6_skips_11 : decode cX6_skips 11 = .ok (.iaload, 1) := by decide +kernel
theorem dX6_skips_12 : decode cX6_skips 12 = .ok (.iconst 1, 1) := by decide +kernel
theorem dX6_skips_13 : decode cX6_skips 13 = .ok (.isub, 1) := by decide +kernel
theorem dX6_skips_14 : decode cX6_skips 14 = .ok (.iastore, 1) := by decide +kernel
theorem dX6_skips_15 : decode cX6_skips 15 = .ok (.iconst 1, 1) := by decide +kernel
theorem dX6_skips_16 : decode cX6_skips 16 = .ok (.istore_n 3, 1) := by decide +kernel
theorem dX6_skips_17 : decode cX6_skips 17 = .ok (.iload_n 3, 1) := by decide +kernel
theorem dX6_skips_18 : decode cX6_skips 18 = .ok (.aload_n 0, 1) := by decide +kernel
theorem dX6_skips_19 : decode cX6_skips 19 = .ok (.iload_n 2, 1) := by decide +kernel
theorem dX6_skips_20 : decode cX6_skips 20 = .ok (.iaload, 1) := by decide +kernel
theorem dX6_skips_21 : decode cX6_skips 21 = .ok (.if_icmp .gt 21, 3) := by decide +kernel
theorem dX6_skips_24 : decode cX6_skips 24 = .ok (.aload_n 0, 1) := by decide +kernel
theorem dX6_skips_25 : decode cX6_skips 25 = .ok (.iload_n 2, 1) := by decide +kernel
theorem dX6_skips_26 : decode cX6_skips 26 = .ok (.iload_n 3, 1) := by decide +kernel
theorem dX6_skips_27 : decode cX6_skips 27 = .ok (.iadd, 1) := by decide +kernel
theorem dX6_skips_28 : decode cX6_skips 28 = .ok (.aload_n 0, 1) := by decide +kernel
theorem dX6_skips_29 : decode cX6_skips 29 = .ok (.iload_n 2, 1) := by decide +kernel
theorem dX6_skips_30 : decode cX6_skips 30 = .ok (.iload_n 3, 1) := by decide +kernel
theorem dX6_skips_31 : decode cX6_skips 31 = .ok (.iadd, 1) := by decide +kernel
theorem dX6_skips_32 : decode cX6_skips 32 = .ok (.iconst 1, 1) := by decide +kernel
theorem dX6_skips_33 : decode cX6_skips 33 = .ok (.iadd, 1) := by decide +kernel
theorem dX6_skips_34 : decode cX6_skips 34 = .ok (.iaload, 1) := by decide +kernel
theorem dX6_skips_35 : decode cX6_skips 35 = .ok (.iastore, 1) := by decide +kernel
theorem dX6_skips_36 : decode cX6_skips 36 = .ok (.iinc 3 1, 3) := by decide +kernel
theorem dX6_skips_39 : decode cX6_skips 39 = .ok (.goto (-22), 3) := by decide +kernel
theorem dX6_skips_42 : decode cX6_skips 42 = .ok (.return_, 1) := by decide +kernel
theorem dX6_hour_0 : decode cX6_hour 0 = .ok (.aload_n 0, 1) := by decide +kernel
theorem dX6_hour_1 : decode cX6_hour 1 = .ok (.aload_n 1, 1) := by decide +kernel
theorem dX6_hour_2 : decode cX6_hour 2 = .ok (.invokevirtual 71, 3) := by decide +kernel
theorem dX6_hour_5 : decode cX6_hour 5 = .ok (.iconst 0, 1) := by decide +kernel
theorem dX6_hour_6 : decode cX6_hour 6 = .ok (.istore_n 2, 1) := by decide +kernel
theorem dX6_hour_7 : decode cX6_hour 7 = .ok (.iconst 0, 1) := by decide +kernel
theorem dX6_hour_8 : decode cX6_hour 8 = .ok (.istore_n 3, 1) := by decide +kernel
theorem dX6_hour_9 : decode cX6_hour 9 = .ok (.iload_n 3, 1) := by decide +kernel
theorem dX6_hour_10 : decode cX6_hour 10 = .ok (.bipush 12, 2) := by decide +kernel
theorem dX6_hour_12 : decode cX6_hour 12 = .ok (.if_icmp .ge 124, 3) := by decide +kernel
theorem dX6_hour_15 : decode cX6_hour 15 = .ok (.aload_n 0, 1) := by decide +kernel
theorem dX6_hour_16 : decode cX6_hour 16 = .ok (.getfield 54, 3) := by decide +kernel
theorem dX6_hour_19 : decode cX6_hour 19 = .ok (.iload_n 3, 1) := by decide +kernel
theorem dX6_hour_20 : decode cX6_hour 20 = .ok (.ishr, 1) := by decide +kernel
theorem dX6_hour_21 : decode cX6_hour 21 = .ok (.iconst 1, 1) := by decide +kernel
theorem dX6_hour_22 : decode cX6_hour 22 = .ok (.iand, 1) := by decide +kernel
theorem dX6_hour_23 : decode cX6_hour 23 = .ok (.iconst 1, 1) := by decide +kernel
theorem dX6_hour_24 : decode cX6_hour 24 = .ok (.if_icmp .ne 106, 3) := by decide +kernel
theorem dX6_hour_27 : decode cX6_hour 27 = .ok (.aload_n 1, 1) := by decide +kernel
theorem dX6_hour_28 : decode cX6_hour 28 = .ok (.iload_n 3, 1) := by decide +kernel
theorem dX6_hour_29 : decode cX6_hour 29 = .ok (.aload_n 0, 1) := by decide +kernel
theorem dX6_hour_30 : decode cX6_hour 30 = .ok (.getfield 54, 3) := by decide +kernel
theorem dX6_hour_33 : decode cX6_hour 33 = .ok (.invokestatic 64, 3) := by decide +kernel
theorem dX6_hour_36 : decode cX6_hour 36 = .ok (.aload_n 1, 1) := by decide +kernel
theorem dX6_hour_37 : decode cX6_hour 37 = .ok (.iconst 2, 1) := by decide +kernel
theorem dX6_hour_38 : decode cX6_hour 38 = .ok (.iaload, 1) := by decide +kernel
theorem dX6_hour_39 : decode cX6_hour 39 = .ok (.imul, 1) := by decide +kernel
theorem dX6_hour_40 : decode cX6_hour 40 = .ok (.istore 4, 2) := by decide +kernel
theorem dX6_hour_42 : decode cX6_hour 42 = .ok (.iload 4, 2) := by decide +kernel
theorem dX6_hour_44 : decode cX6_hour 44 = .ok (.aload_n 1, 1) := by decide +kernel
theorem dX6_hour_45 : decode cX6_hour 45 = .ok (.iload_n 3, 1) := by decide +kernel
theorem dX6_hour_46 : decode cX6_hour 46 = .ok (.iconst 0, 1) := by decide +kernel
theorem dX6_hour_47 : decode cX6_hour 47 = .ok (.invokestatic 47, 3) := by decide +kernel
theorem dX6_hour_50 : decode cX6_hour 50 = .ok (.if_icmp .ge 8, 3) := by decide +kernel
theorem dX6_hour_53 : decode cX6_hour 53 = .ok (.iload 4, 2) := by decide +kernel
theorem dX6_hour_55 : decode cX6_hour 55 = .ok (.goto 9, 3) := by decide +kernel
theorem dX6_hour_58 : decode cX6_hour 58 = .ok (.aload_n 1, 1) := by decide +kernel
theorem dX6_hour_59 : decode cX6_hour 59 = .ok (.iload_n 3, 1) := by decide +kernel
theorem dX6_hour_60 : decode cX6_hour 60 = .ok (.iconst 0, 1) := by decide +kernel
theorem dX6_hour_61 : decode cX6_hour 61 = .ok (.invokestatic 47, 3) := by decide +kernel
theorem dX6_hour_64 : decode cX6_hour 64 = .ok (.istore 5, 2) := by decide +kernel
theorem dX6_hour_66 : decode cX6_hour 66 = .ok (.aload_n 1, 1) := by decide +kernel
