theorem dX5_init_0 : decode cX5_init 0 = .ok (.aload_n 0, 1) := by decide +kernel
theorem dX5_init_1 : decode cX5_init 1 = .ok (.invokespecial 3, 3) := by decide +kernel
theorem dX5_init_4 : decode cX5_init 4 = .ok (.aload_n 0, 1) := by decide +kernel
theorem dX5_init_5 : decode cX5_init 5 = .ok (.bipush 8, 2) := by decide +kernel
theorem dX5_init_7 : decode cX5_init 7 = .ok (.anewarray 9, 3) := by decide +kernel
theorem dX5_init_10 : decode cX5_init 10 = .ok (.putfield 11, 3) := by decide +kernel
theorem dX5_init_13 : decode cX5_init 13 = .ok (.iconst 0, 1) := by decide +kernel
theorem dX5_init_14 : decode cX5_init 14 = .ok (.istore_n 1, 1) := by decide +kernel
theorem dX5_init_15 : decode cX5_init 15 = .ok (.iload_n 1, 1) := by decide +kernel
theorem dX5_init_16 : decode cX5_init 16 = .ok (.bipush 8, 2) := by decide +kernel
theorem dX5_init_18 : decode cX5_init 18 = .ok (.if_icmp .ge 22, 3) := by decide +kernel
theorem dX5_init_21 : decode cX5_init 21 = .ok (.aload_n 0, 1) := by decide +kernel
theorem dX5_init_22 : decode cX5_init 22 = .ok (.getfield 11, 3) := by decide +kernel
theorem dX5_init_25 : decode cX5_init 25 = .ok (.iload_n 1, 1) := by decide +kernel
theorem dX5_init_26 : decode cX5_init 26 = .ok (.new 9, 3) := by decide +kernel
theorem dX5_init_29 : decode cX5_init 29 = .ok (.dup, 1) := by decide +kernel
theorem dX5_init_30 : decode cX5_init 30 = .ok (.invokespecial 15, 3) := by decide +kernel
theorem dX5_init_33 : decode cX5_init 33 = .ok (.aastore, 1) := by decide +kernel
theorem dX5_init_34 : decode cX5_init 34 = .ok (.iinc 1 1, 3) := by decide +kernel
theorem dX5_init_37 : decode cX5_init 37 = .ok (.goto (-22), 3) := by decide +kernel
theorem dX5_init_40 : decode cX5_init 40 = .ok (.aload_n 0, 1) := by decide +kernel
theorem dX5_init_41 : decode cX5_init 41 = .ok (.new 16, 3) := by decide +kernel
theorem dX5_init_44 : decode cX5_init 44 = .ok (.dup, 1) := by decide +kernel
theorem dX5_init_45 : decode cX5_init 45 = .ok (.invokespecial 18, 3) := by decide +kernel
theorem dX5_init_48 : decode cX5_init 48 = .ok (.putfield 19, 3) := by decide +kernel
theorem dX5_init_51 : decode cX5_init 51 = .ok (.aload_n 0, 1) := by decide +kernel
theorem dX5_init_52 : decode cX5_init 52 = .ok (.new 23, 3) := by decide +kernel
theorem dX5_init_55 : decode cX5_init 55 = .ok (.dup, 1) := by decide +kernel
theorem dX5_init_56 : decode cX5_init 56 = .ok (.invokespecial 25, 3) := by decide +kernel
theorem dX5_init_59 : decode cX5_init 59 = .ok (.putfield 26, 3) := by decide +kernel
theorem dX5_init_62 : decode cX5_init 62 = .ok (.aload_n 0, 1) := by decide +kernel
theorem dX5_init_63 : decode cX5_init 63 = .ok (.new 30, 3) := by decide +kernel
theorem dX5_init_66 : decode cX5_init 66 = .ok (.dup, 1) := by decide +kernel
theorem dX5_init_67 : decode cX5_init 67 = .ok (.invokespecial 32, 3) := by decide +kernel
theorem dX5_init_70 : decode cX5_init 70 = .ok (.putfield 33, 3) := by decide +kernel
theorem dX5_init_73 : decode cX5_init 73 = .ok (.aload_n 0, 1) := by decide +kernel
theorem dX5_init_74 : decode cX5_init 74 = .ok (.new 37, 3) := by decide +kernel
theorem dX5_init_77 : decode cX5_init 77 = .ok (.dup, 1) := by decide +kernel
theorem dX5_init_78 : decode cX5_init 78 = .ok (.invokespecial 39, 3) := by decide +kernel
theorem dX5_init_81 : decode cX5_init 81 = .ok (.putfield 40, 3) := by decide +kernel
theorem dX5_init_84 : decode cX5_init 84 = .ok (.aload_n 0, 1) := by decide +kernel
theorem dX5_init_85 : decode cX5_init 85 = .ok (.iconst 0, 1) := by decide +kernel
theorem dX5_init_86 : decode cX5_init 86 = .ok (.putfield 44, 3) := by decide +kernel
theorem dX5_init_89 : decode cX5_init 89 = .ok (.aload_n 0, 1) := by decide +kernel
theorem dX5_init_90 : decode cX5_init 90 = .ok (.iconst 1, 1) := by decide +kernel
theorem dX5_init_91 : decode cX5_init 91 = .ok (.putfield 48, 3) := by decide +kernel
theorem dX5_init_94 : decode cX5_init 94 = .ok (.return_, 1) := by decide +kernel
theorem dX5_track_0 : decode cX5_track 0 = .ok (.iload_n 1, 1) := by decide +kernel
theorem dX5_track_1 : decode cX5_track 1 = .ok (.invokestatic 52, 3) := by decide +kernel
theorem dX5_track_4 : decode cX5_track 4 = .ok (.ifCond .eq 29, 3) := by decide +kernel
theorem dX5_track_7 : decode cX5_track 7 = .ok (.iload_n 2, 1) := by decide +kernel
theorem dX5_track_8 : decode cX5_track 8 = .ok (.invokestatic 52, 3) := by decide +kernel
theorem dX5_track_11 : decode cX5_track 11 = .ok (.ifCond .eq 22, 3) := by decide +kernel
theorem dX5_track_14 : decode cX5_track 14 = .ok (.iload_n 3, 1) := by decide +kernel
theorem dX5_track_15 : decode cX5_track 15 = .ok (.invokestatic 52, 3) := by decide +kernel
theorem dX5_track_18 : decode cX5_track 18 = .ok (.ifCond .eq 15, 3) := by decide +kernel
theorem dX5_track_21 : decode cX5_track 21 = .ok (.iload 4, 2) := by decide +kernel
theorem dX5_track_23 : decode cX5_track 23 = .ok (.invokestatic 52, 3) := by decide +kernel
theorem dX5_track_26 : decode cX5_track 26 = .ok (.ifCond .eq 7, 3) := by decide +kernel
theorem dX5_track_29 : decode cX5_track 29 = .ok (.iconst 1, 1) := by decide +kernel
theorem dX5_track_30 : decode cX5_track 30 = .ok (.goto 4, 3) := by decide +kernel
theorem dX5_track_33 : decode cX5_track 33 = .ok (.iconst 0, 1) := by decide +kernel
theorem dX5_track_34 : decode cX5_track 34 = .ok (.istore 7, 2) := by decide +kernel
theorem dX5_track_36 : decode cX5_track 36 = .ok (.iload 5, 2) := by decide +kernel
theorem dX5_track_38 : decode cX5_track 38 = .ok (.iconst 0, 1) := by decide +kernel
theorem dX5_track_39 : decode cX5_track 39 = .ok (.ldc 56, 2) := by decide +kernel
theorem dX5_track_41 : decode cX5_track 41 = .ok (.invokestatic 57, 3) := by decide +kernel
theorem dX5_track_44 : decode cX5_track 44 = .ok (.ifCond .eq 25, 3) := by decide +kernel
theorem dX5_track_47 : decode cX5_track 47 = .ok (.iload 6, 2) := by decide +kernel
theorem dX5_track_49 : decode cX5_track 49 = .ok (.iconst 0, 1) := by decide +kernel
theorem dX5_track_50 : decode cX5_track 50 = .ok (.ldc 56, 2) := by decide +kernel
theorem dX5_track_52 : decode cX5_track 52 = .ok (.invokestatic 57, 3) := by decide +kernel
theorem dX5_track_55 : decode cX5_track 55 = .ok (.ifCond .eq 14, 3) := by decide +kernel
theorem dX5_track_58 : decode cX5_track 58 = .ok (.iload 5, 2) := by decide +kernel
theorem dX5_track_60 : decode cX5_track 60 = .ok (.iload 6, 2) := by decide +kernel
theorem dX5_track_62 : decode cX5_track 62 = .ok (.if_icmp .ge 7, 3) := by decide +kernel
theorem dX5_track_65 : decode cX5_track 65 = .ok (.iconst 1, 1) := by decide +kernel
theorem dX5_track_66 : decode cX5_track 66 = .ok (.goto 4, 3) := by decide +kernel
theorem dX5_track_69 : decode cX5_track 69 = .ok (.iconst 0, 1) := by decide +kernel
theorem dX5_track_70 : decode cX5_track 70 = .ok (.istore 8, 2) := by decide +kernel
theorem dX5_track_72 : decode cX5_track 72 = .ok (.iload_n 1, 1) := by decide +kernel
theorem dX5_track_73 : decode cX5_track 73 = .ok (.iload_n 3, 1) := by decide +kernel
theorem dX5_track_74 : decode cX5_track 74 = .ok (.if_icmp .ne 13, 3) := by decide +kernel
theorem dX5_track_77 : decode cX5_track 77 = .ok (.iload_n 2, 1) := by decide +kernel
theorem dX5_track_78 : decode cX5_track 78 = .ok (.iload 4, 2) := by decide +kernel
theorem dX5_track_80 : decode cX5_track 80 = .ok (.if_icmp .ne 7, 3) := by decide +kernel
theorem dX5_track_83 : decode cX5_track 83 = .ok (.iconst 1, 1) := by decide +kernel
theorem dX5_track_84 : decode cX5_track 84 = .ok (.goto 4, 3) := by decide +kernel
theorem dX5_track_87 : decode cX5_track 87 = .ok (.iconst 0, 1) := by decide +kernel
theorem dX5_track_88 : decode cX5_track 88 = .ok (.istore 9, 2) := by decide +kernel
theorem dX5_track_90 : decode cX5_track 90 = .ok (.iload 7, 2) := by decide +kernel
theorem dX5_track_92 : decode cX5_track 92 = .ok (.ifCond .eq 13, 3) := by decide +kernel
theorem dX5_track_95 : decode cX5_track 95 = .ok (.iload 8, 2) := by decide +kernel
theorem dX5_track_97 : decode cX5_track 97 = .ok (.ifCond .eq 8, 3) := by decide +kernel
theorem dX5_track_100 : decode cX5_track 100 = .ok (.iload 9, 2) := by decide +kernel
theorem dX5_track_102 : decode cX5_track 102 = .ok (.ifCond .eq 5, 3) := by decide +kernel
theorem dX5_track_105 : decode cX5_track 105 = .ok (.iconst (-1), 1) := by decide +kernel
theorem dX5_track_106 : decode cX5_track 106 = .ok (.ireturn, 1) := by decide +kernel
theorem dX5_track_107 : decode cX5_track 107 = .ok (.aload_n 0, 1) := by decide +kernel
theorem dX5_track_108 : decode cX5_track 108 = .ok (.getfield 44, 3) := by decide +kernel
theorem dX5_track_111 : decode cX5_track 111 = .ok (.bipush 8, 2) := by decide +kernel
theorem dX5_track_113 : decode cX5_track 113 = .ok (.if_icmp .lt 6, 3) := by decide +kernel
theorem dX5_track_116 : decode cX5_track 116 = .ok (.bipush (-3), 2) := by decide +kernel
theorem dX5_track_118 : decode cX5_track 118 = .ok (.ireturn, 1) := by decide +kernel
theorem dX5_track_119 : decode cX5_track 119 = .ok (.aload_n 0, 1) := by decide +kernel
theorem dX5_track_120 : decode cX5_track 120 = .ok (.getfield 11, 3) := by decide +kernel
theorem dX5_track_123 : decode cX5_track 123 = .ok (.aload_n 0, 1) := by decide +kernel
theorem dX5_track_124 : decode cX5_track 124 = .ok (.getfield 44, 3) := by decide +kernel
theorem dX5_track_127 : decode cX5_track 127 = .ok (.aaload, 1) := by decide +kernel
theorem dX5_track_128 : decode cX5_track 128 = .ok (.astore 10, 2) := by decide +kernel
theorem dX5_track_130 : decode cX5_track 130 = .ok (.aload 10, 2) := by decide +kernel
theorem dX5_track_132 : decode cX5_track 132 = .ok (.iload_n 1, 1) := by decide +kernel
theorem dX5_track_133 : decode cX5_track 133 = .ok (.iload_n 2, 1) := by decide +kernel
theorem dX5_track_134 : decode cX5_track 134 = .ok (.iload 5, 2) := by decide +kernel
theorem dX5_track_136 : decode cX5_track 136 = .ok (.invokevirtual 61, 3) := by decide +kernel
theorem dX5_track_139 : decode cX5_track 139 = .ok (.aload 10, 2) := by decide +kernel
theorem dX5_track_141 : decode cX5_track 141 = .ok (.iload_n 3, 1) := by decide +kernel
theorem dX5_track_142 : decode cX5_track 142 = .ok (.iload 4, 2) := by decide +kernel
theorem dX5_track_144 : decode cX5_track 144 = .ok (.iload 6, 2) := by decide +kernel
theorem dX5_track_146 : decode cX5_track 146 = .ok (.invokevirtual 65, 3) := by decide +kernel
theorem dX5_track_149 : decode cX5_track 149 = .ok (.aload_n 0, 1) := by decide +kernel
theorem dX5_track_150 : decode cX5_track 150 = .ok (.dup, 1) := by decide +kernel
theorem dX5_track_151 : decode cX5_track 151 = .ok (.getfield 44, 3) := by decide +kernel
theorem dX5_track_154 : decode cX5_track 154 = .ok (.iconst 1, 1) := by decide +kernel
theorem dX5_track_155 : decode cX5_track 155 = .ok (.iadd, 1) := by decide +kernel
theorem dX5_track_156 : decode cX5_track 156 = .ok (.putfield 44, 3) := by decide +kernel
theorem dX5_track_159 : decode cX5_track 159 = .ok (.aload_n 0, 1) := by decide +kernel
theorem dX5_track_160 : decode cX5_track 160 = .ok (.iconst 1, 1) := by decide +kernel
theorem dX5_track_161 : decode cX5_track 161 = .ok (.putfield 48, 3) := by decide +kernel
theorem dX5_track_164 : decode cX5_track 164 = .ok (.aload_n 0, 1) := by decide +kernel
theorem dX5_track_165 : decode cX5_track 165 = .ok (.getfield 44, 3) := by decide +kernel
theorem dX5_track_168 : decode cX5_track 168 = .ok (.iconst 1, 1) := by decide +kernel
theorem dX5_track_169 : decode cX5_track 169 = .ok (.isub, 1) := by decide +kernel
theorem dX5_track_170 : decode cX5_track 170 = .ok (.ireturn, 1) := by decide +kernel
theorem dX5_read_0 : decode cX5_read 0 = .ok (.iload_n 3, 1) := by decide +kernel
theorem dX5_read_1 : decode cX5_read 1 = .ok (.ldc 68, 2) := by decide +kernel
theorem dX5_read_3 : decode cX5_read 3 = .ok (.if_icmp .eq 16, 3) := by decide +kernel
theorem dX5_read_6 : decode cX5_read 6 = .ok (.iload_n 3, 1) := by decide +kernel
theorem dX5_read_7 : decode cX5_read 7 = .ok (.sipush (-10000), 3) := by decide +kernel
theorem dX5_read_10 : decode cX5_read 10 = .ok (.sipush 10000, 3) := by decide +kernel
theorem dX5_read_13 : decode cX5_read 13 = .ok (.invokestatic 57, 3) := by decide +kernel
theorem dX5_read_16 : decode cX5_read 16 = .ok (.ifCond .eq 7, 3) := by decide +kernel
theorem dX5_read_19 : decode cX5_read 19 = .ok (.iconst 1, 1) := by decide +kernel
theorem dX5_read_20 : decode cX5_read 20 = .ok (.goto 4, 3) := by decide +kernel
theorem dX5_read_23 : decode cX5_read 23 = .ok (.iconst 0, 1) := by decide +kernel
theorem dX5_read_24 : decode cX5_read 24 = .ok (.istore 4, 2) := by decide +kernel
theorem dX5_read_26 : decode cX5_read 26 = .ok (.aload_n 0, 1) := by decide +kernel
theorem dX5_read_27 : decode cX5_read 27 = .ok (.iload_n 1, 1) := by decide +kernel
theorem dX5_read_28 : decode cX5_read 28 = .ok (.invokevirtual 69, 3) := by decide +kernel
theorem dX5_read_31 : decode cX5_read 31 = .ok (.ifCond .eq 18, 3) := by decide +kernel
theorem dX5_read_34 : decode cX5_read 34 = .ok (.iload_n 2, 1) := by decide +kernel
theorem dX5_read_35 : decode cX5_read 35 = .ok (.iconst 0, 1) := by decide +kernel
theorem dX5_read_36 : decode cX5_read 36 = .ok (.bipush 8, 2) := by decide +kernel
theorem dX5_read_38 : decode cX5_read 38 = .ok (.invokestatic 57, 3) := by decide +kernel
theorem dX5_read_41 : decode cX5_read 41 = .ok (.ifCond .eq 8, 3) := by decide +kernel
theorem dX5_read_44 : decode cX5_read 44 = .ok (.iload 4, 2) := by decide +kernel
theorem dX5_read_46 : decode cX5_read 46 = .ok (.ifCond .ne 6, 3) := by decide +kernel
theorem dX5_read_49 : decode cX5_read 49 = .ok (.ldc 72, 2) := by decide +kernel
theorem dX5_read_51 : decode cX5_read 51 = .ok (.ireturn, 1) := by decide +kernel
theorem dX5_read_52 : decode cX5_read 52 = .ok (.aload_n 0, 1) := by decide +kernel
theorem dX5_read_53 : decode cX5_read 53 = .ok (.getfield 11, 3) := by decide +kernel
theorem dX5_read_56 : decode cX5_read 56 = .ok (.iload_n 1, 1) := by decide +kernel
theorem dX5_read_57 : decode cX5_read 57 = .ok (.aaload, 1) := by decide +kernel
theorem dX5_read_58 : decode cX5_read 58 = .ok (.getfield 73, 3) := by decide +kernel
theorem dX5_read_61 : decode cX5_read 61 = .ok (.iload_n 2, 1) := by decide +kernel
theorem dX5_read_62 : decode cX5_read 62 = .ok (.iaload, 1) := by decide +kernel
theorem dX5_read_63 : decode cX5_read 63 = .ok (.istore 5, 2) := by decide +kernel
theorem dX5_read_65 : decode cX5_read 65 = .ok (.aload_n 0, 1) := by decide +kernel
theorem dX5_read_66 : decode cX5_read 66 = .ok (.getfield 11, 3) := by decide +kernel
theorem dX5_read_69 : decode cX5_read 69 = .ok (.iload_n 1, 1) := by decide +kernel
theorem dX5_read_70 : decode cX5_read 70 = .ok (.aaload, 1) := by decide +kernel
theorem dX5_read_71 : decode cX5_read 71 = .ok (.getfield 73, 3) := by decide +kernel
theorem dX5_read_74 : decode cX5_read 74 = .ok (.iload_n 2, 1) := by decide +kernel
theorem dX5_read_75 : decode cX5_read 75 = .ok (.iload_n 3, 1) := by decide +kernel
theorem dX5_read_76 : decode cX5_read 76 = .ok (.iastore, 1) := by decide +kernel
theorem dX5_read_77 : decode cX5_read 77 = .ok (.aload_n 0, 1) := by decide +kernel
theorem dX5_read_78 : decode cX5_read 78 = .ok (.iconst 1, 1) := by decide +kernel
theorem dX5_read_79 : decode cX5_read 79 = .ok (.putfield 48, 3) := by decide +kernel
theorem dX5_read_82 : decode cX5_read 82 = .ok (.iload 5, 2) := by decide +kernel
theorem dX5_read_84 : decode cX5_read 84 = .ok (.ireturn, 1) := by decide +kernel
theorem dX5_hold_0 : decode cX5_hold 0 = .ok (.aload_n 0, 1) := by decide +kernel
theorem dX5_hold_1 : decode cX5_hold 1 = .ok (.iload_n 1, 1) := by decide +kernel
theorem dX5_hold_2 : decode cX5_hold 2 = .ok (.invokevirtual 69, 3) := by decide +kernel
theorem dX5_hold_5 : decode cX5_hold 5 = .ok (.ifCond .ne 5, 3) := by decide +kernel
theorem dX5_hold_8 : decode cX5_hold 8 = .ok (.iconst (-1), 1) := by decide +kernel
theorem dX5_hold_9 : decode cX5_hold 9 = .ok (.ireturn, 1) := by decide +kernel
theorem dX5_hold_10 : decode cX5_hold 10 = .ok (.aload_n 0, 1) := by decide +kernel
theorem dX5_hold_11 : decode cX5_hold 11 = .ok (.getfield 11, 3) := by decide +kernel
theorem dX5_hold_14 : decode cX5_hold 14 = .ok (.iload_n 1, 1) := by decide +kernel
theorem dX5_hold_15 : decode cX5_hold 15 = .ok (.aaload, 1) := by decide +kernel
theorem dX5_hold_16 : decode cX5_hold 16 = .ok (.getfield 77, 3) := by decide +kernel
theorem dX5_hold_19 : decode cX5_hold 19 = .ok (.istore_n 3, 1) := by decide +kernel
theorem dX5_hold_20 : decode cX5_hold 20 = .ok (.aload_n 0, 1) := by decide +kernel
theorem dX5_hold_21 : decode cX5_hold 21 = .ok (.getfield 11, 3) := by decide +kernel
theorem dX5_hold_24 : decode cX5_hold 24 = .ok (.iload_n 1, 1) := by decide +kernel
theorem dX5_hold_25 : decode cX5_hold 25 = .ok (.aaload, 1) := by decide +kernel
theorem dX5_hold_26 : decode cX5_hold 26 = .ok (.iload_n 2, 1) := by decide +kernel
theorem dX5_hold_27 : decode cX5_hold 27 = .ok (.putfield 77, 3) := by decide +kernel
theorem dX5_hold_30 : decode cX5_hold 30 = .ok (.aload_n 0, 1) := by decide +kernel
theorem dX5_hold_31 : decode cX5_hold 31 = .ok (.iconst 1, 1) := by decide +kernel
theorem dX5_hold_32 : decode cX5_hold 32 = .ok (.putfield 48, 3) := by decide +kernel
theorem dX5_hold_35 : decode cX5_hold 35 = .ok (.iload_n 3, 1) := by decide +kernel
theorem dX5_hold_36 : decode cX5_hold 36 = .ok (.ifCond .eq 7, 3) := by decide +kernel
theorem dX5_hold_39 : decode cX5_hold 39 = .ok (.iconst 1, 1) := by decide +kernel
theorem dX5_hold_40 : decode cX5_hold 40 = .ok (.goto 4, 3) := by decide +kernel
theorem dX5_hold_43 : decode cX5_hold 43 = .ok (.iconst 0, 1) := by decide +kernel
theorem dX5_hold_44 : decode cX5_hold 44 = .ok (.ireturn, 1) := by decide +kernel
theorem dX5_cross_0 : decode cX5_cross 0 = .ok (.iload_n 3, 1) := by decide +kernel
theorem dX5_cross_1 : decode cX5_cross 1 = .ok (.iconst 0, 1) := by decide +kernel
theorem dX5_cross_2 : decode cX5_cross 2 = .ok (.bipush 7, 2) := by decide +kernel
theorem dX5_cross_4 : decode cX5_cross 4 = .ok (.invokestatic 57, 3) := by decide +kernel
theorem dX5_cross_7 : decode cX5_cross 7 = .ok (.istore 5, 2) := by decide +kernel
theorem dX5_cross_9 : decode cX5_cross 9 = .ok (.aload_n 0, 1) := by decide +kernel
theorem dX5_cross_10 : decode cX5_cross 10 = .ok (.iload_n 1, 1) := by decide +kernel
theorem dX5_cross_11 : decode cX5_cross 11 = .ok (.iload_n 2, 1) := by decide +kernel
theorem dX5_cross_12 : decode cX5_cross 12 = .ok (.invokevirtual 80, 3) := by decide +kernel
theorem dX5_cross_15 : decode cX5_cross 15 = .ok (.ifCond .eq 16, 3) := by decide +kernel
theorem dX5_cross_18 : decode cX5_cross 18 = .ok (.iload 5, 2) := by decide +kernel
theorem dX5_cross_20 : decode cX5_cross 20 = .ok (.ifCond .eq 11, 3) := by decide +kernel
theorem dX5_cross_23 : decode cX5_cross 23 = .ok (.iload 4, 2) := by decide +kernel
theorem dX5_cross_25 : decode cX5_cross 25 = .ok (.invokestatic 84, 3) := by decide +kernel
theorem dX5_cross_28 : decode cX5_cross 28 = .ok (.ifCond .ne 7, 3) := by decide +kernel
theorem dX5_cross_31 : decode cX5_cross 31 = .ok (.ldc2_w 87, 3) := by decide +kernel
theorem dX5_cross_34 : decode cX5_cross 34 = .ok (.lreturn, 1) := by decide +kernel
theorem dX5_cross_35 : decode cX5_cross 35 = .ok (.aload_n 0, 1) := by decide +kernel
theorem dX5_cross_36 : decode cX5_cross 36 = .ok (.getfield 19, 3) := by decide +kernel
theorem dX5_cross_39 : decode cX5_cross 39 = .ok (.aload_n 0, 1) := by decide +kernel
theorem dX5_cross_40 : decode cX5_cross 40 = .ok (.getfield 11, 3) := by decide +kernel
theorem dX5_cross_43 : decode cX5_cross 43 = .ok (.iload_n 1, 1) := by decide +kernel
theorem dX5_cross_44 : decode cX5_cross 44 = .ok (.aaload, 1) := by decide +kernel
theorem dX5_cross_45 : decode cX5_cross 45 = .ok (.aload_n 0, 1) := by decide +kernel
theorem dX5_cross_46 : decode cX5_cross 46 = .ok (.getfield 11, 3) := by decide +kernel
theorem dX5_cross_49 : decode cX5_cross 49 = .ok (.iload_n 2, 1) := by decide +kernel
theorem dX5_cross_50 : decode cX5_cross 50 = .ok (.aaload, 1) := by decide +kernel
theorem dX5_cross_51 : decode cX5_cross 51 = .ok (.invokevirtual 89, 3) := by decide +kernel
theorem dX5_cross_54 : decode cX5_cross 54 = .ok (.aload_n 0, 1) := by decide +kernel
theorem dX5_cross_55 : decode cX5_cross 55 = .ok (.getfield 19, 3) := by decide +kernel
theorem dX5_cross_58 : decode cX5_cross 58 = .ok (.getfield 93, 3) := by decide +kernel
theorem dX5_cross_61 : decode cX5_cross 61 = .ok (.ifCond .ne 7, 3) := by decide +kernel
theorem dX5_cross_64 : decode cX5_cross 64 = .ok (.ldc2_w 96, 3) := by decide +kernel
theorem dX5_cross_67 : decode cX5_cross 67 = .ok (.lreturn, 1) := by decide +kernel
theorem dX5_cross_68 : decode cX5_cross 68 = .ok (.aload_n 0, 1) := by decide +kernel
theorem dX5_cross_69 : decode cX5_cross 69 = .ok (.getfield 19, 3) := by decide +kernel
theorem dX5_cross_72 : decode cX5_cross 72 = .ok (.iload_n 3, 1) := by decide +kernel
theorem dX5_cross_73 : decode cX5_cross 73 = .ok (.aload_n 0, 1) := by decide +kernel
theorem dX5_cross_74 : decode cX5_cross 74 = .ok (.getfield 11, 3) := by decide +kernel
theorem dX5_cross_77 : decode cX5_cross 77 = .ok (.iload_n 1, 1) := by decide +kernel
theorem dX5_cross_78 : decode cX5_cross 78 = .ok (.aaload, 1) := by decide +kernel
theorem dX5_cross_79 : decode cX5_cross 79 = .ok (.aload_n 0, 1) := by decide +kernel
theorem dX5_cross_80 : decode cX5_cross 80 = .ok (.getfield 11, 3) := by decide +kernel
theorem dX5_cross_83 : decode cX5_cross 83 = .ok (.iload_n 2, 1) := by decide +kernel
theorem dX5_cross_84 : decode cX5_cross 84 = .ok (.aaload, 1) := by decide +kernel
theorem dX5_cross_85 : decode cX5_cross 85 = .ok (.invokevirtual 98, 3) := by decide +kernel
theorem dX5_cross_88 : decode cX5_cross 88 = .ok (.lstore 6, 2) := by decide +kernel
theorem dX5_cross_90 : decode cX5_cross 90 = .ok (.lload 6, 2) := by decide +kernel
theorem dX5_cross_92 : decode cX5_cross 92 = .ok (.ldc2_w 102, 3) := by decide +kernel
theorem dX5_cross_95 : decode cX5_cross 95 = .ok (.lcmp, 1) := by decide +kernel
theorem dX5_cross_96 : decode cX5_cross 96 = .ok (.ifCond .ne 7, 3) := by decide +kernel
theorem dX5_cross_99 : decode cX5_cross 99 = .ok (.ldc2_w 96, 3) := by decide +kernel
theorem dX5_cross_102 : decode cX5_cross 102 = .ok (.lreturn, 1) := by decide +kernel
theorem dX5_cross_103 : decode cX5_cross 103 = .ok (.aload_n 0, 1) := by decide +kernel
theorem dX5_cross_104 : decode cX5_cross 104 = .ok (.getfield 40, 3) := by decide +kernel
theorem dX5_cross_107 : decode cX5_cross 107 = .ok (.lload 6, 2) := by decide +kernel
theorem dX5_cross_109 : decode cX5_cross 109 = .ok (.aload_n 0, 1) := by decide +kernel
theorem dX5_cross_110 : decode cX5_cross 110 = .ok (.getfield 19, 3) := by decide +kernel
theorem dX5_cross_113 : decode cX5_cross 113 = .ok (.getfield 104, 3) := by decide +kernel
theorem dX5_cross_116 : decode cX5_cross 116 = .ok (.invokevirtual 108, 3) := by decide +kernel
theorem dX5_cross_119 : decode cX5_cross 119 = .ok (.aload_n 0, 1) := by decide +kernel
theorem dX5_cross_120 : decode cX5_cross 120 = .ok (.getfield 40, 3) := by decide +kernel
theorem dX5_cross_123 : decode cX5_cross 123 = .ok (.iload 4, 2) := by decide +kernel
theorem dX5_cross_125 : decode cX5_cross 125 = .ok (.invokevirtual 112, 3) := by decide +kernel
theorem dX5_cross_128 : decode cX5_cross 128 = .ok (.lreturn, 1) := by decide +kernel
theorem dX5_crosses_0 : decode cX5_crosses 0 = .ok (.aload_n 0, 1) := by decide +kernel
theorem dX5_crosses_1 : decode cX5_crosses 1 = .ok (.iload_n 1, 1) := by decide +kernel
theorem dX5_crosses_2 : decode cX5_crosses 2 = .ok (.iload_n 2, 1) := by decide +kernel
theorem dX5_crosses_3 : decode cX5_crosses 3 = .ok (.invokevirtual 80, 3) := by decide +kernel
theorem dX5_crosses_6 : decode cX5_crosses 6 = .ok (.ifCond .ne 5, 3) := by decide +kernel
theorem dX5_crosses_9 : decode cX5_crosses 9 = .ok (.iconst (-1), 1) := by decide +kernel
theorem dX5_crosses_10 : decode cX5_crosses 10 = .ok (.ireturn, 1) := by decide +kernel
theorem dX5_crosses_11 : decode cX5_crosses 11 = .ok (.aload_n 0, 1) := by decide +kernel
theorem dX5_crosses_12 : decode cX5_crosses 12 = .ok (.getfield 19, 3) := by decide +kernel
theorem dX5_crosses_15 : decode cX5_crosses 15 = .ok (.aload_n 0, 1) := by decide +kernel
theorem dX5_crosses_16 : decode cX5_crosses 16 = .ok (.getfield 11, 3) := by decide +kernel
theorem dX5_crosses_19 : decode cX5_crosses 19 = .ok (.iload_n 1, 1) := by decide +kernel
theorem dX5_crosses_20 : decode cX5_crosses 20 = .ok (.aaload, 1) := by decide +kernel
theorem dX5_crosses_21 : decode cX5_crosses 21 = .ok (.aload_n 0, 1) := by decide +kernel
theorem dX5_crosses_22 : decode cX5_crosses 22 = .ok (.getfield 11, 3) := by decide +kernel
theorem dX5_crosses_25 : decode cX5_crosses 25 = .ok (.iload_n 2, 1) := by decide +kernel
theorem dX5_crosses_26 : decode cX5_crosses 26 = .ok (.aaload, 1) := by decide +kernel
theorem dX5_crosses_27 : decode cX5_crosses 27 = .ok (.invokevirtual 89, 3) := by decide +kernel
theorem dX5_crosses_30 : decode cX5_crosses 30 = .ok (.aload_n 0, 1) := by decide +kernel
theorem dX5_crosses_31 : decode cX5_crosses 31 = .ok (.getfield 19, 3) := by decide +kernel
theorem dX5_crosses_34 : decode cX5_crosses 34 = .ok (.getfield 93, 3) := by decide +kernel
theorem dX5_crosses_37 : decode cX5_crosses 37 = .ok (.ifCond .eq 7, 3) := by decide +kernel
theorem dX5_crosses_40 : decode cX5_crosses 40 = .ok (.iconst 1, 1) := by decide +kernel
theorem dX5_crosses_41 : decode cX5_crosses 41 = .ok (.goto 4, 3) := by decide +kernel
theorem dX5_crosses_44 : decode cX5_crosses 44 = .ok (.iconst 0, 1) := by decide +kernel
theorem dX5_crosses_45 : decode cX5_crosses 45 = .ok (.ireturn, 1) := by decide +kernel
theorem dX5_difference_0 : decode cX5_difference 0 = .ok (.aload_n 0, 1) := by decide +kernel
theorem dX5_difference_1 : decode cX5_difference 1 = .ok (.iload_n 1, 1) := by decide +kernel
theorem dX5_difference_2 : decode cX5_difference 2 = .ok (.iload_n 2, 1) := by decide +kernel
theorem dX5_difference_3 : decode cX5_difference 3 = .ok (.invokevirtual 80, 3) := by decide +kernel
theorem dX5_difference_6 : decode cX5_difference 6 = .ok (.ifCond .eq 8, 3) := by decide +kernel
theorem dX5_difference_9 : decode cX5_difference 9 = .ok (.iload_n 1, 1) := by decide +kernel
theorem dX5_difference_10 : decode cX5_difference 10 = .ok (.iload_n 2, 1) := by decide +kernel
theorem dX5_difference_11 : decode cX5_difference 11 = .ok (.if_icmp .le 6, 3) := by decide +kernel
theorem dX5_difference_14 : decode cX5_difference 14 = .ok (.ldc 116, 2) := by decide +kernel
theorem dX5_difference_16 : decode cX5_difference 16 = .ok (.ireturn, 1) := by decide +kernel
theorem dX5_difference_17 : decode cX5_difference 17 = .ok (.aload_n 0, 1) := by decide +kernel
theorem dX5_difference_18 : decode cX5_difference 18 = .ok (.getfield 19, 3) := by decide +kernel
theorem dX5_difference_21 : decode cX5_difference 21 = .ok (.aload_n 0, 1) := by decide +kernel
theorem dX5_difference_22 : decode cX5_difference 22 = .ok (.getfield 11, 3) := by decide +kernel
theorem dX5_difference_25 : decode cX5_difference 25 = .ok (.iload_n 1, 1) := by decide +kernel
theorem dX5_difference_26 : decode cX5_difference 26 = .ok (.aaload, 1) := by decide +kernel
theorem dX5_difference_27 : decode cX5_difference 27 = .ok (.aload_n 0, 1) := by decide +kernel
theorem dX5_difference_28 : decode cX5_difference 28 = .ok (.getfield 11, 3) := by decide +kernel
theorem dX5_difference_31 : decode cX5_difference 31 = .ok (.iload_n 2, 1) := by decide +kernel
theorem dX5_difference_32 : decode cX5_difference 32 = .ok (.aaload, 1) := by decide +kernel
theorem dX5_difference_33 : decode cX5_difference 33 = .ok (.invokevirtual 117, 3) := by decide +kernel
theorem dX5_difference_36 : decode cX5_difference 36 = .ok (.ireturn, 1) := by decide +kernel
theorem dX5_net_0 : decode cX5_net 0 = .ok (.aload_n 0, 1) := by decide +kernel
theorem dX5_net_1 : decode cX5_net 1 = .ok (.invokevirtual 121, 3) := by decide +kernel
theorem dX5_net_4 : decode cX5_net 4 = .ok (.iload_n 1, 1) := by decide +kernel
theorem dX5_net_5 : decode cX5_net 5 = .ok (.tableswitch 51 0 2 #[27, 35, 43], 27) := by decide +kernel
theorem dX5_net_32 : decode cX5_net 32 = .ok (.aload_n 0, 1) := by decide +kernel
theorem dX5_net_33 : decode cX5_net 33 = .ok (.getfield 26, 3) := by decide +kernel
theorem dX5_net_36 : decode cX5_net 36 = .ok (.getfield 124, 3) := by decide +kernel
theorem dX5_net_39 : decode cX5_net 39 = .ok (.ireturn, 1) := by decide +kernel
theorem dX5_net_40 : decode cX5_net 40 = .ok (.aload_n 0, 1) := by decide +kernel
theorem dX5_net_41 : decode cX5_net 41 = .ok (.getfield 26, 3) := by decide +kernel
theorem dX5_net_44 : decode cX5_net 44 = .ok (.getfield 127, 3) := by decide +kernel
theorem dX5_net_47 : decode cX5_net 47 = .ok (.ireturn, 1) := by decide +kernel
theorem dX5_net_48 : decode cX5_net 48 = .ok (.aload_n 0, 1) := by decide +kernel
theorem dX5_net_49 : decode cX5_net 49 = .ok (.getfield 26, 3) := by decide +kernel
theorem dX5_net_52 : decode cX5_net 52 = .ok (.getfield 130, 3) := by decide +kernel
theorem dX5_net_55 : decode cX5_net 55 = .ok (.ireturn, 1) := by decide +kernel
theorem dX5_net_56 : decode cX5_net 56 = .ok (.iconst (-1), 1) := by decide +kernel
theorem dX5_net_57 : decode cX5_net 57 = .ok (.ireturn, 1) := by decide +kernel
theorem dX5_off_0 : decode cX5_off 0 = .ok (.aload_n 0, 1) := by decide +kernel
theorem dX5_off_1 : decode cX5_off 1 = .ok (.iload_n 1, 1) := by decide +kernel
theorem dX5_off_2 : decode cX5_off 2 = .ok (.invokevirtual 69, 3) := by decide +kernel
theorem dX5_off_5 : decode cX5_off 5 = .ok (.ifCond .eq 10, 3) := by decide +kernel
theorem dX5_off_8 : decode cX5_off 8 = .ok (.iload_n 2, 1) := by decide +kernel
theorem dX5_off_9 : decode cX5_off 9 = .ok (.invokestatic 84, 3) := by decide +kernel
theorem dX5_off_12 : decode cX5_off 12 = .ok (.ifCond .ne 7, 3) := by decide +kernel
theorem dX5_off_15 : decode cX5_off 15 = .ok (.ldc2_w 102, 3) := by decide +kernel
theorem dX5_off_18 : decode cX5_off 18 = .ok (.lreturn, 1) := by decide +kernel
theorem dX5_off_19 : decode cX5_off 19 = .ok (.aload_n 0, 1) := by decide +kernel
theorem dX5_off_20 : decode cX5_off 20 = .ok (.invokevirtual 121, 3) := by decide +kernel
theorem dX5_off_23 : decode cX5_off 23 = .ok (.aload_n 0, 1) := by decide +kernel
theorem dX5_off_24 : decode cX5_off 24 = .ok (.getfield 26, 3) := by decide +kernel
theorem dX5_off_27 : decode cX5_off 27 = .ok (.getfield 133, 3) := by decide +kernel
theorem dX5_off_30 : decode cX5_off 30 = .ok (.iload_n 1, 1) := by decide +kernel
theorem dX5_off_31 : decode cX5_off 31 = .ok (.aaload, 1) := by decide +kernel
theorem dX5_off_32 : decode cX5_off 32 = .ok (.iload_n 2, 1) := by decide +kernel
theorem dX5_off_33 : decode cX5_off 33 = .ok (.invokevirtual 112, 3) := by decide +kernel
theorem dX5_off_36 : decode cX5_off 36 = .ok (.lreturn, 1) := by decide +kernel
theorem dX5_before_0 : decode cX5_before 0 = .ok (.aload_n 0, 1) := by decide +kernel
theorem dX5_before_1 : decode cX5_before 1 = .ok (.invokevirtual 121, 3) := by decide +kernel
theorem dX5_before_4 : decode cX5_before 4 = .ok (.aload_n 0, 1) := by decide +kernel
theorem dX5_before_5 : decode cX5_before 5 = .ok (.getfield 26, 3) := by decide +kernel
theorem dX5_before_8 : decode cX5_before 8 = .ok (.getfield 137, 3) := by decide +kernel
theorem dX5_before_11 : decode cX5_before 11 = .ok (.lreturn, 1) := by decide +kernel
theorem dX5_behind_0 : decode cX5_behind 0 = .ok (.aload_n 0, 1) := by decide +kernel
theorem dX5_behind_1 : decode cX5_behind 1 = .ok (.invokevirtual 121, 3) := by decide +kernel
theorem dX5_behind_4 : decode cX5_behind 4 = .ok (.aload_n 0, 1) := by decide +kernel
theorem dX5_behind_5 : decode cX5_behind 5 = .ok (.getfield 26, 3) := by decide +kernel
theorem dX5_behind_8 : decode cX5_behind 8 = .ok (.invokevirtual 140, 3) := by decide +kernel
theorem dX5_behind_11 : decode cX5_behind 11 = .ok (.lreturn, 1) := by decide +kernel
theorem dX5_loop_0 : decode cX5_loop 0 = .ok (.aload_n 0, 1) := by decide +kernel
theorem dX5_loop_1 : decode cX5_loop 1 = .ok (.iload_n 1, 1) := by decide +kernel
theorem dX5_loop_2 : decode cX5_loop 2 = .ok (.invokevirtual 69, 3) := by decide +kernel
theorem dX5_loop_5 : decode cX5_loop 5 = .ok (.ifCond .eq 29, 3) := by decide +kernel
theorem dX5_loop_8 : decode cX5_loop 8 = .ok (.aload_n 0, 1) := by decide +kernel
theorem dX5_loop_9 : decode cX5_loop 9 = .ok (.iload_n 2, 1) := by decide +kernel
theorem dX5_loop_10 : decode cX5_loop 10 = .ok (.invokevirtual 69, 3) := by decide +kernel
theorem dX5_loop_13 : decode cX5_loop 13 = .ok (.ifCond .eq 21, 3) := by decide +kernel
theorem dX5_loop_16 : decode cX5_loop 16 = .ok (.aload_n 0, 1) := by decide +kernel
theorem dX5_loop_17 : decode cX5_loop 17 = .ok (.iload_n 3, 1) := by decide +kernel
theorem dX5_loop_18 : decode cX5_loop 18 = .ok (.invokevirtual 69, 3) := by decide +kernel
theorem dX5_loop_21 : decode cX5_loop 21 = .ok (.ifCond .eq 13, 3) := by decide +kernel
theorem dX5_loop_24 : decode cX5_loop 24 = .ok (.iload_n 1, 1) := by decide +kernel
theorem dX5_loop_25 : decode cX5_loop 25 = .ok (.iload_n 2, 1) := by decide +kernel
theorem dX5_loop_26 : decode cX5_loop 26 = .ok (.if_icmp .ge 8, 3) := by decide +kernel
theorem dX5_loop_29 : decode cX5_loop 29 = .ok (.iload_n 2, 1) := by decide +kernel
theorem dX5_loop_30 : decode cX5_loop 30 = .ok (.iload_n 3, 1) := by decide +kernel
theorem dX5_loop_31 : decode cX5_loop 31 = .ok (.if_icmp .lt 6, 3) := by decide +kernel
theorem dX5_loop_34 : decode cX5_loop 34 = .ok (.ldc 116, 2) := by decide +kernel
theorem dX5_loop_36 : decode cX5_loop 36 = .ok (.ireturn, 1) := by decide +kernel
theorem dX5_loop_37 : decode cX5_loop 37 = .ok (.aload_n 0, 1) := by decide +kernel
theorem dX5_loop_38 : decode cX5_loop 38 = .ok (.getfield 19, 3) := by decide +kernel
theorem dX5_loop_41 : decode cX5_loop 41 = .ok (.aload_n 0, 1) := by decide +kernel
theorem dX5_loop_42 : decode cX5_loop 42 = .ok (.getfield 11, 3) := by decide +kernel
theorem dX5_loop_45 : decode cX5_loop 45 = .ok (.iload_n 1, 1) := by decide +kernel
theorem dX5_loop_46 : decode cX5_loop 46 = .ok (.aaload, 1) := by decide +kernel
theorem dX5_loop_47 : decode cX5_loop 47 = .ok (.aload_n 0, 1) := by decide +kernel
theorem dX5_loop_48 : decode cX5_loop 48 = .ok (.getfield 11, 3) := by decide +kernel
theorem dX5_loop_51 : decode cX5_loop 51 = .ok (.iload_n 2, 1) := by decide +kernel
theorem dX5_loop_52 : decode cX5_loop 52 = .ok (.aaload, 1) := by decide +kernel
theorem dX5_loop_53 : decode cX5_loop 53 = .ok (.invokevirtual 117, 3) := by decide +kernel
theorem dX5_loop_56 : decode cX5_loop 56 = .ok (.istore 4, 2) := by decide +kernel
theorem dX5_loop_58 : decode cX5_loop 58 = .ok (.aload_n 0, 1) := by decide +kernel
theorem dX5_loop_59 : decode cX5_loop 59 = .ok (.getfield 19, 3) := by decide +kernel
theorem dX5_loop_62 : decode cX5_loop 62 = .ok (.aload_n 0, 1) := by decide +kernel
theorem dX5_loop_63 : decode cX5_loop 63 = .ok (.getfield 11, 3) := by decide +kernel
theorem dX5_loop_66 : decode cX5_loop 66 = .ok (.iload_n 2, 1) := by decide +kernel
theorem dX5_loop_67 : decode cX5_loop 67 = .ok (.aaload, 1) := by decide +kernel
theorem dX5_loop_68 : decode cX5_loop 68 = .ok (.aload_n 0, 1) := by decide +kernel
theorem dX5_loop_69 : decode cX5_loop 69 = .ok (.getfield 11, 3) := by decide +kernel
theorem dX5_loop_72 : decode cX5_loop 72 = .ok (.iload_n 3, 1) := by decide +kernel
theorem dX5_loop_73 : decode cX5_loop 73 = .ok (.aaload, 1) := by decide +kernel
theorem dX5_loop_74 : decode cX5_loop 74 = .ok (.invokevirtual 117, 3) := by decide +kernel
theorem dX5_loop_77 : decode cX5_loop 77 = .ok (.istore 5, 2) := by decide +kernel
theorem dX5_loop_79 : decode cX5_loop 79 = .ok (.aload_n 0, 1) := by decide +kernel
theorem dX5_loop_80 : decode cX5_loop 80 = .ok (.getfield 19, 3) := by decide +kernel
theorem dX5_loop_83 : decode cX5_loop 83 = .ok (.aload_n 0, 1) := by decide +kernel
theorem dX5_loop_84 : decode cX5_loop 84 = .ok (.getfield 11, 3) := by decide +kernel
theorem dX5_loop_87 : decode cX5_loop 87 = .ok (.iload_n 1, 1) := by decide +kernel
theorem dX5_loop_88 : decode cX5_loop 88 = .ok (.aaload, 1) := by decide +kernel
theorem dX5_loop_89 : decode cX5_loop 89 = .ok (.aload_n 0, 1) := by decide +kernel
theorem dX5_loop_90 : decode cX5_loop 90 = .ok (.getfield 11, 3) := by decide +kernel
theorem dX5_loop_93 : decode cX5_loop 93 = .ok (.iload_n 3, 1) := by decide +kernel
theorem dX5_loop_94 : decode cX5_loop 94 = .ok (.aaload, 1) := by decide +kernel
theorem dX5_loop_95 : decode cX5_loop 95 = .ok (.invokevirtual 117, 3) := by decide +kernel
theorem dX5_loop_98 : decode cX5_loop 98 = .ok (.istore 6, 2) := by decide +kernel
theorem dX5_loop_100 : decode cX5_loop 100 = .ok (.iload 4, 2) := by decide +kernel
theorem dX5_loop_102 : decode cX5_loop 102 = .ok (.ldc 144, 2) := by decide +kernel
theorem dX5_loop_104 : decode cX5_loop 104 = .ok (.if_icmp .eq 17, 3) := by decide +kernel
theorem dX5_loop_107 : decode cX5_loop 107 = .ok (.iload 5, 2) := by decide +kernel
theorem dX5_loop_109 : decode cX5_loop 109 = .ok (.ldc 144, 2) := by decide +kernel
theorem dX5_loop_111 : decode cX5_loop 111 = .ok (.if_icmp .eq 10, 3) := by decide +kernel
theorem dX5_loop_114 : decode cX5_loop 114 = .ok (.iload 6, 2) := by decide +kernel
theorem dX5_loop_116 : decode cX5_loop 116 = .ok (.ldc 144, 2) := by decide +kernel
theorem dX5_loop_118 : decode cX5_loop 118 = .ok (.if_icmp .ne 6, 3) := by decide +kernel
theorem dX5_loop_121 : decode cX5_loop 121 = .ok (.ldc 144, 2) := by decide +kernel
theorem dX5_loop_123 : decode cX5_loop 123 = .ok (.ireturn, 1) := by decide +kernel
theorem dX5_loop_124 : decode cX5_loop 124 = .ok (.iload 4, 2) := by decide +kernel
theorem dX5_loop_126 : decode cX5_loop 126 = .ok (.iload 5, 2) := by decide +kernel
theorem dX5_loop_128 : decode cX5_loop 128 = .ok (.iadd, 1) := by decide +kernel
theorem dX5_loop_129 : decode cX5_loop 129 = .ok (.iload 6, 2) := by decide +kernel
theorem dX5_loop_131 : decode cX5_loop 131 = .ok (.isub, 1) := by decide +kernel
theorem dX5_loop_132 : decode cX5_loop 132 = .ok (.ireturn, 1) := by decide +kernel
theorem dX5_tone_0 : decode cX5_tone 0 = .ok (.iload_n 1, 1) := by decide +kernel
theorem dX5_tone_1 : decode cX5_tone 1 = .ok (.iconst 1, 1) := by decide +kernel
theorem dX5_tone_2 : decode cX5_tone 2 = .ok (.ldc 56, 2) := by decide +kernel
theorem dX5_tone_4 : decode cX5_tone 4 = .ok (.invokestatic 57, 3) := by decide +kernel
theorem dX5_tone_7 : decode cX5_tone 7 = .ok (.ifCond .ne 5, 3) := by decide +kernel
theorem dX5_tone_10 : decode cX5_tone 10 = .ok (.iconst (-1), 1) := by decide +kernel
theorem dX5_tone_11 : decode cX5_tone 11 = .ok (.ireturn, 1) := by decide +kernel
theorem dX5_tone_12 : decode cX5_tone 12 = .ok (.aload_n 0, 1) := by decide +kernel
theorem dX5_tone_13 : decode cX5_tone 13 = .ok (.getfield 33, 3) := by decide +kernel
theorem dX5_tone_16 : decode cX5_tone 16 = .ok (.getfield 145, 3) := by decide +kernel
theorem dX5_tone_19 : decode cX5_tone 19 = .ok (.bipush 6, 2) := by decide +kernel
theorem dX5_tone_21 : decode cX5_tone 21 = .ok (.if_icmp .lt 6, 3) := by decide +kernel
theorem dX5_tone_24 : decode cX5_tone 24 = .ok (.bipush (-3), 2) := by decide +kernel
theorem dX5_tone_26 : decode cX5_tone 26 = .ok (.ireturn, 1) := by decide +kernel
theorem dX5_tone_27 : decode cX5_tone 27 = .ok (.aload_n 0, 1) := by decide +kernel
theorem dX5_tone_28 : decode cX5_tone 28 = .ok (.getfield 33, 3) := by decide +kernel
theorem dX5_tone_31 : decode cX5_tone 31 = .ok (.getfield 148, 3) := by decide +kernel
theorem dX5_tone_34 : decode cX5_tone 34 = .ok (.aload_n 0, 1) := by decide +kernel
theorem dX5_tone_35 : decode cX5_tone 35 = .ok (.getfield 33, 3) := by decide +kernel
theorem dX5_tone_38 : decode cX5_tone 38 = .ok (.getfield 145, 3) := by decide +kernel
theorem dX5_tone_41 : decode cX5_tone 41 = .ok (.iload_n 1, 1) := by decide +kernel
theorem dX5_tone_42 : decode cX5_tone 42 = .ok (.iastore, 1) := by decide +kernel
theorem dX5_tone_43 : decode cX5_tone 43 = .ok (.aload_n 0, 1) := by decide +kernel
theorem dX5_tone_44 : decode cX5_tone 44 = .ok (.getfield 33, 3) := by decide +kernel
theorem dX5_tone_47 : decode cX5_tone 47 = .ok (.dup, 1) := by decide +kernel
theorem dX5_tone_48 : decode cX5_tone 48 = .ok (.getfield 145, 3) := by decide +kernel
theorem dX5_tone_51 : decode cX5_tone 51 = .ok (.iconst 1, 1) := by decide +kernel
theorem dX5_tone_52 : decode cX5_tone 52 = .ok (.iadd, 1) := by decide +kernel
theorem dX5_tone_53 : decode cX5_tone 53 = .ok (.putfield 145, 3) := by decide +kernel
theorem dX5_tone_56 : decode cX5_tone 56 = .ok (.aload_n 0, 1) := by decide +kernel
theorem dX5_tone_57 : decode cX5_tone 57 = .ok (.getfield 33, 3) := by decide +kernel
theorem dX5_tone_60 : decode cX5_tone 60 = .ok (.getfield 145, 3) := by decide +kernel
theorem dX5_tone_63 : decode cX5_tone 63 = .ok (.iconst 1, 1) := by decide +kernel
theorem dX5_tone_64 : decode cX5_tone 64 = .ok (.isub, 1) := by decide +kernel
theorem dX5_tone_65 : decode cX5_tone 65 = .ok (.ireturn, 1) := by decide +kernel
theorem dX5_seen_0 : decode cX5_seen 0 = .ok (.aload_n 0, 1) := by decide +kernel
theorem dX5_seen_1 : decode cX5_seen 1 = .ok (.getfield 33, 3) := by decide +kernel
theorem dX5_seen_4 : decode cX5_seen 4 = .ok (.iload_n 1, 1) := by decide +kernel
theorem dX5_seen_5 : decode cX5_seen 5 = .ok (.invokevirtual 151, 3) := by decide +kernel
theorem dX5_seen_8 : decode cX5_seen 8 = .ok (.ifCond .eq 20, 3) := by decide +kernel
theorem dX5_seen_11 : decode cX5_seen 11 = .ok (.iload_n 2, 1) := by decide +kernel
theorem dX5_seen_12 : decode cX5_seen 12 = .ok (.iconst 1, 1) := by decide +kernel
theorem dX5_seen_13 : decode cX5_seen 13 = .ok (.ldc 56, 2) := by decide +kernel
theorem dX5_seen_15 : decode cX5_seen 15 = .ok (.invokestatic 57, 3) := by decide +kernel
theorem dX5_seen_18 : decode cX5_seen 18 = .ok (.ifCond .eq 10, 3) := by decide +kernel
theorem dX5_seen_21 : decode cX5_seen 21 = .ok (.iload_n 3, 1) := by decide +kernel
theorem dX5_seen_22 : decode cX5_seen 22 = .ok (.invokestatic 84, 3) := by decide +kernel
theorem dX5_seen_25 : decode cX5_seen 25 = .ok (.ifCond .ne 7, 3) := by decide +kernel
theorem dX5_seen_28 : decode cX5_seen 28 = .ok (.ldc2_w 154, 3) := by decide +kernel
theorem dX5_seen_31 : decode cX5_seen 31 = .ok (.lreturn, 1) := by decide +kernel
theorem dX5_seen_32 : decode cX5_seen 32 = .ok (.aload_n 0, 1) := by decide +kernel
theorem dX5_seen_33 : decode cX5_seen 33 = .ok (.getfield 33, 3) := by decide +kernel
theorem dX5_seen_36 : decode cX5_seen 36 = .ok (.iload_n 1, 1) := by decide +kernel
theorem dX5_seen_37 : decode cX5_seen 37 = .ok (.iload_n 2, 1) := by decide +kernel
theorem dX5_seen_38 : decode cX5_seen 38 = .ok (.invokevirtual 156, 3) := by decide +kernel
theorem dX5_seen_41 : decode cX5_seen 41 = .ok (.lstore 4, 2) := by decide +kernel
theorem dX5_seen_43 : decode cX5_seen 43 = .ok (.lload 4, 2) := by decide +kernel
theorem dX5_seen_45 : decode cX5_seen 45 = .ok (.lconst 0, 1) := by decide +kernel
theorem dX5_seen_46 : decode cX5_seen 46 = .ok (.lcmp, 1) := by decide +kernel
theorem dX5_seen_47 : decode cX5_seen 47 = .ok (.ifCond .ne 7, 3) := by decide +kernel
theorem dX5_seen_50 : decode cX5_seen 50 = .ok (.ldc2_w 160, 3) := by decide +kernel
theorem dX5_seen_53 : decode cX5_seen 53 = .ok (.lreturn, 1) := by decide +kernel
theorem dX5_seen_54 : decode cX5_seen 54 = .ok (.aload_n 0, 1) := by decide +kernel
theorem dX5_seen_55 : decode cX5_seen 55 = .ok (.getfield 40, 3) := by decide +kernel
theorem dX5_seen_58 : decode cX5_seen 58 = .ok (.aload_n 0, 1) := by decide +kernel
theorem dX5_seen_59 : decode cX5_seen 59 = .ok (.getfield 33, 3) := by decide +kernel
theorem dX5_seen_62 : decode cX5_seen 62 = .ok (.getfield 148, 3) := by decide +kernel
theorem dX5_seen_65 : decode cX5_seen 65 = .ok (.iload_n 1, 1) := by decide +kernel
theorem dX5_seen_66 : decode cX5_seen 66 = .ok (.iaload, 1) := by decide +kernel
theorem dX5_seen_67 : decode cX5_seen 67 = .ok (.i2l, 1) := by decide +kernel
theorem dX5_seen_68 : decode cX5_seen 68 = .ok (.iload_n 2, 1) := by decide +kernel
theorem dX5_seen_69 : decode cX5_seen 69 = .ok (.i2l, 1) := by decide +kernel
theorem dX5_seen_70 : decode cX5_seen 70 = .ok (.lmul, 1) := by decide +kernel
theorem dX5_seen_71 : decode cX5_seen 71 = .ok (.ldc2_w 162, 3) := by decide +kernel
theorem dX5_seen_74 : decode cX5_seen 74 = .ok (.lload 4, 2) := by decide +kernel
theorem dX5_seen_76 : decode cX5_seen 76 = .ok (.lmul, 1) := by decide +kernel
theorem dX5_seen_77 : decode cX5_seen 77 = .ok (.invokevirtual 108, 3) := by decide +kernel
theorem dX5_seen_80 : decode cX5_seen 80 = .ok (.aload_n 0, 1) := by decide +kernel
theorem dX5_seen_81 : decode cX5_seen 81 = .ok (.getfield 40, 3) := by decide +kernel
theorem dX5_seen_84 : decode cX5_seen 84 = .ok (.iload_n 3, 1) := by decide +kernel
theorem dX5_seen_85 : decode cX5_seen 85 = .ok (.invokevirtual 112, 3) := by decide +kernel
theorem dX5_seen_88 : decode cX5_seen 88 = .ok (.lreturn, 1) := by decide +kernel
theorem dX5_apart_0 : decode cX5_apart 0 = .ok (.aload_n 0, 1) := by decide +kernel
theorem dX5_apart_1 : decode cX5_apart 1 = .ok (.getfield 33, 3) := by decide +kernel
theorem dX5_apart_4 : decode cX5_apart 4 = .ok (.iload_n 1, 1) := by decide +kernel
theorem dX5_apart_5 : decode cX5_apart 5 = .ok (.invokevirtual 151, 3) := by decide +kernel
theorem dX5_apart_8 : decode cX5_apart 8 = .ok (.ifCond .eq 23, 3) := by decide +kernel
theorem dX5_apart_11 : decode cX5_apart 11 = .ok (.aload_n 0, 1) := by decide +kernel
theorem dX5_apart_12 : decode cX5_apart 12 = .ok (.getfield 33, 3) := by decide +kernel
theorem dX5_apart_15 : decode cX5_apart 15 = .ok (.iload_n 2, 1) := by decide +kernel
theorem dX5_apart_16 : decode cX5_apart 16 = .ok (.invokevirtual 151, 3) := by decide +kernel
theorem dX5_apart_19 : decode cX5_apart 19 = .ok (.ifCond .eq 12, 3) := by decide +kernel
theorem dX5_apart_22 : decode cX5_apart 22 = .ok (.iload_n 1, 1) := by decide +kernel
theorem dX5_apart_23 : decode cX5_apart 23 = .ok (.iload_n 2, 1) := by decide +kernel
theorem dX5_apart_24 : decode cX5_apart 24 = .ok (.if_icmp .eq 7, 3) := by decide +kernel
theorem dX5_apart_27 : decode cX5_apart 27 = .ok (.iconst 1, 1) := by decide +kernel
theorem dX5_apart_28 : decode cX5_apart 28 = .ok (.goto 4, 3) := by decide +kernel
theorem dX5_apart_31 : decode cX5_apart 31 = .ok (.iconst 0, 1) := by decide +kernel
theorem dX5_apart_32 : decode cX5_apart 32 = .ok (.istore 5, 2) := by decide +kernel
theorem dX5_apart_34 : decode cX5_apart 34 = .ok (.iload 5, 2) := by decide +kernel
theorem dX5_apart_36 : decode cX5_apart 36 = .ok (.ifCond .eq 24, 3) := by decide +kernel
theorem dX5_apart_39 : decode cX5_apart 39 = .ok (.iload_n 3, 1) := by decide +kernel
theorem dX5_apart_40 : decode cX5_apart 40 = .ok (.iconst 1, 1) := by decide +kernel
theorem dX5_apart_41 : decode cX5_apart 41 = .ok (.ldc 56, 2) := by decide +kernel
theorem dX5_apart_43 : decode cX5_apart 43 = .ok (.invokestatic 57, 3) := by decide +kernel
theorem dX5_apart_46 : decode cX5_apart 46 = .ok (.ifCond .eq 14, 3) := by decide +kernel
theorem dX5_apart_49 : decode cX5_apart 49 = .ok (.iload 4, 2) := by decide +kernel
theorem dX5_apart_51 : decode cX5_apart 51 = .ok (.iconst 1, 1) := by decide +kernel
theorem dX5_apart_52 : decode cX5_apart 52 = .ok (.ldc 164, 2) := by decide +kernel
theorem dX5_apart_54 : decode cX5_apart 54 = .ok (.invokestatic 57, 3) := by decide +kernel
theorem dX5_apart_57 : decode cX5_apart 57 = .ok (.ifCond .ne 5, 3) := by decide +kernel
theorem dX5_apart_60 : decode cX5_apart 60 = .ok (.iconst (-1), 1) := by decide +kernel
theorem dX5_apart_61 : decode cX5_apart 61 = .ok (.ireturn, 1) := by decide +kernel
theorem dX5_apart_62 : decode cX5_apart 62 = .ok (.aload_n 0, 1) := by decide +kernel
theorem dX5_apart_63 : decode cX5_apart 63 = .ok (.getfield 33, 3) := by decide +kernel
theorem dX5_apart_66 : decode cX5_apart 66 = .ok (.iload_n 1, 1) := by decide +kernel
theorem dX5_apart_67 : decode cX5_apart 67 = .ok (.iload_n 2, 1) := by decide +kernel
theorem dX5_apart_68 : decode cX5_apart 68 = .ok (.iload_n 3, 1) := by decide +kernel
theorem dX5_apart_69 : decode cX5_apart 69 = .ok (.iload 4, 2) := by decide +kernel
theorem dX5_apart_71 : decode cX5_apart 71 = .ok (.invokevirtual 165, 3) := by decide +kernel
theorem dX5_apart_74 : decode cX5_apart 74 = .ok (.ifCond .eq 7, 3) := by decide +kernel
theorem dX5_apart_77 : decode cX5_apart 77 = .ok (.iconst 1, 1) := by decide +kernel
theorem dX5_apart_78 : decode cX5_apart 78 = .ok (.goto 4, 3) := by decide +kernel
theorem dX5_apart_81 : decode cX5_apart 81 = .ok (.iconst 0, 1) := by decide +kernel
theorem dX5_apart_82 : decode cX5_apart 82 = .ok (.ireturn, 1) := by decide +kernel
theorem dX5_box_0 : decode cX5_box 0 = .ok (.iload_n 1, 1) := by decide +kernel
theorem dX5_box_1 : decode cX5_box 1 = .ok (.iconst 1, 1) := by decide +kernel
theorem dX5_box_2 : decode cX5_box 2 = .ok (.bipush 50, 2) := by decide +kernel
theorem dX5_box_4 : decode cX5_box 4 = .ok (.invokestatic 57, 3) := by decide +kernel
theorem dX5_box_7 : decode cX5_box 7 = .ok (.ifCond .eq 29, 3) := by decide +kernel
theorem dX5_box_10 : decode cX5_box 10 = .ok (.iload_n 2, 1) := by decide +kernel
theorem dX5_box_11 : decode cX5_box 11 = .ok (.bipush (-100), 2) := by decide +kernel
theorem dX5_box_13 : decode cX5_box 13 = .ok (.bipush 100, 2) := by decide +kernel
theorem dX5_box_15 : decode cX5_box 15 = .ok (.invokestatic 57, 3) := by decide +kernel
theorem dX5_box_18 : decode cX5_box 18 = .ok (.ifCond .eq 18, 3) := by decide +kernel
theorem dX5_box_21 : decode cX5_box 21 = .ok (.iload_n 3, 1) := by decide +kernel
theorem dX5_box_22 : decode cX5_box 22 = .ok (.bipush (-100), 2) := by decide +kernel
theorem dX5_box_24 : decode cX5_box 24 = .ok (.bipush 100, 2) := by decide +kernel
theorem dX5_box_26 : decode cX5_box 26 = .ok (.invokestatic 57, 3) := by decide +kernel
theorem dX5_box_29 : decode cX5_box 29 = .ok (.ifCond .eq 7, 3) := by decide +kernel
theorem dX5_box_32 : decode cX5_box 32 = .ok (.iconst 1, 1) := by decide +kernel
theorem dX5_box_33 : decode cX5_box 33 = .ok (.goto 4, 3) := by decide +kernel
theorem dX5_box_36 : decode cX5_box 36 = .ok (.iconst 0, 1) := by decide +kernel
theorem dX5_box_37 : decode cX5_box 37 = .ok (.istore 5, 2) := by decide +kernel
theorem dX5_box_39 : decode cX5_box 39 = .ok (.iload 5, 2) := by decide +kernel
theorem dX5_box_41 : decode cX5_box 41 = .ok (.ifCond .eq 13, 3) := by decide +kernel
theorem dX5_box_44 : decode cX5_box 44 = .ok (.iload 4, 2) := by decide +kernel
theorem dX5_box_46 : decode cX5_box 46 = .ok (.iconst 0, 1) := by decide +kernel
theorem dX5_box_47 : decode cX5_box 47 = .ok (.iconst 1, 1) := by decide +kernel
theorem dX5_box_48 : decode cX5_box 48 = .ok (.invokestatic 57, 3) := by decide +kernel
theorem dX5_box_51 : decode cX5_box 51 = .ok (.ifCond .ne 7, 3) := by decide +kernel
theorem dX5_box_54 : decode cX5_box 54 = .ok (.ldc2_w 102, 3) := by decide +kernel
theorem dX5_box_57 : decode cX5_box 57 = .ok (.lreturn, 1) := by decide +kernel
theorem dX5_box_58 : decode cX5_box 58 = .ok (.aload_n 0, 1) := by decide +kernel
theorem dX5_box_59 : decode cX5_box 59 = .ok (.invokevirtual 121, 3) := by decide +kernel
theorem dX5_box_62 : decode cX5_box 62 = .ok (.lconst 0, 1) := by decide +kernel
theorem dX5_box_63 : decode cX5_box 63 = .ok (.lstore 6, 2) := by decide +kernel
theorem dX5_box_65 : decode cX5_box 65 = .ok (.lconst 0, 1) := by decide +kernel
theorem dX5_box_66 : decode cX5_box 66 = .ok (.lstore 8, 2) := by decide +kernel
theorem dX5_box_68 : decode cX5_box 68 = .ok (.iconst 0, 1) := by decide +kernel
theorem dX5_box_69 : decode cX5_box 69 = .ok (.istore 10, 2) := by decide +kernel
theorem dX5_box_71 : decode cX5_box 71 = .ok (.iload 10, 2) := by decide +kernel
theorem dX5_box_73 : decode cX5_box 73 = .ok (.aload_n 0, 1) := by decide +kernel
theorem dX5_box_74 : decode cX5_box 74 = .ok (.getfield 44, 3) := by decide +kernel
theorem dX5_box_77 : decode cX5_box 77 = .ok (.if_icmp .ge 84, 3) := by decide +kernel
theorem dX5_box_80 : decode cX5_box 80 = .ok (.aload_n 0, 1) := by decide +kernel
theorem dX5_box_81 : decode cX5_box 81 = .ok (.getfield 11, 3) := by decide +kernel
theorem dX5_box_84 : decode cX5_box 84 = .ok (.iload 10, 2) := by decide +kernel
theorem dX5_box_86 : decode cX5_box 86 = .ok (.aaload, 1) := by decide +kernel
theorem dX5_box_87 : decode cX5_box 87 = .ok (.getfield 77, 3) := by decide +kernel
theorem dX5_box_90 : decode cX5_box 90 = .ok (.ifCond .ne 65, 3) := by decide +kernel
theorem dX5_box_93 : decode cX5_box 93 = .ok (.aload_n 0, 1) := by decide +kernel
theorem dX5_box_94 : decode cX5_box 94 = .ok (.getfield 11, 3) := by decide +kernel
theorem dX5_box_97 : decode cX5_box 97 = .ok (.iload 10, 2) := by decide +kernel
theorem dX5_box_99 : decode cX5_box 99 = .ok (.aaload, 1) := by decide +kernel
theorem dX5_box_100 : decode cX5_box 100 = .ok (.iload_n 1, 1) := by decide +kernel
theorem dX5_box_101 : decode cX5_box 101 = .ok (.iload_n 2, 1) := by decide +kernel
theorem dX5_box_102 : decode cX5_box 102 = .ok (.iload_n 3, 1) := by decide +kernel
theorem dX5_box_103 : decode cX5_box 103 = .ok (.invokevirtual 169, 3) := by decide +kernel
theorem dX5_box_106 : decode cX5_box 106 = .ok (.i2l, 1) := by decide +kernel
theorem dX5_box_107 : decode cX5_box 107 = .ok (.lstore 11, 2) := by decide +kernel
theorem dX5_box_109 : decode cX5_box 109 = .ok (.lload 6, 2) := by decide +kernel
theorem dX5_box_111 : decode cX5_box 111 = .ok (.lload 11, 2) := by decide +kernel
theorem dX5_box_113 : decode cX5_box 113 = .ok (.ladd, 1) := by decide +kernel
theorem dX5_box_114 : decode cX5_box 114 = .ok (.lstore 6, 2) := by decide +kernel
theorem dX5_box_116 : decode cX5_box 116 = .ok (.lload 8, 2) := by decide +kernel
theorem dX5_box_118 : decode cX5_box 118 = .ok (.ldc2_w 173, 3) := by decide +kernel
theorem dX5_box_121 : decode cX5_box 121 = .ok (.aload_n 0, 1) := by decide +kernel
theorem dX5_box_122 : decode cX5_box 122 = .ok (.getfield 11, 3) := by decide +kernel
theorem dX5_box_125 : decode cX5_box 125 = .ok (.iload 10, 2) := by decide +kernel
theorem dX5_box_127 : decode cX5_box 127 = .ok (.aaload, 1) := by decide +kernel
theorem dX5_box_128 : decode cX5_box 128 = .ok (.iload_n 1, 1) := by decide +kernel
theorem dX5_box_129 : decode cX5_box 129 = .ok (.iload_n 2, 1) := by decide +kernel
theorem dX5_box_130 : decode cX5_box 130 = .ok (.iload_n 3, 1) := by decide +kernel
theorem dX5_box_131 : decode cX5_box 131 = .ok (.invokevirtual 175, 3) := by decide +kernel
theorem dX5_box_134 : decode cX5_box 134 = .ok (.lmul, 1) := by decide +kernel
theorem dX5_box_135 : decode cX5_box 135 = .ok (.lload 11, 2) := by decide +kernel
theorem dX5_box_137 : decode cX5_box 137 = .ok (.aload_n 0, 1) := by decide +kernel
theorem dX5_box_138 : decode cX5_box 138 = .ok (.getfield 26, 3) := by decide +kernel
theorem dX5_box_141 : decode cX5_box 141 = .ok (.getfield 133, 3) := by decide +kernel
theorem dX5_box_144 : decode cX5_box 144 = .ok (.iload 10, 2) := by decide +kernel
theorem dX5_box_146 : decode cX5_box 146 = .ok (.aaload, 1) := by decide +kernel
theorem dX5_box_147 : decode cX5_box 147 = .ok (.invokevirtual 179, 3) := by decide +kernel
theorem dX5_box_150 : decode cX5_box 150 = .ok (.lmul, 1) := by decide +kernel
theorem dX5_box_151 : decode cX5_box 151 = .ok (.lsub, 1) := by decide +kernel
theorem dX5_box_152 : decode cX5_box 152 = .ok (.ladd, 1) := by decide +kernel
theorem dX5_box_153 : decode cX5_box 153 = .ok (.lstore 8, 2) := by decide +kernel
theorem dX5_box_155 : decode cX5_box 155 = .ok (.iinc 10 1, 3) := by decide +kernel
theorem dX5_box_158 : decode cX5_box 158 = .ok (.goto (-87), 3) := by decide +kernel
theorem dX5_box_161 : decode cX5_box 161 = .ok (.iload 4, 2) := by decide +kernel
theorem dX5_box_163 : decode cX5_box 163 = .ok (.ifCond .ne 8, 3) := by decide +kernel
theorem dX5_box_166 : decode cX5_box 166 = .ok (.lload 6, 2) := by decide +kernel
theorem dX5_box_168 : decode cX5_box 168 = .ok (.goto 5, 3) := by decide +kernel
theorem dX5_box_171 : decode cX5_box 171 = .ok (.lload 8, 2) := by decide +kernel
theorem dX5_box_173 : decode cX5_box 173 = .ok (.lreturn, 1) := by decide +kernel
theorem dX5_count_0 : decode cX5_count 0 = .ok (.iload_n 1, 1) := by decide +kernel
theorem dX5_count_1 : decode cX5_count 1 = .ok (.tableswitch 54 0 3 #[31, 36, 41, 49], 31) := by decide +kernel
theorem dX5_count_32 : decode cX5_count 32 = .ok (.aload_n 0, 1) := by decide +kernel
theorem dX5_count_33 : decode cX5_count 33 = .ok (.getfield 44, 3) := by decide +kernel
theorem dX5_count_36 : decode cX5_count 36 = .ok (.ireturn, 1) := by decide +kernel
theorem dX5_count_37 : decode cX5_count 37 = .ok (.aload_n 0, 1) := by decide +kernel
theorem dX5_count_38 : decode cX5_count 38 = .ok (.invokevirtual 182, 3) := by decide +kernel
theorem dX5_count_41 : decode cX5_count 41 = .ok (.ireturn, 1) := by decide +kernel
theorem dX5_count_42 : decode cX5_count 42 = .ok (.aload_n 0, 1) := by decide +kernel
theorem dX5_count_43 : decode cX5_count 43 = .ok (.getfield 33, 3) := by decide +kernel
theorem dX5_count_46 : decode cX5_count 46 = .ok (.getfield 145, 3) := by decide +kernel
theorem dX5_count_49 : decode cX5_count 49 = .ok (.ireturn, 1) := by decide +kernel
theorem dX5_count_50 : decode cX5_count 50 = .ok (.aload_n 0, 1) := by decide +kernel
theorem dX5_count_51 : decode cX5_count 51 = .ok (.invokevirtual 186, 3) := by decide +kernel
theorem dX5_count_54 : decode cX5_count 54 = .ok (.ireturn, 1) := by decide +kernel
theorem dX5_count_55 : decode cX5_count 55 = .ok (.iconst (-1), 1) := by decide +kernel
theorem dX5_count_56 : decode cX5_count 56 = .ok (.ireturn, 1) := by decide +kernel
theorem dX5_countReadings_0 : decode cX5_countReadings 0 = .ok (.iconst 0, 1) := by decide +kernel
theorem dX5_countReadings_1 : decode cX5_countReadings 1 = .ok (.istore_n 1, 1) := by decide +kernel
theorem dX5_countReadings_2 : decode cX5_countReadings 2 = .ok (.iconst 0, 1) := by decide +kernel
theorem dX5_countReadings_3 : decode cX5_countReadings 3 = .ok (.istore_n 2, 1) := by decide +kernel
theorem dX5_countReadings_4 : decode cX5_countReadings 4 = .ok (.iload_n 2, 1) := by decide +kernel
theorem dX5_countReadings_5 : decode cX5_countReadings 5 = .ok (.aload_n 0, 1) := by decide +kernel
theorem dX5_countReadings_6 : decode cX5_countReadings 6 = .ok (.getfield 44, 3) := by decide +kernel
theorem dX5_countReadings_9 : decode cX5_countReadings 9 = .ok (.if_icmp .ge 42, 3) := by decide +kernel
theorem dX5_countReadings_12 : decode cX5_countReadings 12 = .ok (.iconst 0, 1) := by decide +kernel
theorem dX5_countReadings_13 : decode cX5_countReadings 13 = .ok (.istore_n 3, 1) := by decide +kernel
theorem dX5_countReadings_14 : decode cX5_countReadings 14 = .ok (.iload_n 3, 1) := by decide +kernel
theorem dX5_countReadings_15 : decode cX5_countReadings 15 = .ok (.bipush 9, 2) := by decide +kernel
theorem dX5_countReadings_17 : decode cX5_countReadings 17 = .ok (.if_icmp .ge 28, 3) := by decide +kernel
theorem dX5_countReadings_20 : decode cX5_countReadings 20 = .ok (.aload_n 0, 1) := by decide +kernel
theorem dX5_countReadings_21 : decode cX5_countReadings 21 = .ok (.getfield 11, 3) := by decide +kernel
theorem dX5_countReadings_24 : decode cX5_countReadings 24 = .ok (.iload_n 2, 1) := by decide +kernel
theorem dX5_countReadings_25 : decode cX5_countReadings 25 = .ok (.aaload, 1) := by decide +kernel
theorem dX5_countReadings_26 : decode cX5_countReadings 26 = .ok (.getfield 73, 3) := by decide +kernel
theorem dX5_countReadings_29 : decode cX5_countReadings 29 = .ok (.iload_n 3, 1) := by decide +kernel
theorem dX5_countReadings_30 : decode cX5_countReadings 30 = .ok (.iaload, 1) := by decide +kernel
theorem dX5_countReadings_31 : decode cX5_countReadings 31 = .ok (.ldc 68, 2) := by decide +kernel
theorem dX5_countReadings_33 : decode cX5_countReadings 33 = .ok (.if_icmp .eq 6, 3) := by decide +kernel
theorem dX5_countReadings_36 : decode cX5_countReadings 36 = .ok (.iinc 1 1, 3) := by decide +kernel
theorem dX5_countReadings_39 : decode cX5_countReadings 39 = .ok (.iinc 3 1, 3) := by decide +kernel
theorem dX5_countReadings_42 : decode cX5_countReadings 42 = .ok (.goto (-28), 3) := by decide +kernel
theorem dX5_countReadings_45 : decode cX5_countReadings 45 = .ok (.iinc 2 1, 3) := by decide +kernel
theorem dX5_countReadings_48 : decode cX5_countReadings 48 = .ok (.goto (-44), 3) := by decide +kernel
theorem dX5_countReadings_51 : decode cX5_countReadings 51 = .ok (.iload_n 1, 1) := by decide +kernel
theorem dX5_countReadings_52 : decode cX5_countReadings 52 = .ok (.ireturn, 1) := by decide +kernel
theorem dX5_countHeldOut_0 : decode cX5_countHeldOut 0 = .ok (.iconst 0, 1) := by decide +kernel
theorem dX5_countHeldOut_1 : decode cX5_countHeldOut 1 = .ok (.istore_n 1, 1) := by decide +kernel
theorem dX5_countHeldOut_2 : decode cX5_countHeldOut 2 = .ok (.iconst 0, 1) := by decide +kernel
theorem dX5_countHeldOut_3 : decode cX5_countHeldOut 3 = .ok (.istore_n 2, 1) := by decide +kernel
theorem dX5_countHeldOut_4 : decode cX5_countHeldOut 4 = .ok (.iload_n 2, 1) := by decide +kernel
theorem dX5_countHeldOut_5 : decode cX5_countHeldOut 5 = .ok (.aload_n 0, 1) := by decide +kernel
theorem dX5_countHeldOut_6 : decode cX5_countHeldOut 6 = .ok (.getfield 44, 3) := by decide +kernel
theorem dX5_countHeldOut_9 : decode cX5_countHeldOut 9 = .ok (.if_icmp .ge 24, 3) := by decide +kernel
theorem dX5_countHeldOut_12 : decode cX5_countHeldOut 12 = .ok (.aload_n 0, 1) := by decide +kernel
theorem dX5_countHeldOut_13 : decode cX5_countHeldOut 13 = .ok (.getfield 11, 3) := by decide +kernel
theorem dX5_countHeldOut_16 : decode cX5_countHeldOut 16 = .ok (.iload_n 2, 1) := by decide +kernel
theorem dX5_countHeldOut_17 : decode cX5_countHeldOut 17 = .ok (.aaload, 1) := by decide +kernel
theorem dX5_countHeldOut_18 : decode cX5_countHeldOut 18 = .ok (.getfield 77, 3) := by decide +kernel
theorem dX5_countHeldOut_21 : decode cX5_countHeldOut 21 = .ok (.ifCond .eq 6, 3) := by decide +kernel
theorem dX5_countHeldOut_24 : decode cX5_countHeldOut 24 = .ok (.iinc 1 1, 3) := by decide +kernel
theorem dX5_countHeldOut_27 : decode cX5_countHeldOut 27 = .ok (.iinc 2 1, 3) := by decide +kernel
theorem dX5_countHeldOut_30 : decode cX5_countHeldOut 30 = .ok (.goto (-26), 3) := by decide +kernel
theorem dX5_countHeldOut_33 : decode cX5_countHeldOut 33 = .ok (.iload_n 1, 1) := by decide +kernel
theorem dX5_countHeldOut_34 : decode cX5_countHeldOut 34 = .ok (.ireturn, 1) := by decide +kernel
theorem dX5_bringClosingUpToDate_0 : decode cX5_bringClosingUpToDate 0 = .ok (.aload_n 0, 1) := by decide +kernel
theorem dX5_bringClosingUpToDate_1 : decode cX5_bringClosingUpToDate 1 = .ok (.getfield 48, 3) := by decide +kernel
theorem dX5_bringClosingUpToDate_4 : decode cX5_bringClosingUpToDate 4 = .ok (.ifCond .eq 27, 3) := by decide +kernel
theorem dX5_bringClosingUpToDate_7 : decode cX5_bringClosingUpToDate 7 = .ok (.aload_n 0, 1) := by decide +kernel
theorem dX5_bringClosingUpToDate_8 : decode cX5_bringClosingUpToDate 8 = .ok (.getfield 26, 3) := by decide +kernel
theorem dX5_bringClosingUpToDate_11 : decode cX5_bringClosingUpToDate 11 = .ok (.aload_n 0, 1) := by decide +kernel
theorem dX5_bringClosingUpToDate_12 : decode cX5_bringClosingUpToDate 12 = .ok (.getfield 11, 3) := by decide +kernel
theorem dX5_bringClosingUpToDate_15 : decode cX5_bringClosingUpToDate 15 = .ok (.aload_n 0, 1) := by decide +kernel
theorem dX5_bringClosingUpToDate_16 : decode cX5_bringClosingUpToDate 16 = .ok (.getfield 44, 3) := by decide +kernel
theorem dX5_bringClosingUpToDate_19 : decode cX5_bringClosingUpToDate 19 = .ok (.aload_n 0, 1) := by decide +kernel
theorem dX5_bringClosingUpToDate_20 : decode cX5_bringClosingUpToDate 20 = .ok (.getfield 19, 3) := by decide +kernel
theorem dX5_bringClosingUpToDate_23 : decode cX5_bringClosingUpToDate 23 = .ok (.invokevirtual 189, 3) := by decide +kernel
theorem dX5_bringClosingUpToDate_26 : decode cX5_bringClosingUpToDate 26 = .ok (.aload_n 0, 1) := by decide +kernel
theorem dX5_bringClosingUpToDate_27 : decode cX5_bringClosingUpToDate 27 = .ok (.iconst 0, 1) := by decide +kernel
theorem dX5_bringClosingUpToDate_28 : decode cX5_bringClosingUpToDate 28 = .ok (.putfield 48, 3) := by decide +kernel
theorem dX5_bringClosingUpToDate_31 : decode cX5_bringClosingUpToDate 31 = .ok (.return_, 1) := by decide +kernel
theorem dX5_isTrack_0 : decode cX5_isTrack 0 = .ok (.iload_n 1, 1) := by decide +kernel
theorem dX5_isTrack_1 : decode cX5_isTrack 1 = .ok (.ifCond .lt 15, 3) := by decide +kernel
theorem dX5_isTrack_4 : decode cX5_isTrack 4 = .ok (.iload_n 1, 1) := by decide +kernel
theorem dX5_isTrack_5 : decode cX5_isTrack 5 = .ok (.aload_n 0, 1) := by decide +kernel
theorem dX5_isTrack_6 : decode cX5_isTrack 6 = .ok (.getfield 44, 3) := by decide +kernel
theorem dX5_isTrack_9 : decode cX5_isTrack 9 = .ok (.if_icmp .ge 7, 3) := by decide +kernel
theorem dX5_isTrack_12 : decode cX5_isTrack 12 = .ok (.iconst 1, 1) := by decide +kernel
theorem dX5_isTrack_13 : decode cX5_isTrack 13 = .ok (.goto 4, 3) := by decide +kernel
theorem dX5_isTrack_16 : decode cX5_isTrack 16 = .ok (.iconst 0, 1) := by decide +kernel
theorem dX5_isTrack_17 : decode cX5_isTrack 17 = .ok (.ireturn, 1) := by decide +kernel
theorem dX5_areTwoTracks_0 : decode cX5_areTwoTracks 0 = .ok (.aload_n 0, 1) := by decide +kernel
theorem dX5_areTwoTracks_1 : decode cX5_areTwoTracks 1 = .ok (.iload_n 1, 1) := by decide +kernel
theorem dX5_areTwoTracks_2 : decode cX5_areTwoTracks 2 = .ok (.invokevirtual 69, 3) := by decide +kernel
theorem dX5_areTwoTracks_5 : decode cX5_areTwoTracks 5 = .ok (.ifCond .eq 20, 3) := by decide +kernel
theorem dX5_areTwoTracks_8 : decode cX5_areTwoTracks 8 = .ok (.aload_n 0, 1) := by decide +kernel
theorem dX5_areTwoTracks_9 : decode cX5_areTwoTracks 9 = .ok (.iload_n 2, 1) := by decide +kernel
theorem dX5_areTwoTracks_10 : decode cX5_areTwoTracks 10 = .ok (.invokevirtual 69, 3) := by decide +kernel
theorem dX5_areTwoTracks_13 : decode cX5_areTwoTracks 13 = .ok (.ifCond .eq 12, 3) := by decide +kernel
theorem dX5_areTwoTracks_16 : decode cX5_areTwoTracks 16 = .ok (.iload_n 1, 1) := by decide +kernel
theorem dX5_areTwoTracks_17 : decode cX5_areTwoTracks 17 = .ok (.iload_n 2, 1) := by decide +kernel
theorem dX5_areTwoTracks_18 : decode cX5_areTwoTracks 18 = .ok (.if_icmp .eq 7, 3) := by decide +kernel
theorem dX5_areTwoTracks_21 : decode cX5_areTwoTracks 21 = .ok (.iconst 1, 1) := by decide +kernel
theorem dX5_areTwoTracks_22 : decode cX5_areTwoTracks 22 = .ok (.goto 4, 3) := by decide +kernel
theorem dX5_areTwoTracks_25 : decode cX5_areTwoTracks 25 = .ok (.iconst 0, 1) := by decide +kernel
theorem dX5_areTwoTracks_26 : decode cX5_areTwoTracks 26 = .ok (.ireturn, 1) := by decide +kernel
theorem dX5_isPart_0 : decode cX5_isPart 0 = .ok (.iload_n 0, 1) := by decide +kernel
theorem dX5_isPart_1 : decode cX5_isPart 1 = .ok (.ifCond .eq 8, 3) := by decide +kernel
theorem dX5_isPart_4 : decode cX5_isPart 4 = .ok (.iload_n 0, 1) := by decide +kernel
theorem dX5_isPart_5 : decode cX5_isPart 5 = .ok (.iconst 1, 1) := by decide +kernel
theorem dX5_isPart_6 : decode cX5_isPart 6 = .ok (.if_icmp .ne 7, 3) := by decide +kernel
theorem dX5_isPart_9 : decode cX5_isPart 9 = .ok (.iconst 1, 1) := by decide +kernel
theorem dX5_isPart_10 : decode cX5_isPart 10 = .ok (.goto 4, 3) := by decide +kernel
theorem dX5_isPart_13 : decode cX5_isPart 13 = .ok (.iconst 0, 1) := by decide +kernel
theorem dX5_isPart_14 : decode cX5_isPart 14 = .ok (.ireturn, 1) := by decide +kernel
theorem dX5_isOnMap_0 : decode cX5_isOnMap 0 = .ok (.iload_n 0, 1) := by decide +kernel
theorem dX5_isOnMap_1 : decode cX5_isOnMap 1 = .ok (.bipush (-100), 2) := by decide +kernel
theorem dX5_isOnMap_3 : decode cX5_isOnMap 3 = .ok (.bipush 100, 2) := by decide +kernel
theorem dX5_isOnMap_5 : decode cX5_isOnMap 5 = .ok (.invokestatic 57, 3) := by decide +kernel
theorem dX5_isOnMap_8 : decode cX5_isOnMap 8 = .ok (.ireturn, 1) := by decide +kernel
theorem dX5_isWithin_0 : decode cX5_isWithin 0 = .ok (.iload_n 0, 1) := by decide +kernel
theorem dX5_isWithin_1 : decode cX5_isWithin 1 = .ok (.iload_n 1, 1) := by decide +kernel
theorem dX5_isWithin_2 : decode cX5_isWithin 2 = .ok (.if_icmp .lt 12, 3) := by decide +kernel
theorem dX5_isWithin_5 : decode cX5_isWithin 5 = .ok (.iload_n 0, 1) := by decide +kernel
theorem dX5_isWithin_6 : decode cX5_isWithin 6 = .ok (.iload_n 2, 1) := by decide +kernel
theorem dX5_isWithin_7 : decode cX5_isWithin 7 = .ok (.if_icmp .gt 7, 3) := by decide +kernel
theorem dX5_isWithin_10 : decode cX5_isWithin 10 = .ok (.iconst 1, 1) := by decide +kernel
theorem dX5_isWithin_11 : decode cX5_isWithin 11 = .ok (.goto 4, 3) := by decide +kernel
theorem dX5_isWithin_14 : decode cX5_isWithin 14 = .ok (.iconst 0, 1) := by decide +kernel
theorem dX5_isWithin_15 : decode cX5_isWithin 15 = .ok (.ireturn, 1) := by decide +kernel
theorem dJ9_floorDiv_7cf53_0 : decode cJ9_floorDiv_7cf53 0 = .ok (.iload_n 0, 1) := by decide +kernel
theorem dJ9_floorDiv_7cf53_1 : decode cJ9_floorDiv_7cf53 1 = .ok (.iload_n 1, 1) := by decide +kernel
theorem dJ9_floorDiv_7cf53_2 : decode cJ9_floorDiv_7cf53 2 = .ok (.idiv, 1) := by decide +kernel
theorem dJ9_floorDiv_7cf53_3 : decode cJ9_floorDiv_7cf53 3 = .ok (.istore_n 2, 1) := by decide +kernel
theorem dJ9_floorDiv_7cf53_4 : decode cJ9_floorDiv_7cf53 4 = .ok (.iload_n 0, 1) := by decide +kernel
theorem dJ9_floorDiv_7cf53_5 : decode cJ9_floorDiv_7cf53 5 = .ok (.iload_n 1, 1) := by decide +kernel
theorem dJ9_floorDiv_7cf53_6 : decode cJ9_floorDiv_7cf53 6 = .ok (.ixor, 1) := by decide +kernel
theorem dJ9_floorDiv_7cf53_7 : decode cJ9_floorDiv_7cf53 7 = .ok (.ifCond .ge 14, 3) := by decide +kernel
theorem dJ9_floorDiv_7cf53_10 : decode cJ9_floorDiv_7cf53 10 = .ok (.iload_n 2, 1) := by decide +kernel
theorem dJ9_floorDiv_7cf53_11 : decode cJ9_floorDiv_7cf53 11 = .ok (.iload_n 1, 1) := by decide +kernel
theorem dJ9_floorDiv_7cf53_12 : decode cJ9_floorDiv_7cf53 12 = .ok (.imul, 1) := by decide +kernel
theorem dJ9_floorDiv_7cf53_13 : decode cJ9_floorDiv_7cf53 13 = .ok (.iload_n 0, 1) := by decide +kernel
theorem dJ9_floorDiv_7cf53_14 : decode cJ9_floorDiv_7cf53 14 = .ok (.if_icmp .eq 7, 3) := by decide +kernel
theorem dJ9_floorDiv_7cf53_17 : decode cJ9_floorDiv_7cf53 17 = .ok (.iload_n 2, 1) := by decide +kernel
theorem dJ9_floorDiv_7cf53_18 : decode cJ9_floorDiv_7cf53 18 = .ok (.iconst 1, 1) := by decide +kernel
theorem dJ9_floorDiv_7cf53_19 : decode cJ9_floorDiv_7cf53 19 = .ok (.isub, 1) := by decide +kernel
theorem dJ9_floorDiv_7cf53_20 : decode cJ9_floorDiv_7cf53 20 = .ok (.ireturn, 1) := by decide +kernel
theorem dJ9_floorDiv_7cf53_21 : decode cJ9_floorDiv_7cf53 21 = .ok (.iload_n 2, 1) := by decide +kernel
theorem dJ9_floorDiv_7cf53_22 : decode cJ9_floorDiv_7cf53 22 = .ok (.ireturn, 1) := by decide +kernel
theorem dJ9_floorDiv_f86c9_0 : decode cJ9_floorDiv_f86c9 0 = .ok (.lload_n 0, 1) := by decide +kernel
theorem dJ9_floorDiv_f86c9_1 : decode cJ9_floorDiv_f86c9 1 = .ok (.lload_n 2, 1) := by decide +kernel
theorem dJ9_floorDiv_f86c9_2 : decode cJ9_floorDiv_f86c9 2 = .ok (.ldiv, 1) := by decide +kernel
theorem dJ9_floorDiv_f86c9_3 : decode cJ9_floorDiv_f86c9 3 = .ok (.lstore 4, 2) := by decide +kernel
theorem dJ9_floorDiv_f86c9_5 : decode cJ9_floorDiv_f86c9 5 = .ok (.lload_n 0, 1) := by decide +kernel
theorem dJ9_floorDiv_f86c9_6 : decode cJ9_floorDiv_f86c9 6 = .ok (.lload_n 2, 1) := by decide +kernel
theorem dJ9_floorDiv_f86c9_7 : decode cJ9_floorDiv_f86c9 7 = .ok (.lxor, 1) := by decide +kernel
theorem dJ9_floorDiv_f86c9_8 : decode cJ9_floorDiv_f86c9 8 = .ok (.lconst 0, 1) := by decide +kernel
theorem dJ9_floorDiv_f86c9_9 : decode cJ9_floorDiv_f86c9 9 = .ok (.lcmp, 1) := by decide +kernel
theorem dJ9_floorDiv_f86c9_10 : decode cJ9_floorDiv_f86c9 10 = .ok (.ifCond .ge 17, 3) := by decide +kernel
theorem dJ9_floorDiv_f86c9_13 : decode cJ9_floorDiv_f86c9 13 = .ok (.lload 4, 2) := by decide +kernel
theorem dJ9_floorDiv_f86c9_15 : decode cJ9_floorDiv_f86c9 15 = .ok (.lload_n 2, 1) := by decide +kernel
theorem dJ9_floorDiv_f86c9_16 : decode cJ9_floorDiv_f86c9 16 = .ok (.lmul, 1) := by decide +kernel
theorem dJ9_floorDiv_f86c9_17 : decode cJ9_floorDiv_f86c9 17 = .ok (.lload_n 0, 1) := by decide +kernel
theorem dJ9_floorDiv_f86c9_18 : decode cJ9_floorDiv_f86c9 18 = .ok (.lcmp, 1) := by decide +kernel
theorem dJ9_floorDiv_f86c9_19 : decode cJ9_floorDiv_f86c9 19 = .ok (.ifCond .eq 8, 3) := by decide +kernel
theorem dJ9_floorDiv_f86c9_22 : decode cJ9_floorDiv_f86c9 22 = .ok (.lload 4, 2) := by decide +kernel
theorem dJ9_floorDiv_f86c9_24 : decode cJ9_floorDiv_f86c9 24 = .ok (.lconst 1, 1) := by decide +kernel
theorem dJ9_floorDiv_f86c9_25 : decode cJ9_floorDiv_f86c9 25 = .ok (.lsub, 1) := by decide +kernel
theorem dJ9_floorDiv_f86c9_26 : decode cJ9_floorDiv_f86c9 26 = .ok (.lreturn, 1) := by decide +kernel
theorem dJ9_floorDiv_f86c9_27 : decode cJ9_floorDiv_f86c9 27 = .ok (.lload 4, 2) := by decide +kernel
theorem dJ9_floorDiv_f86c9_29 : decode cJ9_floorDiv_f86c9 29 = .ok (.lreturn, 1) := by decide +kernel
theorem dJ9_abs_067f4_0 : decode cJ9_abs_067f4 0 = .ok (.lload_n 0, 1) := by decide +kernel
theorem dJ9_abs_067f4_1 : decode cJ9_abs_067f4 1 = .ok (.lconst 0, 1) := by decide +kernel
theorem dJ9_abs_067f4_2 : decode cJ9_abs_067f4 2 = .ok (.lcmp, 1) := by decide +kernel
theorem dJ9_abs_067f4_3 : decode cJ9_abs_067f4 3 = .ok (.ifCond .ge 8, 3) := by decide +kernel
theorem dJ9_abs_067f4_6 : decode cJ9_abs_067f4 6 = .ok (.lload_n 0, 1) := by decide +kernel
theorem dJ9_abs_067f4_7 : decode cJ9_abs_067f4 7 = .ok (.lneg, 1) := by decide +kernel
theorem dJ9_abs_067f4_8 : decode cJ9_abs_067f4 8 = .ok (.goto 4, 3) := by decide +kernel
theorem dJ9_abs_067f4_11 : decode cJ9_abs_067f4 11 = .ok (.lload_n 0, 1) := by decide +kernel
theorem dJ9_abs_067f4_12 : decode cJ9_abs_067f4 12 = .ok (.lreturn, 1) := by decide +kernel
theorem dJ9_max_7cf53_0 : decode cJ9_max_7cf53 0 = .ok (.iload_n 0, 1) := by decide +kernel
theorem dJ9_max_7cf53_1 : decode cJ9_max_7cf53 1 = .ok (.iload_n 1, 1) := by decide +kernel
theorem dJ9_max_7cf53_2 : decode cJ9_max_7cf53 2 = .ok (.if_icmp .lt 7, 3) := by decide +kernel
theorem dJ9_max_7cf53_5 : decode cJ9_max_7cf53 5 = .ok (.iload_n 0, 1) := by decide +kernel
theorem dJ9_max_7cf53_6 : decode cJ9_max_7cf53 6 = .ok (.goto 4, 3) := by decide +kernel
theorem dJ9_max_7cf53_9 : decode cJ9_max_7cf53 9 = .ok (.iload_n 1, 1) := by decide +kernel
theorem dJ9_max_7cf53_10 : decode cJ9_max_7cf53 10 = .ok (.ireturn, 1) := by decide +kernel
theorem dJ9_min_7cf53_0 : decode cJ9_min_7cf53 0 = .ok (.iload_n 0, 1) := by decide +kernel
theorem dJ9_min_7cf53_1 : decode cJ9_min_7cf53 1 = .ok (.iload_n 1, 1) := by decide +kernel
theorem dJ9_min_7cf53_2 : decode cJ9_min_7cf53 2 = .ok (.if_icmp .gt 7, 3) := by decide +kernel
theorem dJ9_min_7cf53_5 : decode cJ9_min_7cf53 5 = .ok (.iload_n 0, 1) := by decide +kernel
theorem dJ9_min_7cf53_6 : decode cJ9_min_7cf53 6 = .ok (.goto 4, 3) := by decide +kernel
theorem dJ9_min_7cf53_9 : decode cJ9_min_7cf53 9 = .ok (.iload_n 1, 1) := by decide +kernel
theorem dJ9_min_7cf53_10 : decode cJ9_min_7cf53 10 = .ok (.ireturn, 1) := by decide +kernel
