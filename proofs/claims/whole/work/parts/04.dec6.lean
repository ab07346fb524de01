theorem dX6_init_0 : decode cX6_init 0 = .ok (.aload_n 0, 1) := by decide +kernel
theorem dX6_init_1 : decode cX6_init 1 = .ok (.invokespecial 1, 3) := by decide +kernel
theorem dX6_init_4 : decode cX6_init 4 = .ok (.aload_n 0, 1) := by decide +kernel
theorem dX6_init_5 : decode cX6_init 5 = .ok (.bipush 48, 2) := by decide +kernel
theorem dX6_init_7 : decode cX6_init 7 = .ok (.newarray .int, 2) := by decide +kernel
theorem dX6_init_9 : decode cX6_init 9 = .ok (.putfield 7, 3) := by decide +kernel
theorem dX6_init_12 : decode cX6_init 12 = .ok (.aload_n 0, 1) := by decide +kernel
theorem dX6_init_13 : decode cX6_init 13 = .ok (.bipush 72, 2) := by decide +kernel
theorem dX6_init_15 : decode cX6_init 15 = .ok (.newarray .int, 2) := by decide +kernel
theorem dX6_init_17 : decode cX6_init 17 = .ok (.putfield 13, 3) := by decide +kernel
theorem dX6_init_20 : decode cX6_init 20 = .ok (.aload_n 0, 1) := by decide +kernel
theorem dX6_init_21 : decode cX6_init 21 = .ok (.bipush 8, 2) := by decide +kernel
theorem dX6_init_23 : decode cX6_init 23 = .ok (.newarray .boolean, 2) := by decide +kernel
theorem dX6_init_25 : decode cX6_init 25 = .ok (.putfield 16, 3) := by decide +kernel
theorem dX6_init_28 : decode cX6_init 28 = .ok (.aload_n 0, 1) := by decide +kernel
theorem dX6_init_29 : decode cX6_init 29 = .ok (.bipush 6, 2) := by decide +kernel
theorem dX6_init_31 : decode cX6_init 31 = .ok (.newarray .int, 2) := by decide +kernel
theorem dX6_init_33 : decode cX6_init 33 = .ok (.putfield 20, 3) := by decide +kernel
theorem dX6_init_36 : decode cX6_init 36 = .ok (.aload_n 0, 1) := by decide +kernel
theorem dX6_init_37 : decode cX6_init 37 = .ok (.bipush 8, 2) := by decide +kernel
theorem dX6_init_39 : decode cX6_init 39 = .ok (.newarray .int, 2) := by decide +kernel
theorem dX6_init_41 : decode cX6_init 41 = .ok (.putfield 23, 3) := by decide +kernel
theorem dX6_init_44 : decode cX6_init 44 = .ok (.aload_n 0, 1) := by decide +kernel
theorem dX6_init_45 : decode cX6_init 45 = .ok (.bipush 8, 2) := by decide +kernel
theorem dX6_init_47 : decode cX6_init 47 = .ok (.newarray .int, 2) := by decide +kernel
theorem dX6_init_49 : decode cX6_init 49 = .ok (.putfield 26, 3) := by decide +kernel
theorem dX6_init_52 : decode cX6_init 52 = .ok (.aload_n 0, 1) := by decide +kernel
theorem dX6_init_53 : decode cX6_init 53 = .ok (.bipush 64, 2) := by decide +kernel
theorem dX6_init_55 : decode cX6_init 55 = .ok (.newarray .long, 2) := by decide +kernel
theorem dX6_init_57 : decode cX6_init 57 = .ok (.putfield 29, 3) := by decide +kernel
theorem dX6_init_60 : decode cX6_init 60 = .ok (.aload_n 0, 1) := by decide +kernel
theorem dX6_init_61 : decode cX6_init 61 = .ok (.bipush 8, 2) := by decide +kernel
theorem dX6_init_63 : decode cX6_init 63 = .ok (.newarray .long, 2) := by decide +kernel
theorem dX6_init_65 : decode cX6_init 65 = .ok (.putfield 33, 3) := by decide +kernel
theorem dX6_init_68 : decode cX6_init 68 = .ok (.aload_n 0, 1) := by decide +kernel
theorem dX6_init_69 : decode cX6_init 69 = .ok (.bipush 8, 2) := by decide +kernel
theorem dX6_init_71 : decode cX6_init 71 = .ok (.newarray .long, 2) := by decide +kernel
theorem dX6_init_73 : decode cX6_init 73 = .ok (.putfield 36, 3) := by decide +kernel
theorem dX6_init_76 : decode cX6_init 76 = .ok (.iconst 0, 1) := by decide +kernel
theorem dX6_init_77 : decode cX6_init 77 = .ok (.istore_n 1, 1) := by decide +kernel
theorem dX6_init_78 : decode cX6_init 78 = .ok (.iload_n 1, 1) := by decide +kernel
theorem dX6_init_79 : decode cX6_init 79 = .ok (.bipush 72, 2) := by decide +kernel
theorem dX6_init_81 : decode cX6_init 81 = .ok (.if_icmp .ge 17, 3) := by decide +kernel
theorem dX6_init_84 : decode cX6_init 84 = .ok (.aload_n 0, 1) := by decide +kernel
theorem dX6_init_85 : decode cX6_init 85 = .ok (.getfield 13, 3) := by decide +kernel
theorem dX6_init_88 : decode cX6_init 88 = .ok (.iload_n 1, 1) := by decide +kernel
theorem dX6_init_89 : decode cX6_init 89 = .ok (.ldc 39, 2) := by decide +kernel
theorem dX6_init_91 : decode cX6_init 91 = .ok (.iastore, 1) := by decide +kernel
theorem dX6_init_92 : decode cX6_init 92 = .ok (.iinc 1 1, 3) := by decide +kernel
theorem dX6_init_95 : decode cX6_init 95 = .ok (.goto (-17), 3) := by decide +kernel
theorem dX6_init_98 : decode cX6_init 98 = .ok (.return_, 1) := by decide +kernel
theorem dX6_in_0 : decode cX6_in 0 = .ok (.lload_n 0, 1) := by decide +kernel
theorem dX6_in_1 : decode cX6_in 1 = .ok (.lload_n 2, 1) := by decide +kernel
theorem dX6_in_2 : decode cX6_in 2 = .ok (.lcmp, 1) := by decide +kernel
theorem dX6_in_3 : decode cX6_in 3 = .ok (.ifCond .lt 14, 3) := by decide +kernel
theorem dX6_in_6 : decode cX6_in 6 = .ok (.lload_n 0, 1) := by decide +kernel
theorem dX6_in_7 : decode cX6_in 7 = .ok (.lload 4, 2) := by decide +kernel
theorem dX6_in_9 : decode cX6_in 9 = .ok (.lcmp, 1) := by decide +kernel
theorem dX6_in_10 : decode cX6_in 10 = .ok (.ifCond .gt 7, 3) := by decide +kernel
theorem dX6_in_13 : decode cX6_in 13 = .ok (.iconst 1, 1) := by decide +kernel
theorem dX6_in_14 : decode cX6_in 14 = .ok (.goto 4, 3) := by decide +kernel
theorem dX6_in_17 : decode cX6_in 17 = .ok (.iconst 0, 1) := by decide +kernel
theorem dX6_in_18 : decode cX6_in 18 = .ok (.ireturn, 1) := by decide +kernel
theorem dX6_isTrack_0 : decode cX6_isTrack 0 = .ok (.iload_n 1, 1) := by decide +kernel
theorem dX6_isTrack_1 : decode cX6_isTrack 1 = .ok (.i2l, 1) := by decide +kernel
theorem dX6_isTrack_2 : decode cX6_isTrack 2 = .ok (.lconst 0, 1) := by decide +kernel
theorem dX6_isTrack_3 : decode cX6_isTrack 3 = .ok (.aload_n 0, 1) := by decide +kernel
theorem dX6_isTrack_4 : decode cX6_isTrack 4 = .ok (.getfield 40, 3) := by decide +kernel
theorem dX6_isTrack_7 : decode cX6_isTrack 7 = .ok (.iconst 1, 1) := by decide +kernel
theorem dX6_isTrack_8 : decode cX6_isTrack 8 = .ok (.isub, 1) := by decide +kernel
theorem dX6_isTrack_9 : decode cX6_isTrack 9 = .ok (.i2l, 1) := by decide +kernel
theorem dX6_isTrack_10 : decode cX6_isTrack 10 = .ok (.invokestatic 44, 3) := by decide +kernel
theorem dX6_isTrack_13 : decode cX6_isTrack 13 = .ok (.ireturn, 1) := by decide +kernel
theorem dX6_isSpot_0 : decode cX6_isSpot 0 = .ok (.iload_n 0, 1) := by decide +kernel
theorem dX6_isSpot_1 : decode cX6_isSpot 1 = .ok (.i2l, 1) := by decide +kernel
theorem dX6_isSpot_2 : decode cX6_isSpot 2 = .ok (.ldc2_w 48, 3) := by decide +kernel
theorem dX6_isSpot_5 : decode cX6_isSpot 5 = .ok (.ldc2_w 50, 3) := by decide +kernel
theorem dX6_isSpot_8 : decode cX6_isSpot 8 = .ok (.invokestatic 44, 3) := by decide +kernel
theorem dX6_isSpot_11 : decode cX6_isSpot 11 = .ok (.ifCond .eq 21, 3) := by decide +kernel
theorem dX6_isSpot_14 : decode cX6_isSpot 14 = .ok (.iload_n 1, 1) := by decide +kernel
theorem dX6_isSpot_15 : decode cX6_isSpot 15 = .ok (.i2l, 1) := by decide +kernel
theorem dX6_isSpot_16 : decode cX6_isSpot 16 = .ok (.ldc2_w 48, 3) := by decide +kernel
theorem dX6_isSpot_19 : decode cX6_isSpot 19 = .ok (.ldc2_w 50, 3) := by decide +kernel
theorem dX6_isSpot_22 : decode cX6_isSpot 22 = .ok (.invokestatic 44, 3) := by decide +kernel
theorem dX6_isSpot_25 : decode cX6_isSpot 25 = .ok (.ifCond .eq 7, 3) := by decide +kernel
theorem dX6_isSpot_28 : decode cX6_isSpot 28 = .ok (.iconst 1, 1) := by decide +kernel
theorem dX6_isSpot_29 : decode cX6_isSpot 29 = .ok (.goto 4, 3) := by decide +kernel
theorem dX6_isSpot_32 : decode cX6_isSpot 32 = .ok (.iconst 0, 1) := by decide +kernel
theorem dX6_isSpot_33 : decode cX6_isSpot 33 = .ok (.ireturn, 1) := by decide +kernel
theorem dX6_track_0 : decode cX6_track 0 = .ok (.iload_n 1, 1) := by decide +kernel
theorem dX6_track_1 : decode cX6_track 1 = .ok (.iload_n 2, 1) := by decide +kernel
theorem dX6_track_2 : decode cX6_track 2 = .ok (.invokestatic 52, 3) := by decide +kernel
theorem dX6_track_5 : decode cX6_track 5 = .ok (.ifCond .eq 56, 3) := by decide +kernel
theorem dX6_track_8 : decode cX6_track 8 = .ok (.iload_n 3, 1) := by decide +kernel
theorem dX6_track_9 : decode cX6_track 9 = .ok (.iload 4, 2) := by decide +kernel
theorem dX6_track_11 : decode cX6_track 11 = .ok (.invokestatic 52, 3) := by decide +kernel
theorem dX6_track_14 : decode cX6_track 14 = .ok (.ifCond .eq 47, 3) := by decide +kernel
theorem dX6_track_17 : decode cX6_track 17 = .ok (.iload 5, 2) := by decide +kernel
theorem dX6_track_19 : decode cX6_track 19 = .ok (.i2l, 1) := by decide +kernel
theorem dX6_track_20 : decode cX6_track 20 = .ok (.lconst 0, 1) := by decide +kernel
theorem dX6_track_21 : decode cX6_track 21 = .ok (.ldc2_w 56, 3) := by decide +kernel
theorem dX6_track_24 : decode cX6_track 24 = .ok (.invokestatic 44, 3) := by decide +kernel
theorem dX6_track_27 : decode cX6_track 27 = .ok (.ifCond .eq 34, 3) := by decide +kernel
theorem dX6_track_30 : decode cX6_track 30 = .ok (.iload 6, 2) := by decide +kernel
theorem dX6_track_32 : decode cX6_track 32 = .ok (.i2l, 1) := by decide +kernel
theorem dX6_track_33 : decode cX6_track 33 = .ok (.lconst 0, 1) := by decide +kernel
theorem dX6_track_34 : decode cX6_track 34 = .ok (.ldc2_w 56, 3) := by decide +kernel
theorem dX6_track_37 : decode cX6_track 37 = .ok (.invokestatic 44, 3) := by decide +kernel
theorem dX6_track_40 : decode cX6_track 40 = .ok (.ifCond .eq 21, 3) := by decide +kernel
theorem dX6_track_43 : decode cX6_track 43 = .ok (.iload 6, 2) := by decide +kernel
theorem dX6_track_45 : decode cX6_track 45 = .ok (.iload 5, 2) := by decide +kernel
theorem dX6_track_47 : decode cX6_track 47 = .ok (.if_icmp .le 14, 3) := by decide +kernel
theorem dX6_track_50 : decode cX6_track 50 = .ok (.iload_n 1, 1) := by decide +kernel
theorem dX6_track_51 : decode cX6_track 51 = .ok (.iload_n 3, 1) := by decide +kernel
theorem dX6_track_52 : decode cX6_track 52 = .ok (.if_icmp .ne 11, 3) := by decide +kernel
theorem dX6_track_55 : decode cX6_track 55 = .ok (.iload_n 2, 1) := by decide +kernel
theorem dX6_track_56 : decode cX6_track 56 = .ok (.iload 4, 2) := by decide +kernel
theorem dX6_track_58 : decode cX6_track 58 = .ok (.if_icmp .ne 5, 3) := by decide +kernel
theorem dX6_track_61 : decode cX6_track 61 = .ok (.iconst (-1), 1) := by decide +kernel
theorem dX6_track_62 : decode cX6_track 62 = .ok (.ireturn, 1) := by decide +kernel
theorem dX6_track_63 : decode cX6_track 63 = .ok (.aload_n 0, 1) := by decide +kernel
theorem dX6_track_64 : decode cX6_track 64 = .ok (.getfield 40, 3) := by decide +kernel
theorem dX6_track_67 : decode cX6_track 67 = .ok (.bipush 8, 2) := by decide +kernel
theorem dX6_track_69 : decode cX6_track 69 = .ok (.if_icmp .ne 6, 3) := by decide +kernel
theorem dX6_track_72 : decode cX6_track 72 = .ok (.bipush (-3), 2) := by decide +kernel
theorem dX6_track_74 : decode cX6_track 74 = .ok (.ireturn, 1) := by decide +kernel
theorem dX6_track_75 : decode cX6_track 75 = .ok (.aload_n 0, 1) := by decide +kernel
theorem dX6_track_76 : decode cX6_track 76 = .ok (.getfield 7, 3) := by decide +kernel
theorem dX6_track_79 : decode cX6_track 79 = .ok (.bipush 6, 2) := by decide +kernel
theorem dX6_track_81 : decode cX6_track 81 = .ok (.aload_n 0, 1) := by decide +kernel
theorem dX6_track_82 : decode cX6_track 82 = .ok (.getfield 40, 3) := by decide +kernel
theorem dX6_track_85 : decode cX6_track 85 = .ok (.imul, 1) := by decide +kernel
theorem dX6_track_86 : decode cX6_track 86 = .ok (.iload_n 1, 1) := by decide +kernel
theorem dX6_track_87 : decode cX6_track 87 = .ok (.iastore, 1) := by decide +kernel
theorem dX6_track_88 : decode cX6_track 88 = .ok (.aload_n 0, 1) := by decide +kernel
theorem dX6_track_89 : decode cX6_track 89 = .ok (.getfield 7, 3) := by decide +kernel
theorem dX6_track_92 : decode cX6_track 92 = .ok (.bipush 6, 2) := by decide +kernel
theorem dX6_track_94 : decode cX6_track 94 = .ok (.aload_n 0, 1) := by decide +kernel
theorem dX6_track_95 : decode cX6_track 95 = .ok (.getfield 40, 3) := by decide +kernel
theorem dX6_track_98 : decode cX6_track 98 = .ok (.imul, 1) := by decide +kernel
theorem dX6_track_99 : decode cX6_track 99 = .ok (.iconst 1, 1) := by decide +kernel
theorem dX6_track_100 : decode cX6_track 100 = .ok (.iadd, 1) := by decide +kernel
theorem dX6_track_101 : decode cX6_track 101 = .ok (.iload_n 2, 1) := by decide +kernel
theorem dX6_track_102 : decode cX6_track 102 = .ok (.iastore, 1) := by decide +kernel
theorem dX6_track_103 : decode cX6_track 103 = .ok (.aload_n 0, 1) := by decide +kernel
theorem dX6_track_104 : decode cX6_track 104 = .ok (.getfield 7, 3) := by decide +kernel
theorem dX6_track_107 : decode cX6_track 107 = .ok (.bipush 6, 2) := by decide +kernel
theorem dX6_track_109 : decode cX6_track 109 = .ok (.aload_n 0, 1) := by decide +kernel
theorem dX6_track_110 : decode cX6_track 110 = .ok (.getfield 40, 3) := by decide +kernel
theorem dX6_track_113 : decode cX6_track 113 = .ok (.imul, 1) := by decide +kernel
theorem dX6_track_114 : decode cX6_track 114 = .ok (.iconst 2, 1) := by decide +kernel
theorem dX6_track_115 : decode cX6_track 115 = .ok (.iadd, 1) := by decide +kernel
theorem dX6_track_116 : decode cX6_track 116 = .ok (.iload_n 3, 1) := by decide +kernel
theorem dX6_track_117 : decode cX6_track 117 = .ok (.iastore, 1) := by decide +kernel
theorem dX6_track_118 : decode cX6_track 118 = .ok (.aload_n 0, 1) := by decide +kernel
theorem dX6_track_119 : decode cX6_track 119 = .ok (.getfield 7, 3) := by decide +kernel
theorem dX6_track_122 : decode cX6_track 122 = .ok (.bipush 6, 2) := by decide +kernel
theorem dX6_track_124 : decode cX6_track 124 = .ok (.aload_n 0, 1) := by decide +kernel
theorem dX6_track_125 : decode cX6_track 125 = .ok (.getfield 40, 3) := by decide +kernel
theorem dX6_track_128 : decode cX6_track 128 = .ok (.imul, 1) := by decide +kernel
theorem dX6_track_129 : decode cX6_track 129 = .ok (.iconst 3, 1) := by decide +kernel
theorem dX6_track_130 : decode cX6_track 130 = .ok (.iadd, 1) := by decide +kernel
theorem dX6_track_131 : decode cX6_track 131 = .ok (.iload 4, 2) := by decide +kernel
theorem dX6_track_133 : decode cX6_track 133 = .ok (.iastore, 1) := by decide +kernel
theorem dX6_track_134 : decode cX6_track 134 = .ok (.aload_n 0, 1) := by decide +kernel
theorem dX6_track_135 : decode cX6_track 135 = .ok (.getfield 7, 3) := by decide +kernel
theorem dX6_track_138 : decode cX6_track 138 = .ok (.bipush 6, 2) := by decide +kernel
theorem dX6_track_140 : decode cX6_track 140 = .ok (.aload_n 0, 1) := by decide +kernel
theorem dX6_track_141 : decode cX6_track 141 = .ok (.getfield 40, 3) := by decide +kernel
theorem dX6_track_144 : decode cX6_track 144 = .ok (.imul, 1) := by decide +kernel
theorem dX6_track_145 : decode cX6_track 145 = .ok (.iconst 4, 1) := by decide +kernel
theorem dX6_track_146 : decode cX6_track 146 = .ok (.iadd, 1) := by decide +kernel
theorem dX6_track_147 : decode cX6_track 147 = .ok (.iload 5, 2) := by decide +kernel
theorem dX6_track_149 : decode cX6_track 149 = .ok (.iastore, 1) := by decide +kernel
theorem dX6_track_150 : decode cX6_track 150 = .ok (.aload_n 0, 1) := by decide +kernel
theorem dX6_track_151 : decode cX6_track 151 = .ok (.getfield 7, 3) := by decide +kernel
theorem dX6_track_154 : decode cX6_track 154 = .ok (.bipush 6, 2) := by decide +kernel
theorem dX6_track_156 : decode cX6_track 156 = .ok (.aload_n 0, 1) := by decide +kernel
theorem dX6_track_157 : decode cX6_track 157 = .ok (.getfield 40, 3) := by decide +kernel
theorem dX6_track_160 : decode cX6_track 160 = .ok (.imul, 1) := by decide +kernel
theorem dX6_track_161 : decode cX6_track 161 = .ok (.iconst 5, 1) := by decide +kernel
theorem dX6_track_162 : decode cX6_track 162 = .ok (.iadd, 1) := by decide +kernel
theorem dX6_track_163 : decode cX6_track 163 = .ok (.iload 6, 2) := by decide +kernel
theorem dX6_track_165 : decode cX6_track 165 = .ok (.iastore, 1) := by decide +kernel
theorem dX6_track_166 : decode cX6_track 166 = .ok (.aload_n 0, 1) := by decide +kernel
theorem dX6_track_167 : decode cX6_track 167 = .ok (.dup, 1) := by decide +kernel
theorem dX6_track_168 : decode cX6_track 168 = .ok (.getfield 40, 3) := by decide +kernel
theorem dX6_track_171 : decode cX6_track 171 = .ok (.iconst 1, 1) := by decide +kernel
theorem dX6_track_172 : decode cX6_track 172 = .ok (.iadd, 1) := by decide +kernel
theorem dX6_track_173 : decode cX6_track 173 = .ok (.putfield 40, 3) := by decide +kernel
theorem dX6_track_176 : decode cX6_track 176 = .ok (.aload_n 0, 1) := by decide +kernel
theorem dX6_track_177 : decode cX6_track 177 = .ok (.getfield 40, 3) := by decide +kernel
theorem dX6_track_180 : decode cX6_track 180 = .ok (.iconst 1, 1) := by decide +kernel
theorem dX6_track_181 : decode cX6_track 181 = .ok (.isub, 1) := by decide +kernel
theorem dX6_track_182 : decode cX6_track 182 = .ok (.ireturn, 1) := by decide +kernel
theorem dX6_read_0 : decode cX6_read 0 = .ok (.aload_n 0, 1) := by decide +kernel
theorem dX6_read_1 : decode cX6_read 1 = .ok (.iload_n 1, 1) := by decide +kernel
theorem dX6_read_2 : decode cX6_read 2 = .ok (.invokevirtual 58, 3) := by decide +kernel
theorem dX6_read_5 : decode cX6_read 5 = .ok (.ifCond .eq 35, 3) := by decide +kernel
theorem dX6_read_8 : decode cX6_read 8 = .ok (.iload_n 2, 1) := by decide +kernel
theorem dX6_read_9 : decode cX6_read 9 = .ok (.i2l, 1) := by decide +kernel
theorem dX6_read_10 : decode cX6_read 10 = .ok (.lconst 0, 1) := by decide +kernel
theorem dX6_read_11 : decode cX6_read 11 = .ok (.ldc2_w 62, 3) := by decide +kernel
theorem dX6_read_14 : decode cX6_read 14 = .ok (.invokestatic 44, 3) := by decide +kernel
theorem dX6_read_17 : decode cX6_read 17 = .ok (.ifCond .eq 23, 3) := by decide +kernel
theorem dX6_read_20 : decode cX6_read 20 = .ok (.iload_n 3, 1) := by decide +kernel
theorem dX6_read_21 : decode cX6_read 21 = .ok (.i2l, 1) := by decide +kernel
theorem dX6_read_22 : decode cX6_read 22 = .ok (.ldc2_w 64, 3) := by decide +kernel
theorem dX6_read_25 : decode cX6_read 25 = .ok (.ldc2_w 66, 3) := by decide +kernel
theorem dX6_read_28 : decode cX6_read 28 = .ok (.invokestatic 44, 3) := by decide +kernel
theorem dX6_read_31 : decode cX6_read 31 = .ok (.ifCond .ne 12, 3) := by decide +kernel
theorem dX6_read_34 : decode cX6_read 34 = .ok (.iload_n 3, 1) := by decide +kernel
theorem dX6_read_35 : decode cX6_read 35 = .ok (.ldc 39, 2) := by decide +kernel
theorem dX6_read_37 : decode cX6_read 37 = .ok (.if_icmp .eq 6, 3) := by decide +kernel
theorem dX6_read_40 : decode cX6_read 40 = .ok (.ldc 68, 2) := by decide +kernel
theorem dX6_read_42 : decode cX6_read 42 = .ok (.ireturn, 1) := by decide +kernel
theorem dX6_read_43 : decode cX6_read 43 = .ok (.aload_n 0, 1) := by decide +kernel
theorem dX6_read_44 : decode cX6_read 44 = .ok (.getfield 13, 3) := by decide +kernel
theorem dX6_read_47 : decode cX6_read 47 = .ok (.bipush 9, 2) := by decide +kernel
theorem dX6_read_49 : decode cX6_read 49 = .ok (.iload_n 1, 1) := by decide +kernel
theorem dX6_read_50 : decode cX6_read 50 = .ok (.imul, 1) := by decide +kernel
theorem dX6_read_51 : decode cX6_read 51 = .ok (.iload_n 2, 1) := by decide +kernel
theorem dX6_read_52 : decode cX6_read 52 = .ok (.iadd, 1) := by decide +kernel
theorem dX6_read_53 : decode cX6_read 53 = .ok (.iaload, 1) := by decide +kernel
theorem dX6_read_54 : decode cX6_read 54 = .ok (.istore 4, 2) := by decide +kernel
theorem dX6_read_56 : decode cX6_read 56 = .ok (.aload_n 0, 1) := by decide +kernel
theorem dX6_read_57 : decode cX6_read 57 = .ok (.getfield 13, 3) := by decide +kernel
theorem dX6_read_60 : decode cX6_read 60 = .ok (.bipush 9, 2) := by decide +kernel
theorem dX6_read_62 : decode cX6_read 62 = .ok (.iload_n 1, 1) := by decide +kernel
theorem dX6_read_63 : decode cX6_read 63 = .ok (.imul, 1) := by decide +kernel
theorem dX6_read_64 : decode cX6_read 64 = .ok (.iload_n 2, 1) := by decide +kernel
theorem dX6_read_65 : decode cX6_read 65 = .ok (.iadd, 1) := by decide +kernel
theorem dX6_read_66 : decode cX6_read 66 = .ok (.iload_n 3, 1) := by decide +kernel
theorem dX6_read_67 : decode cX6_read 67 = .ok (.iastore, 1) := by decide +kernel
theorem dX6_read_68 : decode cX6_read 68 = .ok (.iload 4, 2) := by decide +kernel
theorem dX6_read_70 : decode cX6_read 70 = .ok (.ireturn, 1) := by decide +kernel
theorem dX6_hold_0 : decode cX6_hold 0 = .ok (.aload_n 0, 1) := by decide +kernel
theorem dX6_hold_1 : decode cX6_hold 1 = .ok (.iload_n 1, 1) := by decide +kernel
theorem dX6_hold_2 : decode cX6_hold 2 = .ok (.invokevirtual 58, 3) := by decide +kernel
theorem dX6_hold_5 : decode cX6_hold 5 = .ok (.ifCond .ne 5, 3) := by decide +kernel
theorem dX6_hold_8 : decode cX6_hold 8 = .ok (.iconst (-1), 1) := by decide +kernel
theorem dX6_hold_9 : decode cX6_hold 9 = .ok (.ireturn, 1) := by decide +kernel
theorem dX6_hold_10 : decode cX6_hold 10 = .ok (.aload_n 0, 1) := by decide +kernel
theorem dX6_hold_11 : decode cX6_hold 11 = .ok (.getfield 16, 3) := by decide +kernel
theorem dX6_hold_14 : decode cX6_hold 14 = .ok (.iload_n 1, 1) := by decide +kernel
theorem dX6_hold_15 : decode cX6_hold 15 = .ok (.baload, 1) := by decide +kernel
theorem dX6_hold_16 : decode cX6_hold 16 = .ok (.ifCond .eq 7, 3) := by decide +kernel
theorem dX6_hold_19 : decode cX6_hold 19 = .ok (.iconst 1, 1) := by decide +kernel
theorem dX6_hold_20 : decode cX6_hold 20 = .ok (.goto 4, 3) := by decide +kernel
theorem dX6_hold_23 : decode cX6_hold 23 = .ok (.iconst 0, 1) := by decide +kernel
theorem dX6_hold_24 : decode cX6_hold 24 = .ok (.istore_n 3, 1) := by decide +kernel
theorem dX6_hold_25 : decode cX6_hold 25 = .ok (.aload_n 0, 1) := by decide +kernel
theorem dX6_hold_26 : decode cX6_hold 26 = .ok (.getfield 16, 3) := by decide +kernel
theorem dX6_hold_29 : decode cX6_hold 29 = .ok (.iload_n 1, 1) := by decide +kernel
theorem dX6_hold_30 : decode cX6_hold 30 = .ok (.iload_n 2, 1) := by decide +kernel
theorem dX6_hold_31 : decode cX6_hold 31 = .ok (.bastore, 1) := by decide +kernel
theorem dX6_hold_32 : decode cX6_hold 32 = .ok (.iload_n 3, 1) := by decide +kernel
theorem dX6_hold_33 : decode cX6_hold 33 = .ok (.ireturn, 1) := by decide +kernel
theorem dX6_meet_0 : decode cX6_meet 0 = .ok (.aload_n 0, 1) := by decide +kernel
theorem dX6_meet_1 : decode cX6_meet 1 = .ok (.getfield 7, 3) := by decide +kernel
theorem dX6_meet_4 : decode cX6_meet 4 = .ok (.bipush 6, 2) := by decide +kernel
theorem dX6_meet_6 : decode cX6_meet 6 = .ok (.iload_n 1, 1) := by decide +kernel
theorem dX6_meet_7 : decode cX6_meet 7 = .ok (.imul, 1) := by decide +kernel
theorem dX6_meet_8 : decode cX6_meet 8 = .ok (.iconst 2, 1) := by decide +kernel
theorem dX6_meet_9 : decode cX6_meet 9 = .ok (.iadd, 1) := by decide +kernel
theorem dX6_meet_10 : decode cX6_meet 10 = .ok (.iaload, 1) := by decide +kernel
theorem dX6_meet_11 : decode cX6_meet 11 = .ok (.aload_n 0, 1) := by decide +kernel
theorem dX6_meet_12 : decode cX6_meet 12 = .ok (.getfield 7, 3) := by decide +kernel
theorem dX6_meet_15 : decode cX6_meet 15 = .ok (.bipush 6, 2) := by decide +kernel
theorem dX6_meet_17 : decode cX6_meet 17 = .ok (.iload_n 1, 1) := by decide +kernel
theorem dX6_meet_18 : decode cX6_meet 18 = .ok (.imul, 1) := by decide +kernel
theorem dX6_meet_19 : decode cX6_meet 19 = .ok (.iaload, 1) := by decide +kernel
theorem dX6_meet_20 : decode cX6_meet 20 = .ok (.isub, 1) := by decide +kernel
theorem dX6_meet_21 : decode cX6_meet 21 = .ok (.i2l, 1) := by decide +kernel
theorem dX6_meet_22 : decode cX6_meet 22 = .ok (.lstore_n 3, 1) := by decide +kernel
theorem dX6_meet_23 : decode cX6_meet 23 = .ok (.aload_n 0, 1) := by decide +kernel
theorem dX6_meet_24 : decode cX6_meet 24 = .ok (.getfield 7, 3) := by decide +kernel
theorem dX6_meet_27 : decode cX6_meet 27 = .ok (.bipush 6, 2) := by decide +kernel
theorem dX6_meet_29 : decode cX6_meet 29 = .ok (.iload_n 1, 1) := by decide +kernel
theorem dX6_meet_30 : decode cX6_meet 30 = .ok (.imul, 1) := by decide +kernel
theorem dX6_meet_31 : decode cX6_meet 31 = .ok (.iconst 3, 1) := by decide +kernel
theorem dX6_meet_32 : decode cX6_meet 32 = .ok (.iadd, 1) := by decide +kernel
theorem dX6_meet_33 : decode cX6_meet 33 = .ok (.iaload, 1) := by decide +kernel
theorem dX6_meet_34 : decode cX6_meet 34 = .ok (.aload_n 0, 1) := by decide +kernel
theorem dX6_meet_35 : decode cX6_meet 35 = .ok (.getfield 7, 3) := by decide +kernel
theorem dX6_meet_38 : decode cX6_meet 38 = .ok (.bipush 6, 2) := by decide +kernel
theorem dX6_meet_40 : decode cX6_meet 40 = .ok (.iload_n 1, 1) := by decide +kernel
theorem dX6_meet_41 : decode cX6_meet 41 = .ok (.imul, 1) := by decide +kernel
theorem dX6_meet_42 : decode cX6_meet 42 = .ok (.iconst 1, 1) := by decide +kernel
theorem dX6_meet_43 : decode cX6_meet 43 = .ok (.iadd, 1) := by decide +kernel
theorem dX6_meet_44 : decode cX6_meet 44 = .ok (.iaload, 1) := by decide +kernel
theorem dX6_meet_45 : decode cX6_meet 45 = .ok (.isub, 1) := by decide +kernel
theorem dX6_meet_46 : decode cX6_meet 46 = .ok (.i2l, 1) := by decide +kernel
theorem dX6_meet_47 : decode cX6_meet 47 = .ok (.lstore 5, 2) := by decide +kernel
theorem dX6_meet_49 : decode cX6_meet 49 = .ok (.aload_n 0, 1) := by decide +kernel
theorem dX6_meet_50 : decode cX6_meet 50 = .ok (.getfield 7, 3) := by decide +kernel
theorem dX6_meet_53 : decode cX6_meet 53 = .ok (.bipush 6, 2) := by decide +kernel
theorem dX6_meet_55 : decode cX6_meet 55 = .ok (.iload_n 2, 1) := by decide +kernel
theorem dX6_meet_56 : decode cX6_meet 56 = .ok (.imul, 1) := by decide +kernel
theorem dX6_meet_57 : decode cX6_meet 57 = .ok (.iconst 2, 1) := by decide +kernel
theorem dX6_meet_58 : decode cX6_meet 58 = .ok (.iadd, 1) := by decide +kernel
theorem dX6_meet_59 : decode cX6_meet 59 = .ok (.iaload, 1) := by decide +kernel
theorem dX6_meet_60 : decode cX6_meet 60 = .ok (.aload_n 0, 1) := by decide +kernel
theorem dX6_meet_61 : decode cX6_meet 61 = .ok (.getfield 7, 3) := by decide +kernel
theorem dX6_meet_64 : decode cX6_meet 64 = .ok (.bipush 6, 2) := by decide +kernel
theorem dX6_meet_66 : decode cX6_meet 66 = .ok (.iload_n 2, 1) := by decide +kernel
theorem dX6_meet_67 : decode cX6_meet 67 = .ok (.imul, 1) := by decide +kernel
theorem dX6_meet_68 : decode cX6_meet 68 = .ok (.iaload, 1) := by decide +kernel
theorem dX6_meet_69 : decode cX6_meet 69 = .ok (.isub, 1) := by decide +kernel
theorem dX6_meet_70 : decode cX6_meet 70 = .ok (.i2l, 1) := by decide +kernel
theorem dX6_meet_71 : decode cX6_meet 71 = .ok (.lstore 7, 2) := by decide +kernel
theorem dX6_meet_73 : decode cX6_meet 73 = .ok (.aload_n 0, 1) := by decide +kernel
theorem dX6_meet_74 : decode cX6_meet 74 = .ok (.getfield 7, 3) := by decide +kernel
theorem dX6_meet_77 : decode cX6_meet 77 = .ok (.bipush 6, 2) := by decide +kernel
theorem dX6_meet_79 : decode cX6_meet 79 = .ok (.iload_n 2, 1) := by decide +kernel
theorem dX6_meet_80 : decode cX6_meet 80 = .ok (.imul, 1) := by decide +kernel
theorem dX6_meet_81 : decode cX6_meet 81 = .ok (.iconst 3, 1) := by decide +kernel
theorem dX6_meet_82 : decode cX6_meet 82 = .ok (.iadd, 1) := by decide +kernel
theorem dX6_meet_83 : decode cX6_meet 83 = .ok (.iaload, 1) := by decide +kernel
theorem dX6_meet_84 : decode cX6_meet 84 = .ok (.aload_n 0, 1) := by decide +kernel
theorem dX6_meet_85 : decode cX6_meet 85 = .ok (.getfield 7, 3) := by decide +kernel
theorem dX6_meet_88 : decode cX6_meet 88 = .ok (.bipush 6, 2) := by decide +kernel
theorem dX6_meet_90 : decode cX6_meet 90 = .ok (.iload_n 2, 1) := by decide +kernel
theorem dX6_meet_91 : decode cX6_meet 91 = .ok (.imul, 1) := by decide +kernel
theorem dX6_meet_92 : decode cX6_meet 92 = .ok (.iconst 1, 1) := by decide +kernel
theorem dX6_meet_93 : decode cX6_meet 93 = .ok (.iadd, 1) := by decide +kernel
theorem dX6_meet_94 : decode cX6_meet 94 = .ok (.iaload, 1) := by decide +kernel
theorem dX6_meet_95 : decode cX6_meet 95 = .ok (.isub, 1) := by decide +kernel
theorem dX6_meet_96 : decode cX6_meet 96 = .ok (.i2l, 1) := by decide +kernel
theorem dX6_meet_97 : decode cX6_meet 97 = .ok (.lstore 9, 2) := by decide +kernel
theorem dX6_meet_99 : decode cX6_meet 99 = .ok (.aload_n 0, 1) := by decide +kernel
theorem dX6_meet_100 : decode cX6_meet 100 = .ok (.getfield 7, 3) := by decide +kernel
theorem dX6_meet_103 : decode cX6_meet 103 = .ok (.bipush 6, 2) := by decide +kernel
theorem dX6_meet_105 : decode cX6_meet 105 = .ok (.iload_n 2, 1) := by decide +kernel
theorem dX6_meet_106 : decode cX6_meet 106 = .ok (.imul, 1) := by decide +kernel
theorem dX6_meet_107 : decode cX6_meet 107 = .ok (.iaload, 1) := by decide +kernel
theorem dX6_meet_108 : decode cX6_meet 108 = .ok (.aload_n 0, 1) := by decide +kernel
theorem dX6_meet_109 : decode cX6_meet 109 = .ok (.getfield 7, 3) := by decide +kernel
theorem dX6_meet_112 : decode cX6_meet 112 = .ok (.bipush 6, 2) := by decide +kernel
theorem dX6_meet_114 : decode cX6_meet 114 = .ok (.iload_n 1, 1) := by decide +kernel
theorem dX6_meet_115 : decode cX6_meet 115 = .ok (.imul, 1) := by decide +kernel
theorem dX6_meet_116 : decode cX6_meet 116 = .ok (.iaload, 1) := by decide +kernel
theorem dX6_meet_117 : decode cX6_meet 117 = .ok (.isub, 1) := by decide +kernel
theorem dX6_meet_118 : decode cX6_meet 118 = .ok (.i2l, 1) := by decide +kernel
theorem dX6_meet_119 : decode cX6_meet 119 = .ok (.lstore 11, 2) := by decide +kernel
theorem dX6_meet_121 : decode cX6_meet 121 = .ok (.aload_n 0, 1) := by decide +kernel
theorem dX6_meet_122 : decode cX6_meet 122 = .ok (.getfield 7, 3) := by decide +kernel
theorem dX6_meet_125 : decode cX6_meet 125 = .ok (.bipush 6, 2) := by decide +kernel
theorem dX6_meet_127 : decode cX6_meet 127 = .ok (.iload_n 2, 1) := by decide +kernel
theorem dX6_meet_128 : decode cX6_meet 128 = .ok (.imul, 1) := by decide +kernel
theorem dX6_meet_129 : decode cX6_meet 129 = .ok (.iconst 1, 1) := by decide +kernel
theorem dX6_meet_130 : decode cX6_meet 130 = .ok (.iadd, 1) := by decide +kernel
theorem dX6_meet_131 : decode cX6_meet 131 = .ok (.iaload, 1) := by decide +kernel
theorem dX6_meet_132 : decode cX6_meet 132 = .ok (.aload_n 0, 1) := by decide +kernel
theorem dX6_meet_133 : decode cX6_meet 133 = .ok (.getfield 7, 3) := by decide +kernel
theorem dX6_meet_136 : decode cX6_meet 136 = .ok (.bipush 6, 2) := by decide +kernel
theorem dX6_meet_138 : decode cX6_meet 138 = .ok (.iload_n 1, 1) := by decide +kernel
theorem dX6_meet_139 : decode cX6_meet 139 = .ok (.imul, 1) := by decide +kernel
theorem dX6_meet_140 : decode cX6_meet 140 = .ok (.iconst 1, 1) := by decide +kernel
theorem dX6_meet_141 : decode cX6_meet 141 = .ok (.iadd, 1) := by decide +kernel
theorem dX6_meet_142 : decode cX6_meet 142 = .ok (.iaload, 1) := by decide +kernel
theorem dX6_meet_143 : decode cX6_meet 143 = .ok (.isub, 1) := by decide +kernel
theorem dX6_meet_144 : decode cX6_meet 144 = .ok (.i2l, 1) := by decide +kernel
theorem dX6_meet_145 : decode cX6_meet 145 = .ok (.lstore 13, 2) := by decide +kernel
theorem dX6_meet_147 : decode cX6_meet 147 = .ok (.aload_n 0, 1) := by decide +kernel
theorem dX6_meet_148 : decode cX6_meet 148 = .ok (.lload_n 3, 1) := by decide +kernel
theorem dX6_meet_149 : decode cX6_meet 149 = .ok (.lload 9, 2) := by decide +kernel
theorem dX6_meet_151 : decode cX6_meet 151 = .ok (.lmul, 1) := by decide +kernel
theorem dX6_meet_152 : decode cX6_meet 152 = .ok (.lload 5, 2) := by decide +kernel
theorem dX6_meet_154 : decode cX6_meet 154 = .ok (.lload 7, 2) := by decide +kernel
theorem dX6_meet_156 : decode cX6_meet 156 = .ok (.lmul, 1) := by decide +kernel
theorem dX6_meet_157 : decode cX6_meet 157 = .ok (.lsub, 1) := by decide +kernel
theorem dX6_meet_158 : decode cX6_meet 158 = .ok (.putfield 69, 3) := by decide +kernel
theorem dX6_meet_161 : decode cX6_meet 161 = .ok (.aload_n 0, 1) := by decide +kernel
theorem dX6_meet_162 : decode cX6_meet 162 = .ok (.lload 11, 2) := by decide +kernel
theorem dX6_meet_164 : decode cX6_meet 164 = .ok (.lload 9, 2) := by decide +kernel
theorem dX6_meet_166 : decode cX6_meet 166 = .ok (.lmul, 1) := by decide +kernel
theorem dX6_meet_167 : decode cX6_meet 167 = .ok (.lload 13, 2) := by decide +kernel
theorem dX6_meet_169 : decode cX6_meet 169 = .ok (.lload 7, 2) := by decide +kernel
theorem dX6_meet_171 : decode cX6_meet 171 = .ok (.lmul, 1) := by decide +kernel
theorem dX6_meet_172 : decode cX6_meet 172 = .ok (.lsub, 1) := by decide +kernel
theorem dX6_meet_173 : decode cX6_meet 173 = .ok (.putfield 73, 3) := by decide +kernel
theorem dX6_meet_176 : decode cX6_meet 176 = .ok (.aload_n 0, 1) := by decide +kernel
theorem dX6_meet_177 : decode cX6_meet 177 = .ok (.lload 11, 2) := by decide +kernel
theorem dX6_meet_179 : decode cX6_meet 179 = .ok (.lload 5, 2) := by decide +kernel
theorem dX6_meet_181 : decode cX6_meet 181 = .ok (.lmul, 1) := by decide +kernel
theorem dX6_meet_182 : decode cX6_meet 182 = .ok (.lload 13, 2) := by decide +kernel
theorem dX6_meet_184 : decode cX6_meet 184 = .ok (.lload_n 3, 1) := by decide +kernel
theorem dX6_meet_185 : decode cX6_meet 185 = .ok (.lmul, 1) := by decide +kernel
theorem dX6_meet_186 : decode cX6_meet 186 = .ok (.lsub, 1) := by decide +kernel
theorem dX6_meet_187 : decode cX6_meet 187 = .ok (.putfield 76, 3) := by decide +kernel
theorem dX6_meet_190 : decode cX6_meet 190 = .ok (.aload_n 0, 1) := by decide +kernel
theorem dX6_meet_191 : decode cX6_meet 191 = .ok (.getfield 69, 3) := by decide +kernel
theorem dX6_meet_194 : decode cX6_meet 194 = .ok (.lconst 0, 1) := by decide +kernel
theorem dX6_meet_195 : decode cX6_meet 195 = .ok (.lcmp, 1) := by decide +kernel
theorem dX6_meet_196 : decode cX6_meet 196 = .ok (.ifCond .ge 30, 3) := by decide +kernel
theorem dX6_meet_199 : decode cX6_meet 199 = .ok (.aload_n 0, 1) := by decide +kernel
theorem dX6_meet_200 : decode cX6_meet 200 = .ok (.aload_n 0, 1) := by decide +kernel
theorem dX6_meet_201 : decode cX6_meet 201 = .ok (.getfield 69, 3) := by decide +kernel
theorem dX6_meet_204 : decode cX6_meet 204 = .ok (.lneg, 1) := by decide +kernel
theorem dX6_meet_205 : decode cX6_meet 205 = .ok (.putfield 69, 3) := by decide +kernel
theorem dX6_meet_208 : decode cX6_meet 208 = .ok (.aload_n 0, 1) := by decide +kernel
theorem dX6_meet_209 : decode cX6_meet 209 = .ok (.aload_n 0, 1) := by decide +kernel
theorem dX6_meet_210 : decode cX6_meet 210 = .ok (.getfield 73, 3) := by decide +kernel
theorem dX6_meet_213 : decode cX6_meet 213 = .ok (.lneg, 1) := by decide +kernel
theorem dX6_meet_214 : decode cX6_meet 214 = .ok (.putfield 73, 3) := by decide +kernel
theorem dX6_meet_217 : decode cX6_meet 217 = .ok (.aload_n 0, 1) := by decide +kernel
theorem dX6_meet_218 : decode cX6_meet 218 = .ok (.aload_n 0, 1) := by decide +kernel
theorem dX6_meet_219 : decode cX6_meet 219 = .ok (.getfield 76, 3) := by decide +kernel
theorem dX6_meet_222 : decode cX6_meet 222 = .ok (.lneg, 1) := by decide +kernel
theorem dX6_meet_223 : decode cX6_meet 223 = .ok (.putfield 76, 3) := by decide +kernel
theorem dX6_meet_226 : decode cX6_meet 226 = .ok (.aload_n 0, 1) := by decide +kernel
theorem dX6_meet_227 : decode cX6_meet 227 = .ok (.getfield 69, 3) := by decide +kernel
theorem dX6_meet_230 : decode cX6_meet 230 = .ok (.lconst 0, 1) := by decide +kernel
theorem dX6_meet_231 : decode cX6_meet 231 = .ok (.lcmp, 1) := by decide +kernel
theorem dX6_meet_232 : decode cX6_meet 232 = .ok (.ifCond .le 37, 3) := by decide +kernel
theorem dX6_meet_235 : decode cX6_meet 235 = .ok (.aload_n 0, 1) := by decide +kernel
theorem dX6_meet_236 : decode cX6_meet 236 = .ok (.getfield 73, 3) := by decide +kernel
theorem dX6_meet_239 : decode cX6_meet 239 = .ok (.lconst 0, 1) := by decide +kernel
theorem dX6_meet_240 : decode cX6_meet 240 = .ok (.aload_n 0, 1) := by decide +kernel
theorem dX6_meet_241 : decode cX6_meet 241 = .ok (.getfield 69, 3) := by decide +kernel
theorem dX6_meet_244 : decode cX6_meet 244 = .ok (.invokestatic 44, 3) := by decide +kernel
theorem dX6_meet_247 : decode cX6_meet 247 = .ok (.ifCond .eq 22, 3) := by decide +kernel
theorem dX6_meet_250 : decode cX6_meet 250 = .ok (.aload_n 0, 1) := by decide +kernel
theorem dX6_meet_251 : decode cX6_meet 251 = .ok (.getfield 76, 3) := by decide +kernel
theorem dX6_meet_254 : decode cX6_meet 254 = .ok (.lconst 0, 1) := by decide +kernel
theorem dX6_meet_255 : decode cX6_meet 255 = .ok (.aload_n 0, 1) := by decide +kernel
theorem dX6_meet_256 : decode cX6_meet 256 = .ok (.getfield 69, 3) := by decide +kernel
theorem dX6_meet_259 : decode cX6_meet 259 = .ok (.invokestatic 44, 3) := by decide +kernel
theorem dX6_meet_262 : decode cX6_meet 262 = .ok (.ifCond .eq 7, 3) := by decide +kernel
theorem dX6_meet_265 : decode cX6_meet 265 = .ok (.iconst 1, 1) := by decide +kernel
theorem dX6_meet_266 : decode cX6_meet 266 = .ok (.goto 4, 3) := by decide +kernel
theorem dX6_meet_269 : decode cX6_meet 269 = .ok (.iconst 0, 1) := by decide +kernel
theorem dX6_meet_270 : decode cX6_meet 270 = .ok (.ireturn, 1) := by decide +kernel
theorem dX6_between_0 : decode cX6_between 0 = .ok (.lload_n 1, 1) := by decide +kernel
theorem dX6_between_1 : decode cX6_between 1 = .ok (.aload_n 0, 1) := by decide +kernel
theorem dX6_between_2 : decode cX6_between 2 = .ok (.getfield 69, 3) := by decide +kernel
theorem dX6_between_5 : decode cX6_between 5 = .ok (.lmul, 1) := by decide +kernel
theorem dX6_between_6 : decode cX6_between 6 = .ok (.lload_n 3, 1) := by decide +kernel
theorem dX6_between_7 : decode cX6_between 7 = .ok (.lload_n 1, 1) := by decide +kernel
theorem dX6_between_8 : decode cX6_between 8 = .ok (.lsub, 1) := by decide +kernel
theorem dX6_between_9 : decode cX6_between 9 = .ok (.lload 5, 2) := by decide +kernel
theorem dX6_between_11 : decode cX6_between 11 = .ok (.lmul, 1) := by decide +kernel
theorem dX6_between_12 : decode cX6_between 12 = .ok (.ladd, 1) := by decide +kernel
theorem dX6_between_13 : decode cX6_between 13 = .ok (.lreturn, 1) := by decide +kernel
theorem dX6_hasHeight_0 : decode cX6_hasHeight 0 = .ok (.ldc2_w 62, 3) := by decide +kernel
theorem dX6_hasHeight_3 : decode cX6_hasHeight 3 = .ok (.lload_n 2, 1) := by decide +kernel
theorem dX6_hasHeight_4 : decode cX6_hasHeight 4 = .ok (.lmul, 1) := by decide +kernel
theorem dX6_hasHeight_5 : decode cX6_hasHeight 5 = .ok (.aload_n 0, 1) := by decide +kernel
theorem dX6_hasHeight_6 : decode cX6_hasHeight 6 = .ok (.getfield 69, 3) := by decide +kernel
theorem dX6_hasHeight_9 : decode cX6_hasHeight 9 = .ok (.ldiv, 1) := by decide +kernel
theorem dX6_hasHeight_10 : decode cX6_hasHeight 10 = .ok (.l2i, 1) := by decide +kernel
theorem dX6_hasHeight_11 : decode cX6_hasHeight 11 = .ok (.istore 4, 2) := by decide +kernel
theorem dX6_hasHeight_13 : decode cX6_hasHeight 13 = .ok (.ldc2_w 62, 3) := by decide +kernel
theorem dX6_hasHeight_16 : decode cX6_hasHeight 16 = .ok (.lload_n 2, 1) := by decide +kernel
theorem dX6_hasHeight_17 : decode cX6_hasHeight 17 = .ok (.lmul, 1) := by decide +kernel
theorem dX6_hasHeight_18 : decode cX6_hasHeight 18 = .ok (.aload_n 0, 1) := by decide +kernel
theorem dX6_hasHeight_19 : decode cX6_hasHeight 19 = .ok (.getfield 69, 3) := by decide +kernel
theorem dX6_hasHeight_22 : decode cX6_hasHeight 22 = .ok (.lrem, 1) := by decide +kernel
theorem dX6_hasHeight_23 : decode cX6_hasHeight 23 = .ok (.lstore 5, 2) := by decide +kernel
theorem dX6_hasHeight_25 : decode cX6_hasHeight 25 = .ok (.aload_n 0, 1) := by decide +kernel
theorem dX6_hasHeight_26 : decode cX6_hasHeight 26 = .ok (.getfield 13, 3) := by decide +kernel
theorem dX6_hasHeight_29 : decode cX6_hasHeight 29 = .ok (.bipush 9, 2) := by decide +kernel
theorem dX6_hasHeight_31 : decode cX6_hasHeight 31 = .ok (.iload_n 1, 1) := by decide +kernel
theorem dX6_hasHeight_32 : decode cX6_hasHeight 32 = .ok (.imul, 1) := by decide +kernel
theorem dX6_hasHeight_33 : decode cX6_hasHeight 33 = .ok (.iload 4, 2) := by decide +kernel
theorem dX6_hasHeight_35 : decode cX6_hasHeight 35 = .ok (.iadd, 1) := by decide +kernel
theorem dX6_hasHeight_36 : decode cX6_hasHeight 36 = .ok (.iaload, 1) := by decide +kernel
theorem dX6_hasHeight_37 : decode cX6_hasHeight 37 = .ok (.i2l, 1) := by decide +kernel
theorem dX6_hasHeight_38 : decode cX6_hasHeight 38 = .ok (.lstore 7, 2) := by decide +kernel
theorem dX6_hasHeight_40 : decode cX6_hasHeight 40 = .ok (.lload 5, 2) := by decide +kernel
theorem dX6_hasHeight_42 : decode cX6_hasHeight 42 = .ok (.lconst 0, 1) := by decide +kernel
theorem dX6_hasHeight_43 : decode cX6_hasHeight 43 = .ok (.lcmp, 1) := by decide +kernel
theorem dX6_hasHeight_44 : decode cX6_hasHeight 44 = .ok (.ifCond .ne 8, 3) := by decide +kernel
theorem dX6_hasHeight_47 : decode cX6_hasHeight 47 = .ok (.lload 7, 2) := by decide +kernel
theorem dX6_hasHeight_49 : decode cX6_hasHeight 49 = .ok (.goto 18, 3) := by decide +kernel
theorem dX6_hasHeight_52 : decode cX6_hasHeight 52 = .ok (.aload_n 0, 1) := by decide +kernel
theorem dX6_hasHeight_53 : decode cX6_hasHeight 53 = .ok (.getfield 13, 3) := by decide +kernel
theorem dX6_hasHeight_56 : decode cX6_hasHeight 56 = .ok (.bipush 9, 2) := by decide +kernel
theorem dX6_hasHeight_58 : decode cX6_hasHeight 58 = .ok (.iload_n 1, 1) := by decide +kernel
theorem dX6_hasHeight_59 : decode cX6_hasHeight 59 = .ok (.imul, 1) := by decide +kernel
theorem dX6_hasHeight_60 : decode cX6_hasHeight 60 = .ok (.iload 4, 2) := by decide +kernel
theorem dX6_hasHeight_62 : decode cX6_hasHeight 62 = .ok (.iadd, 1) := by decide +kernel
theorem dX6_hasHeight_63 : decode cX6_hasHeight 63 = .ok (.iconst 1, 1) := by decide +kernel
theorem dX6_hasHeight_64 : decode cX6_hasHeight 64 = .ok (.iadd, 1) := by decide +kernel
theorem dX6_hasHeight_65 : decode cX6_hasHeight 65 = .ok (.iaload, 1) := by decide +kernel
theorem dX6_hasHeight_66 : decode cX6_hasHeight 66 = .ok (.i2l, 1) := by decide +kernel
theorem dX6_hasHeight_67 : decode cX6_hasHeight 67 = .ok (.lstore 9, 2) := by decide +kernel
theorem dX6_hasHeight_69 : decode cX6_hasHeight 69 = .ok (.aload_n 0, 1) := by decide +kernel
theorem dX6_hasHeight_70 : decode cX6_hasHeight 70 = .ok (.lload 7, 2) := by decide +kernel
theorem dX6_hasHeight_72 : decode cX6_hasHeight 72 = .ok (.aload_n 0, 1) := by decide +kernel
theorem dX6_hasHeight_73 : decode cX6_hasHeight 73 = .ok (.getfield 69, 3) := by decide +kernel
theorem dX6_hasHeight_76 : decode cX6_hasHeight 76 = .ok (.lload 5, 2) := by decide +kernel
theorem dX6_hasHeight_78 : decode cX6_hasHeight 78 = .ok (.lsub, 1) := by decide +kernel
theorem dX6_hasHeight_79 : decode cX6_hasHeight 79 = .ok (.lmul, 1) := by decide +kernel
theorem dX6_hasHeight_80 : decode cX6_hasHeight 80 = .ok (.lload 9, 2) := by decide +kernel
theorem dX6_hasHeight_82 : decode cX6_hasHeight 82 = .ok (.lload 5, 2) := by decide +kernel
theorem dX6_hasHeight_84 : decode cX6_hasHeight 84 = .ok (.lmul, 1) := by decide +kernel
theorem dX6_hasHeight_85 : decode cX6_hasHeight 85 = .ok (.ladd, 1) := by decide +kernel
theorem dX6_hasHeight_86 : decode cX6_hasHeight 86 = .ok (.putfield 79, 3) := by decide +kernel
theorem dX6_hasHeight_89 : decode cX6_hasHeight 89 = .ok (.lload 7, 2) := by decide +kernel
theorem dX6_hasHeight_91 : decode cX6_hasHeight 91 = .ok (.ldc2_w 82, 3) := by decide +kernel
theorem dX6_hasHeight_94 : decode cX6_hasHeight 94 = .ok (.lcmp, 1) := by decide +kernel
theorem dX6_hasHeight_95 : decode cX6_hasHeight 95 = .ok (.ifCond .eq 16, 3) := by decide +kernel
theorem dX6_hasHeight_98 : decode cX6_hasHeight 98 = .ok (.lload 9, 2) := by decide +kernel
theorem dX6_hasHeight_100 : decode cX6_hasHeight 100 = .ok (.ldc2_w 82, 3) := by decide +kernel
theorem dX6_hasHeight_103 : decode cX6_hasHeight 103 = .ok (.lcmp, 1) := by decide +kernel
theorem dX6_hasHeight_104 : decode cX6_hasHeight 104 = .ok (.ifCond .eq 7, 3) := by decide +kernel
theorem dX6_hasHeight_107 : decode cX6_hasHeight 107 = .ok (.iconst 1, 1) := by decide +kernel
theorem dX6_hasHeight_108 : decode cX6_hasHeight 108 = .ok (.goto 4, 3) := by decide +kernel
theorem dX6_hasHeight_111 : decode cX6_hasHeight 111 = .ok (.iconst 0, 1) := by decide +kernel
theorem dX6_hasHeight_112 : decode cX6_hasHeight 112 = .ok (.ireturn, 1) := by decide +kernel
theorem dX6_common_0 : decode cX6_common 0 = .ok (.lload_n 0, 1) := by decide +kernel
theorem dX6_common_1 : decode cX6_common 1 = .ok (.lconst 0, 1) := by decide +kernel
theorem dX6_common_2 : decode cX6_common 2 = .ok (.lcmp, 1) := by decide +kernel
theorem dX6_common_3 : decode cX6_common 3 = .ok (.ifCond .ge 8, 3) := by decide +kernel
theorem dX6_common_6 : decode cX6_common 6 = .ok (.lload_n 0, 1) := by decide +kernel
theorem dX6_common_7 : decode cX6_common 7 = .ok (.lneg, 1) := by decide +kernel
theorem dX6_common_8 : decode cX6_common 8 = .ok (.goto 4, 3) := by decide +kernel
theorem dX6_common_11 : decode cX6_common 11 = .ok (.lload_n 0, 1) := by decide +kernel
theorem dX6_common_12 : decode cX6_common 12 = .ok (.lstore 4, 2) := by decide +kernel
theorem dX6_common_14 : decode cX6_common 14 = .ok (.lload_n 2, 1) := by decide +kernel
theorem dX6_common_15 : decode cX6_common 15 = .ok (.lstore 6, 2) := by decide +kernel
theorem dX6_common_17 : decode cX6_common 17 = .ok (.lload 6, 2) := by decide +kernel
theorem dX6_common_19 : decode cX6_common 19 = .ok (.lconst 0, 1) := by decide +kernel
theorem dX6_common_20 : decode cX6_common 20 = .ok (.lcmp, 1) := by decide +kernel
theorem dX6_common_21 : decode cX6_common 21 = .ok (.ifCond .eq 21, 3) := by decide +kernel
theorem dX6_common_24 : decode cX6_common 24 = .ok (.lload 4, 2) := by decide +kernel
theorem dX6_common_26 : decode cX6_common 26 = .ok (.lload 6, 2) := by decide +kernel
theorem dX6_common_28 : decode cX6_common 28 = .ok (.lrem, 1) := by decide +kernel
theorem dX6_common_29 : decode cX6_common 29 = .ok (.lstore 8, 2) := by decide +kernel
theorem dX6_common_31 : decode cX6_common 31 = .ok (.lload 6, 2) := by decide +kernel
theorem dX6_common_33 : decode cX6_common 33 = .ok (.lstore 4, 2) := by decide +kernel
theorem dX6_common_35 : decode cX6_common 35 = .ok (.lload 8, 2) := by decide +kernel
theorem dX6_common_37 : decode cX6_common 37 = .ok (.lstore 6, 2) := by decide +kernel
theorem dX6_common_39 : decode cX6_common 39 = .ok (.goto (-22), 3) := by decide +kernel
theorem dX6_common_42 : decode cX6_common 42 = .ok (.lload 4, 2) := by decide +kernel
theorem dX6_common_44 : decode cX6_common 44 = .ok (.lreturn, 1) := by decide +kernel
theorem dX6_part_0 : decode cX6_part 0 = .ok (.iload 4, 2) := by decide +kernel
theorem dX6_part_2 : decode cX6_part 2 = .ok (.ifCond .ne 7, 3) := by decide +kernel
theorem dX6_part_5 : decode cX6_part 5 = .ok (.lload_n 0, 1) := by decide +kernel
theorem dX6_part_6 : decode cX6_part 6 = .ok (.goto 4, 3) := by decide +kernel
theorem dX6_part_9 : decode cX6_part 9 = .ok (.lload_n 2, 1) := by decide +kernel
theorem dX6_part_10 : decode cX6_part 10 = .ok (.lload_n 0, 1) := by decide +kernel
theorem dX6_part_11 : decode cX6_part 11 = .ok (.lload_n 2, 1) := by decide +kernel
theorem dX6_part_12 : decode cX6_part 12 = .ok (.invokestatic 84, 3) := by decide +kernel
theorem dX6_part_15 : decode cX6_part 15 = .ok (.ldiv, 1) := by decide +kernel
theorem dX6_part_16 : decode cX6_part 16 = .ok (.lreturn, 1) := by decide +kernel
theorem dX6_cross_0 : decode cX6_cross 0 = .ok (.aload_n 0, 1) := by decide +kernel
theorem dX6_cross_1 : decode cX6_cross 1 = .ok (.iload_n 1, 1) := by decide +kernel
theorem dX6_cross_2 : decode cX6_cross 2 = .ok (.invokevirtual 58, 3) := by decide +kernel
theorem dX6_cross_5 : decode cX6_cross 5 = .ok (.ifCond .eq 39, 3) := by decide +kernel
theorem dX6_cross_8 : decode cX6_cross 8 = .ok (.aload_n 0, 1) := by decide +kernel
theorem dX6_cross_9 : decode cX6_cross 9 = .ok (.iload_n 2, 1) := by decide +kernel
theorem dX6_cross_10 : decode cX6_cross 10 = .ok (.invokevirtual 58, 3) := by decide +kernel
theorem dX6_cross_13 : decode cX6_cross 13 = .ok (.ifCond .eq 31, 3) := by decide +kernel
theorem dX6_cross_16 : decode cX6_cross 16 = .ok (.iload_n 1, 1) := by decide +kernel
theorem dX6_cross_17 : decode cX6_cross 17 = .ok (.iload_n 2, 1) := by decide +kernel
theorem dX6_cross_18 : decode cX6_cross 18 = .ok (.if_icmp .eq 26, 3) := by decide +kernel
theorem dX6_cross_21 : decode cX6_cross 21 = .ok (.iload_n 3, 1) := by decide +kernel
theorem dX6_cross_22 : decode cX6_cross 22 = .ok (.i2l, 1) := by decide +kernel
theorem dX6_cross_23 : decode cX6_cross 23 = .ok (.lconst 0, 1) := by decide +kernel
theorem dX6_cross_24 : decode cX6_cross 24 = .ok (.ldc2_w 88, 3) := by decide +kernel
theorem dX6_cross_27 : decode cX6_cross 27 = .ok (.invokestatic 44, 3) := by decide +kernel
theorem dX6_cross_30 : decode cX6_cross 30 = .ok (.ifCond .eq 14, 3) := by decide +kernel
theorem dX6_cross_33 : decode cX6_cross 33 = .ok (.iload 4, 2) := by decide +kernel
theorem dX6_cross_35 : decode cX6_cross 35 = .ok (.i2l, 1) := by decide +kernel
theorem dX6_cross_36 : decode cX6_cross 36 = .ok (.lconst 0, 1) := by decide +kernel
theorem dX6_cross_37 : decode cX6_cross 37 = .ok (.lconst 1, 1) := by decide +kernel
theorem dX6_cross_38 : decode cX6_cross 38 = .ok (.invokestatic 44, 3) := by decide +kernel
theorem dX6_cross_41 : decode cX6_cross 41 = .ok (.ifCond .ne 7, 3) := by decide +kernel
theorem dX6_cross_44 : decode cX6_cross 44 = .ok (.ldc2_w 90, 3) := by decide +kernel
theorem dX6_cross_47 : decode cX6_cross 47 = .ok (.lreturn, 1) := by decide +kernel
theorem dX6_cross_48 : decode cX6_cross 48 = .ok (.aload_n 0, 1) := by decide +kernel
theorem dX6_cross_49 : decode cX6_cross 49 = .ok (.iload_n 1, 1) := by decide +kernel
theorem dX6_cross_50 : decode cX6_cross 50 = .ok (.iload_n 2, 1) := by decide +kernel
theorem dX6_cross_51 : decode cX6_cross 51 = .ok (.invokevirtual 92, 3) := by decide +kernel
theorem dX6_cross_54 : decode cX6_cross 54 = .ok (.ifCond .ne 7, 3) := by decide +kernel
theorem dX6_cross_57 : decode cX6_cross 57 = .ok (.ldc2_w 95, 3) := by decide +kernel
theorem dX6_cross_60 : decode cX6_cross 60 = .ok (.lreturn, 1) := by decide +kernel
theorem dX6_cross_61 : decode cX6_cross 61 = .ok (.iload_n 3, 1) := by decide +kernel
theorem dX6_cross_62 : decode cX6_cross 62 = .ok (.tableswitch 232 0 5 #[38, 78, 120, 162, 204, 218], 38) := by decide +kernel
theorem dX6_cross_100 : decode cX6_cross 100 = .ok (.aload_n 0, 1) := by decide +kernel
theorem dX6_cross_101 : decode cX6_cross 101 = .ok (.aload_n 0, 1) := by decide +kernel
theorem dX6_cross_102 : decode cX6_cross 102 = .ok (.getfield 7, 3) := by decide +kernel
theorem dX6_cross_105 : decode cX6_cross 105 = .ok (.bipush 6, 2) := by decide +kernel
theorem dX6_cross_107 : decode cX6_cross 107 = .ok (.iload_n 1, 1) := by decide +kernel
theorem dX6_cross_108 : decode cX6_cross 108 = .ok (.imul, 1) := by decide +kernel
theorem dX6_cross_109 : decode cX6_cross 109 = .ok (.iaload, 1) := by decide +kernel
theorem dX6_cross_110 : decode cX6_cross 110 = .ok (.i2l, 1) := by decide +kernel
theorem dX6_cross_111 : decode cX6_cross 111 = .ok (.aload_n 0, 1) := by decide +kernel
theorem dX6_cross_112 : decode cX6_cross 112 = .ok (.getfield 7, 3) := by decide +kernel
theorem dX6_cross_115 : decode cX6_cross 115 = .ok (.bipush 6, 2) := by decide +kernel
theorem dX6_cross_117 : decode cX6_cross 117 = .ok (.iload_n 1, 1) := by decide +kernel
theorem dX6_cross_118 : decode cX6_cross 118 = .ok (.imul, 1) := by decide +kernel
theorem dX6_cross_119 : decode cX6_cross 119 = .ok (.iconst 2, 1) := by decide +kernel
theorem dX6_cross_120 : decode cX6_cross 120 = .ok (.iadd, 1) := by decide +kernel
theorem dX6_cross_121 : decode cX6_cross 121 = .ok (.iaload, 1) := by decide +kernel
theorem dX6_cross_122 : decode cX6_cross 122 = .ok (.i2l, 1) := by decide +kernel
theorem dX6_cross_123 : decode cX6_cross 123 = .ok (.aload_n 0, 1) := by decide +kernel
theorem dX6_cross_124 : decode cX6_cross 124 = .ok (.getfield 73, 3) := by decide +kernel
theorem dX6_cross_127 : decode cX6_cross 127 = .ok (.invokevirtual 97, 3) := by decide +kernel
theorem dX6_cross_130 : decode cX6_cross 130 = .ok (.aload_n 0, 1) := by decide +kernel
theorem dX6_cross_131 : decode cX6_cross 131 = .ok (.getfield 69, 3) := by decide +kernel
theorem dX6_cross_134 : decode cX6_cross 134 = .ok (.iload 4, 2) := by decide +kernel
theorem dX6_cross_136 : decode cX6_cross 136 = .ok (.invokestatic 101, 3) := by decide +kernel
theorem dX6_cross_139 : decode cX6_cross 139 = .ok (.lreturn, 1) := by decide +kernel
theorem dX6_cross_140 : decode cX6_cross 140 = .ok (.aload_n 0, 1) := by decide +kernel
theorem dX6_cross_141 : decode cX6_cross 141 = .ok (.aload_n 0, 1) := by decide +kernel
theorem dX6_cross_142 : decode cX6_cross 142 = .ok (.getfield 7, 3) := by decide +kernel
theorem dX6_cross_145 : decode cX6_cross 145 = .ok (.bipush 6, 2) := by decide +kernel
theorem dX6_cross_147 : decode cX6_cross 147 = .ok (.iload_n 1, 1) := by decide +kernel
theorem dX6_cross_148 : decode cX6_cross 148 = .ok (.imul, 1) := by decide +kernel
theorem dX6_cross_149 : decode cX6_cross 149 = .ok (.iconst 1, 1) := by decide +kernel
theorem dX6_cross_150 : decode cX6_cross 150 = .ok (.iadd, 1) := by decide +kernel
theorem dX6_cross_151 : decode cX6_cross 151 = .ok (.iaload, 1) := by decide +kernel
theorem dX6_cross_152 : decode cX6_cross 152 = .ok (.i2l, 1) := by decide +kernel
theorem dX6_cross_153 : decode cX6_cross 153 = .ok (.aload_n 0, 1) := by decide +kernel
theorem dX6_cross_154 : decode cX6_cross 154 = .ok (.getfield 7, 3) := by decide +kernel
theorem dX6_cross_157 : decode cX6_cross 157 = .ok (.bipush 6, 2) := by decide +kernel
theorem dX6_cross_159 : decode cX6_cross 159 = .ok (.iload_n 1, 1) := by decide +kernel
theorem dX6_cross_160 : decode cX6_cross 160 = .ok (.imul, 1) := by decide +kernel
theorem dX6_cross_161 : decode cX6_cross 161 = .ok (.iconst 3, 1) := by decide +kernel
theorem dX6_cross_162 : decode cX6_cross 162 = .ok (.iadd, 1) := by decide +kernel
theorem dX6_cross_163 : decode cX6_cross 163 = .ok (.iaload, 1) := by decide +kernel
theorem dX6_cross_164 : decode cX6_cross 164 = .ok (.i2l, 1) := by decide +kernel
theorem dX6_cross_165 : decode cX6_cross 165 = .ok (.aload_n 0, 1) := by decide +kernel
theorem dX6_cross_166 : decode cX6_cross 166 = .ok (.getfield 73, 3) := by decide +kernel
theorem dX6_cross_169 : decode cX6_cross 169 = .ok (.invokevirtual 97, 3) := by decide +kernel
theorem dX6_cross_172 : decode cX6_cross 172 = .ok (.aload_n 0, 1) := by decide +kernel
theorem dX6_cross_173 : decode cX6_cross 173 = .ok (.getfield 69, 3) := by decide +kernel
theorem dX6_cross_176 : decode cX6_cross 176 = .ok (.iload 4, 2) := by decide +kernel
theorem dX6_cross_178 : decode cX6_cross 178 = .ok (.invokestatic 101, 3) := by decide +kernel
theorem dX6_cross_181 : decode cX6_cross 181 = .ok (.lreturn, 1) := by decide +kernel
theorem dX6_cross_182 : decode cX6_cross 182 = .ok (.aload_n 0, 1) := by decide +kernel
theorem dX6_cross_183 : decode cX6_cross 183 = .ok (.aload_n 0, 1) := by decide +kernel
theorem dX6_cross_184 : decode cX6_cross 184 = .ok (.getfield 7, 3) := by decide +kernel
theorem dX6_cross_187 : decode cX6_cross 187 = .ok (.bipush 6, 2) := by decide +kernel
theorem dX6_cross_189 : decode cX6_cross 189 = .ok (.iload_n 1, 1) := by decide +kernel
theorem dX6_cross_190 : decode cX6_cross 190 = .ok (.imul, 1) := by decide +kernel
theorem dX6_cross_191 : decode cX6_cross 191 = .ok (.iconst 4, 1) := by decide +kernel
theorem dX6_cross_192 : decode cX6_cross 192 = .ok (.iadd, 1) := by decide +kernel
theorem dX6_cross_193 : decode cX6_cross 193 = .ok (.iaload, 1) := by decide +kernel
theorem dX6_cross_194 : decode cX6_cross 194 = .ok (.i2l, 1) := by decide +kernel
theorem dX6_cross_195 : decode cX6_cross 195 = .ok (.aload_n 0, 1) := by decide +kernel
theorem dX6_cross_196 : decode cX6_cross 196 = .ok (.getfield 7, 3) := by decide +kernel
theorem dX6_cross_199 : decode cX6_cross 199 = .ok (.bipush 6, 2) := by decide +kernel
theorem dX6_cross_201 : decode cX6_cross 201 = .ok (.iload_n 1, 1) := by decide +kernel
theorem dX6_cross_202 : decode cX6_cross 202 = .ok (.imul, 1) := by decide +kernel
theorem dX6_cross_203 : decode cX6_cross 203 = .ok (.iconst 5, 1) := by decide +kernel
theorem dX6_cross_204 : decode cX6_cross 204 = .ok (.iadd, 1) := by decide +kernel
theorem dX6_cross_205 : decode cX6_cross 205 = .ok (.iaload, 1) := by decide +kernel
theorem dX6_cross_206 : decode cX6_cross 206 = .ok (.i2l, 1) := by decide +kernel
theorem dX6_cross_207 : decode cX6_cross 207 = .ok (.aload_n 0, 1) := by decide +kernel
theorem dX6_cross_208 : decode cX6_cross 208 = .ok (.getfield 73, 3) := by decide +kernel
theorem dX6_cross_211 : decode cX6_cross 211 = .ok (.invokevirtual 97, 3) := by decide +kernel
theorem dX6_cross_214 : decode cX6_cross 214 = .ok (.aload_n 0, 1) := by decide +kernel
theorem dX6_cross_215 : decode cX6_cross 215 = .ok (.getfield 69, 3) := by decide +kernel
theorem dX6_cross_218 : decode cX6_cross 218 = .ok (.iload 4, 2) := by decide +kernel
theorem dX6_cross_220 : decode cX6_cross 220 = .ok (.invokestatic 101, 3) := by decide +kernel
theorem dX6_cross_223 : decode cX6_cross 223 = .ok (.lreturn, 1) := by decide +kernel
theorem dX6_cross_224 : decode cX6_cross 224 = .ok (.aload_n 0, 1) := by decide +kernel
theorem dX6_cross_225 : decode cX6_cross 225 = .ok (.aload_n 0, 1) := by decide +kernel
theorem dX6_cross_226 : decode cX6_cross 226 = .ok (.getfield 7, 3) := by decide +kernel
theorem dX6_cross_229 : decode cX6_cross 229 = .ok (.bipush 6, 2) := by decide +kernel
theorem dX6_cross_231 : decode cX6_cross 231 = .ok (.iload_n 2, 1) := by decide +kernel
theorem dX6_cross_232 : decode cX6_cross 232 = .ok (.imul, 1) := by decide +kernel
theorem dX6_cross_233 : decode cX6_cross 233 = .ok (.iconst 4, 1) := by decide +kernel
theorem dX6_cross_234 : decode cX6_cross 234 = .ok (.iadd, 1) := by decide +kernel
theorem dX6_cross_235 : decode cX6_cross 235 = .ok (.iaload, 1) := by decide +kernel
theorem dX6_cross_236 : decode cX6_cross 236 = .ok (.i2l, 1) := by decide +kernel
theorem dX6_cross_237 : decode cX6_cross 237 = .ok (.aload_n 0, 1) := by decide +kernel
theorem dX6_cross_238 : decode cX6_cross 238 = .ok (.getfield 7, 3) := by decide +kernel
theorem dX6_cross_241 : decode cX6_cross 241 = .ok (.bipush 6, 2) := by decide +kernel
theorem dX6_cross_243 : decode cX6_cross 243 = .ok (.iload_n 2, 1) := by decide +kernel
theorem dX6_cross_244 : decode cX6_cross 244 = .ok (.imul, 1) := by decide +kernel
theorem dX6_cross_245 : decode cX6_cross 245 = .ok (.iconst 5, 1) := by decide +kernel
theorem dX6_cross_246 : decode cX6_cross 246 = .ok (.iadd, 1) := by decide +kernel
theorem dX6_cross_247 : decode cX6_cross 247 = .ok (.iaload, 1) := by decide +kernel
theorem dX6_cross_248 : decode cX6_cross 248 = .ok (.i2l, 1) := by decide +kernel
theorem dX6_cross_249 : decode cX6_cross 249 = .ok (.aload_n 0, 1) := by decide +kernel
theorem dX6_cross_250 : decode cX6_cross 250 = .ok (.getfield 76, 3) := by decide +kernel
theorem dX6_cross_253 : decode cX6_cross 253 = .ok (.invokevirtual 97, 3) := by decide +kernel
theorem dX6_cross_256 : decode cX6_cross 256 = .ok (.aload_n 0, 1) := by decide +kernel
theorem dX6_cross_257 : decode cX6_cross 257 = .ok (.getfield 69, 3) := by decide +kernel
theorem dX6_cross_260 : decode cX6_cross 260 = .ok (.iload 4, 2) := by decide +kernel
theorem dX6_cross_262 : decode cX6_cross 262 = .ok (.invokestatic 101, 3) := by decide +kernel
theorem dX6_cross_265 : decode cX6_cross 265 = .ok (.lreturn, 1) := by decide +kernel
theorem dX6_cross_266 : decode cX6_cross 266 = .ok (.aload_n 0, 1) := by decide +kernel
theorem dX6_cross_267 : decode cX6_cross 267 = .ok (.getfield 73, 3) := by decide +kernel
theorem dX6_cross_270 : decode cX6_cross 270 = .ok (.aload_n 0, 1) := by decide +kernel
theorem dX6_cross_271 : decode cX6_cross 271 = .ok (.getfield 69, 3) := by decide +kernel
theorem dX6_cross_274 : decode cX6_cross 274 = .ok (.iload 4, 2) := by decide +kernel
theorem dX6_cross_276 : decode cX6_cross 276 = .ok (.invokestatic 101, 3) := by decide +kernel
theorem dX6_cross_279 : decode cX6_cross 279 = .ok (.lreturn, 1) := by decide +kernel
theorem dX6_cross_280 : decode cX6_cross 280 = .ok (.aload_n 0, 1) := by decide +kernel
theorem dX6_cross_281 : decode cX6_cross 281 = .ok (.getfield 76, 3) := by decide +kernel
theorem dX6_cross_284 : decode cX6_cross 284 = .ok (.aload_n 0, 1) := by decide +kernel
theorem dX6_cross_285 : decode cX6_cross 285 = .ok (.getfield 69, 3) := by decide +kernel
theorem dX6_cross_288 : decode cX6_cross 288 = .ok (.iload 4, 2) := by decide +kernel
theorem dX6_cross_290 : decode cX6_cross 290 = .ok (.invokestatic 101, 3) := by decide +kernel
theorem dX6_cross_293 : decode cX6_cross 293 = .ok (.lreturn, 1) := by decide +kernel
theorem dX6_cross_294 : decode cX6_cross 294 = .ok (.aload_n 0, 1) := by decide +kernel
theorem dX6_cross_295 : decode cX6_cross 295 = .ok (.iload_n 3, 1) := by decide +kernel
theorem dX6_cross_296 : decode cX6_cross 296 = .ok (.bipush 6, 2) := by decide +kernel
theorem dX6_cross_298 : decode cX6_cross 298 = .ok (.if_icmp .ne 7, 3) := by decide +kernel
theorem dX6_cross_301 : decode cX6_cross 301 = .ok (.iload_n 1, 1) := by decide +kernel
theorem dX6_cross_302 : decode cX6_cross 302 = .ok (.goto 4, 3) := by decide +kernel
theorem dX6_cross_305 : decode cX6_cross 305 = .ok (.iload_n 2, 1) := by decide +kernel
theorem dX6_cross_306 : decode cX6_cross 306 = .ok (.iload_n 3, 1) := by decide +kernel
theorem dX6_cross_307 : decode cX6_cross 307 = .ok (.bipush 6, 2) := by decide +kernel
theorem dX6_cross_309 : decode cX6_cross 309 = .ok (.if_icmp .ne 10, 3) := by decide +kernel
theorem dX6_cross_312 : decode cX6_cross 312 = .ok (.aload_n 0, 1) := by decide +kernel
theorem dX6_cross_313 : decode cX6_cross 313 = .ok (.getfield 73, 3) := by decide +kernel
theorem dX6_cross_316 : decode cX6_cross 316 = .ok (.goto 7, 3) := by decide +kernel
theorem dX6_cross_319 : decode cX6_cross 319 = .ok (.aload_n 0, 1) := by decide +kernel
theorem dX6_cross_320 : decode cX6_cross 320 = .ok (.getfield 76, 3) := by decide +kernel
theorem dX6_cross_323 : decode cX6_cross 323 = .ok (.invokevirtual 105, 3) := by decide +kernel
theorem dX6_cross_326 : decode cX6_cross 326 = .ok (.ifCond .eq 19, 3) := by decide +kernel
theorem dX6_cross_329 : decode cX6_cross 329 = .ok (.aload_n 0, 1) := by decide +kernel
theorem dX6_cross_330 : decode cX6_cross 330 = .ok (.getfield 79, 3) := by decide +kernel
theorem dX6_cross_333 : decode cX6_cross 333 = .ok (.aload_n 0, 1) := by decide +kernel
theorem dX6_cross_334 : decode cX6_cross 334 = .ok (.getfield 69, 3) := by decide +kernel
theorem dX6_cross_337 : decode cX6_cross 337 = .ok (.iload 4, 2) := by decide +kernel
theorem dX6_cross_339 : decode cX6_cross 339 = .ok (.invokestatic 101, 3) := by decide +kernel
theorem dX6_cross_342 : decode cX6_cross 342 = .ok (.goto 6, 3) := by decide +kernel
theorem dX6_cross_345 : decode cX6_cross 345 = .ok (.ldc2_w 95, 3) := by decide +kernel
theorem dX6_cross_348 : decode cX6_cross 348 = .ok (.lreturn, 1) := by decide +kernel
theorem dX6_crosses_0 : decode cX6_crosses 0 = .ok (.aload_n 0, 1) := by decide +kernel
theorem dX6_crosses_1 : decode cX6_crosses 1 = .ok (.iload_n 1, 1) := by decide +kernel
theorem dX6_crosses_2 : decode cX6_crosses 2 = .ok (.invokevirtual 58, 3) := by decide +kernel
theorem dX6_crosses_5 : decode cX6_crosses 5 = .ok (.ifCond .eq 16, 3) := by decide +kernel
theorem dX6_crosses_8 : decode cX6_crosses 8 = .ok (.aload_n 0, 1) := by decide +kernel
theorem dX6_crosses_9 : decode cX6_crosses 9 = .ok (.iload_n 2, 1) := by decide +kernel
theorem dX6_crosses_10 : decode cX6_crosses 10 = .ok (.invokevirtual 58, 3) := by decide +kernel
theorem dX6_crosses_13 : decode cX6_crosses 13 = .ok (.ifCond .eq 8, 3) := by decide +kernel
theorem dX6_crosses_16 : decode cX6_crosses 16 = .ok (.iload_n 1, 1) := by decide +kernel
theorem dX6_crosses_17 : decode cX6_crosses 17 = .ok (.iload_n 2, 1) := by decide +kernel
theorem dX6_crosses_18 : decode cX6_crosses 18 = .ok (.if_icmp .ne 7, 3) := by decide +kernel
theorem dX6_crosses_21 : decode cX6_crosses 21 = .ok (.iconst (-1), 1) := by decide +kernel
theorem dX6_crosses_22 : decode cX6_crosses 22 = .ok (.goto 17, 3) := by decide +kernel
theorem dX6_crosses_25 : decode cX6_crosses 25 = .ok (.aload_n 0, 1) := by decide +kernel
theorem dX6_crosses_26 : decode cX6_crosses 26 = .ok (.iload_n 1, 1) := by decide +kernel
theorem dX6_crosses_27 : decode cX6_crosses 27 = .ok (.iload_n 2, 1) := by decide +kernel
theorem dX6_crosses_28 : decode cX6_crosses 28 = .ok (.invokevirtual 92, 3) := by decide +kernel
theorem dX6_crosses_31 : decode cX6_crosses 31 = .ok (.ifCond .eq 7, 3) := by decide +kernel
theorem dX6_crosses_34 : decode cX6_crosses 34 = .ok (.iconst 1, 1) := by decide +kernel
theorem dX6_crosses_35 : decode cX6_crosses 35 = .ok (.goto 4, 3) := by decide +kernel
theorem dX6_crosses_38 : decode cX6_crosses 38 = .ok (.iconst 0, 1) := by decide +kernel
theorem dX6_crosses_39 : decode cX6_crosses 39 = .ok (.ireturn, 1) := by decide +kernel
theorem dX6_down_0 : decode cX6_down 0 = .ok (.lload_n 0, 1) := by decide +kernel
theorem dX6_down_1 : decode cX6_down 1 = .ok (.lconst 0, 1) := by decide +kernel
theorem dX6_down_2 : decode cX6_down 2 = .ok (.lcmp, 1) := by decide +kernel
theorem dX6_down_3 : decode cX6_down 3 = .ok (.ifCond .lt 9, 3) := by decide +kernel
theorem dX6_down_6 : decode cX6_down 6 = .ok (.lload_n 0, 1) := by decide +kernel
theorem dX6_down_7 : decode cX6_down 7 = .ok (.lload_n 2, 1) := by decide +kernel
theorem dX6_down_8 : decode cX6_down 8 = .ok (.ldiv, 1) := by decide +kernel
theorem dX6_down_9 : decode cX6_down 9 = .ok (.goto 11, 3) := by decide +kernel
theorem dX6_down_12 : decode cX6_down 12 = .ok (.lload_n 2, 1) := by decide +kernel
theorem dX6_down_13 : decode cX6_down 13 = .ok (.lconst 1, 1) := by decide +kernel
theorem dX6_down_14 : decode cX6_down 14 = .ok (.lsub, 1) := by decide +kernel
theorem dX6_down_15 : decode cX6_down 15 = .ok (.lload_n 0, 1) := by decide +kernel
theorem dX6_down_16 : decode cX6_down 16 = .ok (.lsub, 1) := by decide +kernel
theorem dX6_down_17 : decode cX6_down 17 = .ok (.lload_n 2, 1) := by decide +kernel
theorem dX6_down_18 : decode cX6_down 18 = .ok (.ldiv, 1) := by decide +kernel
theorem dX6_down_19 : decode cX6_down 19 = .ok (.lneg, 1) := by decide +kernel
theorem dX6_down_20 : decode cX6_down 20 = .ok (.lreturn, 1) := by decide +kernel
theorem dX6_differ_0 : decode cX6_differ 0 = .ok (.aload_n 0, 1) := by decide +kernel
theorem dX6_differ_1 : decode cX6_differ 1 = .ok (.getfield 16, 3) := by decide +kernel
theorem dX6_differ_4 : decode cX6_differ 4 = .ok (.iload_n 1, 1) := by decide +kernel
theorem dX6_differ_5 : decode cX6_differ 5 = .ok (.baload, 1) := by decide +kernel
theorem dX6_differ_6 : decode cX6_differ 6 = .ok (.ifCond .ne 33, 3) := by decide +kernel
theorem dX6_differ_9 : decode cX6_differ 9 = .ok (.aload_n 0, 1) := by decide +kernel
theorem dX6_differ_10 : decode cX6_differ 10 = .ok (.getfield 16, 3) := by decide +kernel
theorem dX6_differ_13 : decode cX6_differ 13 = .ok (.iload_n 2, 1) := by decide +kernel
theorem dX6_differ_14 : decode cX6_differ 14 = .ok (.baload, 1) := by decide +kernel
theorem dX6_differ_15 : decode cX6_differ 15 = .ok (.ifCond .ne 24, 3) := by decide +kernel
theorem dX6_differ_18 : decode cX6_differ 18 = .ok (.aload_n 0, 1) := by decide +kernel
theorem dX6_differ_19 : decode cX6_differ 19 = .ok (.iload_n 1, 1) := by decide +kernel
theorem dX6_differ_20 : decode cX6_differ 20 = .ok (.iload_n 2, 1) := by decide +kernel
theorem dX6_differ_21 : decode cX6_differ 21 = .ok (.invokevirtual 92, 3) := by decide +kernel
theorem dX6_differ_24 : decode cX6_differ 24 = .ok (.ifCond .eq 15, 3) := by decide +kernel
theorem dX6_differ_27 : decode cX6_differ 27 = .ok (.aload_n 0, 1) := by decide +kernel
theorem dX6_differ_28 : decode cX6_differ 28 = .ok (.iload_n 1, 1) := by decide +kernel
theorem dX6_differ_29 : decode cX6_differ 29 = .ok (.aload_n 0, 1) := by decide +kernel
theorem dX6_differ_30 : decode cX6_differ 30 = .ok (.getfield 73, 3) := by decide +kernel
theorem dX6_differ_33 : decode cX6_differ 33 = .ok (.invokevirtual 105, 3) := by decide +kernel
theorem dX6_differ_36 : decode cX6_differ 36 = .ok (.ifCond .ne 5, 3) := by decide +kernel
theorem dX6_differ_39 : decode cX6_differ 39 = .ok (.iconst 0, 1) := by decide +kernel
theorem dX6_differ_40 : decode cX6_differ 40 = .ok (.ireturn, 1) := by decide +kernel
theorem dX6_differ_41 : decode cX6_differ 41 = .ok (.aload_n 0, 1) := by decide +kernel
theorem dX6_differ_42 : decode cX6_differ 42 = .ok (.getfield 79, 3) := by decide +kernel
theorem dX6_differ_45 : decode cX6_differ 45 = .ok (.lstore_n 3, 1) := by decide +kernel
theorem dX6_differ_46 : decode cX6_differ 46 = .ok (.aload_n 0, 1) := by decide +kernel
theorem dX6_differ_47 : decode cX6_differ 47 = .ok (.iload_n 2, 1) := by decide +kernel
theorem dX6_differ_48 : decode cX6_differ 48 = .ok (.aload_n 0, 1) := by decide +kernel
theorem dX6_differ_49 : decode cX6_differ 49 = .ok (.getfield 76, 3) := by decide +kernel
theorem dX6_differ_52 : decode cX6_differ 52 = .ok (.invokevirtual 105, 3) := by decide +kernel
theorem dX6_differ_55 : decode cX6_differ 55 = .ok (.istore 5, 2) := by decide +kernel
theorem dX6_differ_57 : decode cX6_differ 57 = .ok (.aload_n 0, 1) := by decide +kernel
theorem dX6_differ_58 : decode cX6_differ 58 = .ok (.ldc2_w 109, 3) := by decide +kernel
theorem dX6_differ_61 : decode cX6_differ 61 = .ok (.lload_n 3, 1) := by decide +kernel
theorem dX6_differ_62 : decode cX6_differ 62 = .ok (.aload_n 0, 1) := by decide +kernel
theorem dX6_differ_63 : decode cX6_differ 63 = .ok (.getfield 79, 3) := by decide +kernel
theorem dX6_differ_66 : decode cX6_differ 66 = .ok (.lsub, 1) := by decide +kernel
theorem dX6_differ_67 : decode cX6_differ 67 = .ok (.lmul, 1) := by decide +kernel
theorem dX6_differ_68 : decode cX6_differ 68 = .ok (.aload_n 0, 1) := by decide +kernel
theorem dX6_differ_69 : decode cX6_differ 69 = .ok (.getfield 69, 3) := by decide +kernel
theorem dX6_differ_72 : decode cX6_differ 72 = .ok (.invokestatic 111, 3) := by decide +kernel
theorem dX6_differ_75 : decode cX6_differ 75 = .ok (.putfield 114, 3) := by decide +kernel
theorem dX6_differ_78 : decode cX6_differ 78 = .ok (.iload 5, 2) := by decide +kernel
theorem dX6_differ_80 : decode cX6_differ 80 = .ok (.ireturn, 1) := by decide +kernel
theorem dX6_difference_0 : decode cX6_difference 0 = .ok (.aload_n 0, 1) := by decide +kernel
theorem dX6_difference_1 : decode cX6_difference 1 = .ok (.iload_n 1, 1) := by decide +kernel
theorem dX6_difference_2 : decode cX6_difference 2 = .ok (.invokevirtual 58, 3) := by decide +kernel
theorem dX6_difference_5 : decode cX6_difference 5 = .ok (.ifCond .eq 16, 3) := by decide +kernel
theorem dX6_difference_8 : decode cX6_difference 8 = .ok (.aload_n 0, 1) := by decide +kernel
theorem dX6_difference_9 : decode cX6_difference 9 = .ok (.iload_n 2, 1) := by decide +kernel
theorem dX6_difference_10 : decode cX6_difference 10 = .ok (.invokevirtual 58, 3) := by decide +kernel
theorem dX6_difference_13 : decode cX6_difference 13 = .ok (.ifCond .eq 8, 3) := by decide +kernel
theorem dX6_difference_16 : decode cX6_difference 16 = .ok (.iload_n 1, 1) := by decide +kernel
theorem dX6_difference_17 : decode cX6_difference 17 = .ok (.iload_n 2, 1) := by decide +kernel
theorem dX6_difference_18 : decode cX6_difference 18 = .ok (.if_icmp .lt 6, 3) := by decide +kernel
theorem dX6_difference_21 : decode cX6_difference 21 = .ok (.ldc 117, 2) := by decide +kernel
theorem dX6_difference_23 : decode cX6_difference 23 = .ok (.ireturn, 1) := by decide +kernel
theorem dX6_difference_24 : decode cX6_difference 24 = .ok (.aload_n 0, 1) := by decide +kernel
theorem dX6_difference_25 : decode cX6_difference 25 = .ok (.iload_n 1, 1) := by decide +kernel
theorem dX6_difference_26 : decode cX6_difference 26 = .ok (.iload_n 2, 1) := by decide +kernel
theorem dX6_difference_27 : decode cX6_difference 27 = .ok (.invokevirtual 118, 3) := by decide +kernel
theorem dX6_difference_30 : decode cX6_difference 30 = .ok (.ifCond .eq 11, 3) := by decide +kernel
theorem dX6_difference_33 : decode cX6_difference 33 = .ok (.aload_n 0, 1) := by decide +kernel
theorem dX6_difference_34 : decode cX6_difference 34 = .ok (.getfield 114, 3) := by decide +kernel
theorem dX6_difference_37 : decode cX6_difference 37 = .ok (.l2i, 1) := by decide +kernel
theorem dX6_difference_38 : decode cX6_difference 38 = .ok (.goto 5, 3) := by decide +kernel
theorem dX6_difference_41 : decode cX6_difference 41 = .ok (.ldc 121, 2) := by decide +kernel
theorem dX6_difference_43 : decode cX6_difference 43 = .ok (.ireturn, 1) := by decide +kernel
theorem dX6_nets_0 : decode cX6_nets 0 = .ok (.iconst 0, 1) := by decide +kernel
theorem dX6_nets_1 : decode cX6_nets 1 = .ok (.istore_n 1, 1) := by decide +kernel
theorem dX6_nets_2 : decode cX6_nets 2 = .ok (.iload_n 1, 1) := by decide +kernel
theorem dX6_nets_3 : decode cX6_nets 3 = .ok (.aload_n 0, 1) := by decide +kernel
theorem dX6_nets_4 : decode cX6_nets 4 = .ok (.getfield 40, 3) := by decide +kernel
theorem dX6_nets_7 : decode cX6_nets 7 = .ok (.if_icmp .ge 16, 3) := by decide +kernel
theorem dX6_nets_10 : decode cX6_nets 10 = .ok (.aload_n 0, 1) := by decide +kernel
theorem dX6_nets_11 : decode cX6_nets 11 = .ok (.getfield 23, 3) := by decide +kernel
theorem dX6_nets_14 : decode cX6_nets 14 = .ok (.iload_n 1, 1) := by decide +kernel
theorem dX6_nets_15 : decode cX6_nets 15 = .ok (.iload_n 1, 1) := by decide +kernel
theorem dX6_nets_16 : decode cX6_nets 16 = .ok (.iastore, 1) := by decide +kernel
theorem dX6_nets_17 : decode cX6_nets 17 = .ok (.iinc 1 1, 3) := by decide +kernel
theorem dX6_nets_20 : decode cX6_nets 20 = .ok (.goto (-18), 3) := by decide +kernel
theorem dX6_nets_23 : decode cX6_nets 23 = .ok (.iconst 0, 1) := by decide +kernel
theorem dX6_nets_24 : decode cX6_nets 24 = .ok (.istore_n 1, 1) := by decide +kernel
theorem dX6_nets_25 : decode cX6_nets 25 = .ok (.iload_n 1, 1) := by decide +kernel
theorem dX6_nets_26 : decode cX6_nets 26 = .ok (.aload_n 0, 1) := by decide +kernel
theorem dX6_nets_27 : decode cX6_nets 27 = .ok (.getfield 40, 3) := by decide +kernel
theorem dX6_nets_30 : decode cX6_nets 30 = .ok (.if_icmp .ge 100, 3) := by decide +kernel
theorem dX6_nets_33 : decode cX6_nets 33 = .ok (.iconst 0, 1) := by decide +kernel
theorem dX6_nets_34 : decode cX6_nets 34 = .ok (.istore_n 2, 1) := by decide +kernel
theorem dX6_nets_35 : decode cX6_nets 35 = .ok (.iload_n 2, 1) := by decide +kernel
theorem dX6_nets_36 : decode cX6_nets 36 = .ok (.aload_n 0, 1) := by decide +kernel
theorem dX6_nets_37 : decode cX6_nets 37 = .ok (.getfield 40, 3) := by decide +kernel
theorem dX6_nets_40 : decode cX6_nets 40 = .ok (.if_icmp .ge 84, 3) := by decide +kernel
theorem dX6_nets_43 : decode cX6_nets 43 = .ok (.iload_n 2, 1) := by decide +kernel
theorem dX6_nets_44 : decode cX6_nets 44 = .ok (.iconst 1, 1) := by decide +kernel
theorem dX6_nets_45 : decode cX6_nets 45 = .ok (.iadd, 1) := by decide +kernel
theorem dX6_nets_46 : decode cX6_nets 46 = .ok (.istore_n 3, 1) := by decide +kernel
theorem dX6_nets_47 : decode cX6_nets 47 = .ok (.iload_n 3, 1) := by decide +kernel
theorem dX6_nets_48 : decode cX6_nets 48 = .ok (.aload_n 0, 1) := by decide +kernel
theorem dX6_nets_49 : decode cX6_nets 49 = .ok (.getfield 40, 3) := by decide +kernel
theorem dX6_nets_52 : decode cX6_nets 52 = .ok (.if_icmp .ge 66, 3) := by decide +kernel
theorem dX6_nets_55 : decode cX6_nets 55 = .ok (.aload_n 0, 1) := by decide +kernel
theorem dX6_nets_56 : decode cX6_nets 56 = .ok (.iload_n 2, 1) := by decide +kernel
theorem dX6_nets_57 : decode cX6_nets 57 = .ok (.iload_n 3, 1) := by decide +kernel
theorem dX6_nets_58 : decode cX6_nets 58 = .ok (.invokevirtual 118, 3) := by decide +kernel
theorem dX6_nets_61 : decode cX6_nets 61 = .ok (.ifCond .eq 51, 3) := by decide +kernel
theorem dX6_nets_64 : decode cX6_nets 64 = .ok (.aload_n 0, 1) := by decide +kernel
theorem dX6_nets_65 : decode cX6_nets 65 = .ok (.getfield 23, 3) := by decide +kernel
theorem dX6_nets_68 : decode cX6_nets 68 = .ok (.iload_n 2, 1) := by decide +kernel
theorem dX6_nets_69 : decode cX6_nets 69 = .ok (.iaload, 1) := by decide +kernel
theorem dX6_nets_70 : decode cX6_nets 70 = .ok (.aload_n 0, 1) := by decide +kernel
theorem dX6_nets_71 : decode cX6_nets 71 = .ok (.getfield 23, 3) := by decide +kernel
theorem dX6_nets_74 : decode cX6_nets 74 = .ok (.iload_n 3, 1) := by decide +kernel
theorem dX6_nets_75 : decode cX6_nets 75 = .ok (.iaload, 1) := by decide +kernel
theorem dX6_nets_76 : decode cX6_nets 76 = .ok (.if_icmp .ge 12, 3) := by decide +kernel
theorem dX6_nets_79 : decode cX6_nets 79 = .ok (.aload_n 0, 1) := by decide +kernel
theorem dX6_nets_80 : decode cX6_nets 80 = .ok (.getfield 23, 3) := by decide +kernel
theorem dX6_nets_83 : decode cX6_nets 83 = .ok (.iload_n 2, 1) := by decide +kernel
theorem dX6_nets_84 : decode cX6_nets 84 = .ok (.iaload, 1) := by decide +kernel
theorem dX6_nets_85 : decode cX6_nets 85 = .ok (.goto 9, 3) := by decide +kernel
theorem dX6_nets_88 : decode cX6_nets 88 = .ok (.aload_n 0, 1) := by decide +kernel
theorem dX6_nets_89 : decode cX6_nets 89 = .ok (.getfield 23, 3) := by decide +kernel
theorem dX6_nets_92 : decode cX6_nets 92 = .ok (.iload_n 3, 1) := by decide +kernel
theorem dX6_nets_93 : decode cX6_nets 93 = .ok (.iaload, 1) := by decide +kernel
theorem dX6_nets_94 : decode cX6_nets 94 = .ok (.istore 4, 2) := by decide +kernel
theorem dX6_nets_96 : decode cX6_nets 96 = .ok (.aload_n 0, 1) := by decide +kernel
theorem dX6_nets_97 : decode cX6_nets 97 = .ok (.getfield 23, 3) := by decide +kernel
theorem dX6_nets_100 : decode cX6_nets 100 = .ok (.iload_n 2, 1) := by decide +kernel
theorem dX6_nets_101 : decode cX6_nets 101 = .ok (.iload 4, 2) := by decide +kernel
theorem dX6_nets_103 : decode cX6_nets 103 = .ok (.iastore, 1) := by decide +kernel
theorem dX6_nets_104 : decode cX6_nets 104 = .ok (.aload_n 0, 1) := by decide +kernel
theorem dX6_nets_105 : decode cX6_nets 105 = .ok (.getfield 23, 3) := by decide +kernel
theorem dX6_nets_108 : decode cX6_nets 108 = .ok (.iload_n 3, 1) := by decide +kernel
theorem dX6_nets_109 : decode cX6_nets 109 = .ok (.iload 4, 2) := by decide +kernel
theorem dX6_nets_111 : decode cX6_nets 111 = .ok (.iastore, 1) := by decide +kernel
theorem dX6_nets_112 : decode cX6_nets 112 = .ok (.iinc 3 1, 3) := by decide +kernel
theorem dX6_nets_115 : decode cX6_nets 115 = .ok (.goto (-68), 3) := by decide +kernel
theorem dX6_nets_118 : decode cX6_nets 118 = .ok (.iinc 2 1, 3) := by decide +kernel
theorem dX6_nets_121 : decode cX6_nets 121 = .ok (.goto (-86), 3) := by decide +kernel
theorem dX6_nets_124 : decode cX6_nets 124 = .ok (.iinc 1 1, 3) := by decide +kernel
theorem dX6_nets_127 : decode cX6_nets 127 = .ok (.goto (-102), 3) := by decide +kernel
theorem dX6_nets_130 : decode cX6_nets 130 = .ok (.return_, 1) := by decide +kernel
theorem dX6_members_0 : decode cX6_members 0 = .ok (.iconst 0, 1) := by decide +kernel
theorem dX6_members_1 : decode cX6_members 1 = .ok (.istore_n 2, 1) := by decide +kernel
theorem dX6_members_2 : decode cX6_members 2 = .ok (.iconst 0, 1) := by decide +kernel
theorem dX6_members_3 : decode cX6_members 3 = .ok (.istore_n 3, 1) := by decide +kernel
theorem dX6_members_4 : decode cX6_members 4 = .ok (.iload_n 3, 1) := by decide +kernel
theorem dX6_members_5 : decode cX6_members 5 = .ok (.aload_n 0, 1) := by decide +kernel
theorem dX6_members_6 : decode cX6_members 6 = .ok (.getfield 40, 3) := by decide +kernel
theorem dX6_members_9 : decode cX6_members 9 = .ok (.if_icmp .ge 27, 3) := by decide +kernel
theorem dX6_members_12 : decode cX6_members 12 = .ok (.iload_n 2, 1) := by decide +kernel
theorem dX6_members_13 : decode cX6_members 13 = .ok (.aload_n 0, 1) := by decide +kernel
theorem dX6_members_14 : decode cX6_members 14 = .ok (.getfield 23, 3) := by decide +kernel
theorem dX6_members_17 : decode cX6_members 17 = .ok (.iload_n 3, 1) := by decide +kernel
theorem dX6_members_18 : decode cX6_members 18 = .ok (.iaload, 1) := by decide +kernel
theorem dX6_members_19 : decode cX6_members 19 = .ok (.iload_n 1, 1) := by decide +kernel
theorem dX6_members_20 : decode cX6_members 20 = .ok (.if_icmp .ne 7, 3) := by decide +kernel
theorem dX6_members_23 : decode cX6_members 23 = .ok (.iconst 1, 1) := by decide +kernel
theorem dX6_members_24 : decode cX6_members 24 = .ok (.goto 4, 3) := by decide +kernel
theorem dX6_members_27 : decode cX6_members 27 = .ok (.iconst 0, 1) := by decide +kernel
theorem dX6_members_28 : decode cX6_members 28 = .ok (.iadd, 1) := by decide +kernel
theorem dX6_members_29 : decode cX6_members 29 = .ok (.istore_n 2, 1) := by decide +kernel
theorem dX6_members_30 : decode cX6_members 30 = .ok (.iinc 3 1, 3) := by decide +kernel
theorem dX6_members_33 : decode cX6_members 33 = .ok (.goto (-29), 3) := by decide +kernel
theorem dX6_members_36 : decode cX6_members 36 = .ok (.iload_n 2, 1) := by decide +kernel
theorem dX6_members_37 : decode cX6_members 37 = .ok (.ireturn, 1) := by decide +kernel
theorem dX6_net_0 : decode cX6_net 0 = .ok (.aload_n 0, 1) := by decide +kernel
theorem dX6_net_1 : decode cX6_net 1 = .ok (.invokevirtual 122, 3) := by decide +kernel
theorem dX6_net_4 : decode cX6_net 4 = .ok (.iconst 0, 1) := by decide +kernel
theorem dX6_net_5 : decode cX6_net 5 = .ok (.istore_n 2, 1) := by decide +kernel
theorem dX6_net_6 : decode cX6_net 6 = .ok (.iconst 0, 1) := by decide +kernel
theorem dX6_net_7 : decode cX6_net 7 = .ok (.istore_n 3, 1) := by decide +kernel
theorem dX6_net_8 : decode cX6_net 8 = .ok (.iconst 0, 1) := by decide +kernel
theorem dX6_net_9 : decode cX6_net 9 = .ok (.istore 4, 2) := by decide +kernel
theorem dX6_net_11 : decode cX6_net 11 = .ok (.iconst 0, 1) := by decide +kernel
theorem dX6_net_12 : decode cX6_net 12 = .ok (.istore 5, 2) := by decide +kernel
theorem dX6_net_14 : decode cX6_net 14 = .ok (.iload 5, 2) := by decide +kernel
theorem dX6_net_16 : decode cX6_net 16 = .ok (.aload_n 0, 1) := by decide +kernel
theorem dX6_net_17 : decode cX6_net 17 = .ok (.getfield 40, 3) := by decide +kernel
theorem dX6_net_20 : decode cX6_net 20 = .ok (.if_icmp .ge 92, 3) := by decide +kernel
theorem dX6_net_23 : decode cX6_net 23 = .ok (.iload_n 3, 1) := by decide +kernel
theorem dX6_net_24 : decode cX6_net 24 = .ok (.aload_n 0, 1) := by decide +kernel
theorem dX6_net_25 : decode cX6_net 25 = .ok (.iload 5, 2) := by decide +kernel
theorem dX6_net_27 : decode cX6_net 27 = .ok (.invokevirtual 125, 3) := by decide +kernel
theorem dX6_net_30 : decode cX6_net 30 = .ok (.iconst 1, 1) := by decide +kernel
theorem dX6_net_31 : decode cX6_net 31 = .ok (.if_icmp .le 7, 3) := by decide +kernel
theorem dX6_net_34 : decode cX6_net 34 = .ok (.iconst 1, 1) := by decide +kernel
theorem dX6_net_35 : decode cX6_net 35 = .ok (.goto 4, 3) := by decide +kernel
theorem dX6_net_38 : decode cX6_net 38 = .ok (.iconst 0, 1) := by decide +kernel
theorem dX6_net_39 : decode cX6_net 39 = .ok (.iadd, 1) := by decide +kernel
theorem dX6_net_40 : decode cX6_net 40 = .ok (.istore_n 3, 1) := by decide +kernel
theorem dX6_net_41 : decode cX6_net 41 = .ok (.iload 4, 2) := by decide +kernel
theorem dX6_net_43 : decode cX6_net 43 = .ok (.aload_n 0, 1) := by decide +kernel
theorem dX6_net_44 : decode cX6_net 44 = .ok (.aload_n 0, 1) := by decide +kernel
theorem dX6_net_45 : decode cX6_net 45 = .ok (.getfield 23, 3) := by decide +kernel
theorem dX6_net_48 : decode cX6_net 48 = .ok (.iload 5, 2) := by decide +kernel
theorem dX6_net_50 : decode cX6_net 50 = .ok (.iaload, 1) := by decide +kernel
theorem dX6_net_51 : decode cX6_net 51 = .ok (.invokevirtual 125, 3) := by decide +kernel
theorem dX6_net_54 : decode cX6_net 54 = .ok (.iconst 1, 1) := by decide +kernel
theorem dX6_net_55 : decode cX6_net 55 = .ok (.if_icmp .ne 7, 3) := by decide +kernel
theorem dX6_net_58 : decode cX6_net 58 = .ok (.iconst 1, 1) := by decide +kernel
theorem dX6_net_59 : decode cX6_net 59 = .ok (.goto 4, 3) := by decide +kernel
theorem dX6_net_62 : decode cX6_net 62 = .ok (.iconst 0, 1) := by decide +kernel
theorem dX6_net_63 : decode cX6_net 63 = .ok (.iadd, 1) := by decide +kernel
theorem dX6_net_64 : decode cX6_net 64 = .ok (.istore 4, 2) := by decide +kernel
theorem dX6_net_66 : decode cX6_net 66 = .ok (.iload 5, 2) := by decide +kernel
theorem dX6_net_68 : decode cX6_net 68 = .ok (.iconst 1, 1) := by decide +kernel
theorem dX6_net_69 : decode cX6_net 69 = .ok (.iadd, 1) := by decide +kernel
theorem dX6_net_70 : decode cX6_net 70 = .ok (.istore 6, 2) := by decide +kernel
theorem dX6_net_72 : decode cX6_net 72 = .ok (.iload 6, 2) := by decide +kernel
theorem dX6_net_74 : decode cX6_net 74 = .ok (.aload_n 0, 1) := by decide +kernel
theorem dX6_net_75 : decode cX6_net 75 = .ok (.getfield 40, 3) := by decide +kernel
theorem dX6_net_78 : decode cX6_net 78 = .ok (.if_icmp .ge 28, 3) := by decide +kernel
theorem dX6_net_81 : decode cX6_net 81 = .ok (.iload_n 2, 1) := by decide +kernel
theorem dX6_net_82 : decode cX6_net 82 = .ok (.aload_n 0, 1) := by decide +kernel
theorem dX6_net_83 : decode cX6_net 83 = .ok (.iload 5, 2) := by decide +kernel
theorem dX6_net_85 : decode cX6_net 85 = .ok (.iload 6, 2) := by decide +kernel
theorem dX6_net_87 : decode cX6_net 87 = .ok (.invokevirtual 118, 3) := by decide +kernel
theorem dX6_net_90 : decode cX6_net 90 = .ok (.ifCond .eq 7, 3) := by decide +kernel
theorem dX6_net_93 : decode cX6_net 93 = .ok (.iconst 1, 1) := by decide +kernel
theorem dX6_net_94 : decode cX6_net 94 = .ok (.goto 4, 3) := by decide +kernel
theorem dX6_net_97 : decode cX6_net 97 = .ok (.iconst 0, 1) := by decide +kernel
theorem dX6_net_98 : decode cX6_net 98 = .ok (.iadd, 1) := by decide +kernel
theorem dX6_net_99 : decode cX6_net 99 = .ok (.istore_n 2, 1) := by decide +kernel
theorem dX6_net_100 : decode cX6_net 100 = .ok (.iinc 6 1, 3) := by decide +kernel
theorem dX6_net_103 : decode cX6_net 103 = .ok (.goto (-31), 3) := by decide +kernel
theorem dX6_net_106 : decode cX6_net 106 = .ok (.iinc 5 1, 3) := by decide +kernel
theorem dX6_net_109 : decode cX6_net 109 = .ok (.goto (-95), 3) := by decide +kernel
theorem dX6_net_112 : decode cX6_net 112 = .ok (.iload_n 1, 1) := by decide +kernel
theorem dX6_net_113 : decode cX6_net 113 = .ok (.ifCond .ne 7, 3) := by decide +kernel
theorem dX6_net_116 : decode cX6_net 116 = .ok (.iload_n 2, 1) := by decide +kernel
theorem dX6_net_117 : decode cX6_net 117 = .ok (.goto 23, 3) := by decide +kernel
theorem dX6_net_120 : decode cX6_net 120 = .ok (.iload_n 1, 1) := by decide +kernel
theorem dX6_net_121 : decode cX6_net 121 = .ok (.iconst 1, 1) := by decide +kernel
theorem dX6_net_122 : decode cX6_net 122 = .ok (.if_icmp .ne 7, 3) := by decide +kernel
theorem dX6_net_125 : decode cX6_net 125 = .ok (.iload_n 3, 1) := by decide +kernel
theorem dX6_net_126 : decode cX6_net 126 = .ok (.goto 14, 3) := by decide +kernel
theorem dX6_net_129 : decode cX6_net 129 = .ok (.iload_n 1, 1) := by decide +kernel
theorem dX6_net_130 : decode cX6_net 130 = .ok (.iconst 2, 1) := by decide +kernel
theorem dX6_net_131 : decode cX6_net 131 = .ok (.if_icmp .ne 8, 3) := by decide +kernel
theorem dX6_net_134 : decode cX6_net 134 = .ok (.iload 4, 2) := by decide +kernel
theorem dX6_net_136 : decode cX6_net 136 = .ok (.goto 4, 3) := by decide +kernel
theorem dX6_net_139 : decode cX6_net 139 = .ok (.iconst (-1), 1) := by decide +kernel
theorem dX6_net_140 : decode cX6_net 140 = .ok (.ireturn, 1) := by decide +kernel
theorem dX6_solves_0 : decode cX6_solves 0 = .ok (.iconst 0, 1) := by decide +kernel
theorem dX6_solves_1 : decode cX6_solves 1 = .ok (.istore_n 2, 1) := by decide +kernel
theorem dX6_solves_2 : decode cX6_solves 2 = .ok (.iconst 0, 1) := by decide +kernel
theorem dX6_solves_3 : decode cX6_solves 3 = .ok (.istore_n 3, 1) := by decide +kernel
theorem dX6_solves_4 : decode cX6_solves 4 = .ok (.iload_n 3, 1) := by decide +kernel
theorem dX6_solves_5 : decode cX6_solves 5 = .ok (.aload_n 0, 1) := by decide +kernel
theorem dX6_solves_6 : decode cX6_solves 6 = .ok (.getfield 40, 3) := by decide +kernel
theorem dX6_solves_9 : decode cX6_solves 9 = .ok (.if_icmp .ge 29, 3) := by decide +kernel
theorem dX6_solves_12 : decode cX6_solves 12 = .ok (.aload_n 0, 1) := by decide +kernel
theorem dX6_solves_13 : decode cX6_solves 13 = .ok (.getfield 23, 3) := by decide +kernel
theorem dX6_solves_16 : decode cX6_solves 16 = .ok (.iload_n 3, 1) := by decide +kernel
theorem dX6_solves_17 : decode cX6_solves 17 = .ok (.iaload, 1) := by decide +kernel
theorem dX6_solves_18 : decode cX6_solves 18 = .ok (.iload_n 1, 1) := by decide +kernel
theorem dX6_solves_19 : decode cX6_solves 19 = .ok (.if_icmp .ne 13, 3) := by decide +kernel
theorem dX6_solves_22 : decode cX6_solves 22 = .ok (.aload_n 0, 1) := by decide +kernel
theorem dX6_solves_23 : decode cX6_solves 23 = .ok (.getfield 26, 3) := by decide +kernel
theorem dX6_solves_26 : decode cX6_solves 26 = .ok (.iload_n 2, 1) := by decide +kernel
theorem dX6_solves_27 : decode cX6_solves 27 = .ok (.iload_n 3, 1) := by decide +kernel
theorem dX6_solves_28 : decode cX6_solves 28 = .ok (.iastore, 1) := by decide +kernel
theorem dX6_solves_29 : decode cX6_solves 29 = .ok (.iinc 2 1, 3) := by decide +kernel
theorem dX6_solves_32 : decode cX6_solves 32 = .ok (.iinc 3 1, 3) := by decide +kernel
theorem dX6_solves_35 : decode cX6_solves 35 = .ok (.goto (-31), 3) := by decide +kernel
theorem dX6_solves_38 : decode cX6_solves 38 = .ok (.iconst 0, 1) := by decide +kernel
theorem dX6_solves_39 : decode cX6_solves 39 = .ok (.istore_n 3, 1) := by decide +kernel
theorem dX6_solves_40 : decode cX6_solves 40 = .ok (.iload_n 3, 1) := by decide +kernel
theorem dX6_solves_41 : decode cX6_solves 41 = .ok (.bipush 64, 2) := by decide +kernel
theorem dX6_solves_43 : decode cX6_solves 43 = .ok (.if_icmp .ge 16, 3) := by decide +kernel
theorem dX6_solves_46 : decode cX6_solves 46 = .ok (.aload_n 0, 1) := by decide +kernel
theorem dX6_solves_47 : decode cX6_solves 47 = .ok (.getfield 29, 3) := by decide +kernel
theorem dX6_solves_50 : decode cX6_solves 50 = .ok (.iload_n 3, 1) := by decide +kernel
theorem dX6_solves_51 : decode cX6_solves 51 = .ok (.lconst 0, 1) := by decide +kernel
theorem dX6_solves_52 : decode cX6_solves 52 = .ok (.lastore, 1) := by decide +kernel
theorem dX6_solves_53 : decode cX6_solves 53 = .ok (.iinc 3 1, 3) := by decide +kernel
theorem dX6_solves_56 : decode cX6_solves 56 = .ok (.goto (-16), 3) := by decide +kernel
theorem dX6_solves_59 : decode cX6_solves 59 = .ok (.iconst 0, 1) := by decide +kernel
theorem dX6_solves_60 : decode cX6_solves 60 = .ok (.istore_n 3, 1) := by decide +kernel
theorem dX6_solves_61 : decode cX6_solves 61 = .ok (.iload_n 3, 1) := by decide +kernel
theorem dX6_solves_62 : decode cX6_solves 62 = .ok (.iload_n 2, 1) := by decide +kernel
theorem dX6_solves_63 : decode cX6_solves 63 = .ok (.if_icmp .ge 159, 3) := by decide +kernel
theorem dX6_solves_66 : decode cX6_solves 66 = .ok (.iload_n 3, 1) := by decide +kernel
theorem dX6_solves_67 : decode cX6_solves 67 = .ok (.iconst 1, 1) := by decide +kernel
theorem dX6_solves_68 : decode cX6_solves 68 = .ok (.iadd, 1) := by decide +kernel
theorem dX6_solves_69 : decode cX6_solves 69 = .ok (.istore 4, 2) := by decide +kernel
theorem dX6_solves_71 : decode cX6_solves 71 = .ok (.iload 4, 2) := by decide +kernel
theorem dX6_solves_73 : decode cX6_solves 73 = .ok (.iload_n 2, 1) := by decide +kernel
theorem dX6_solves_74 : decode cX6_solves 74 = .ok (.if_icmp .ge 142, 3) := by decide +kernel
theorem dX6_solves_77 : decode cX6_solves 77 = .ok (.aload_n 0, 1) := by decide +kernel
theorem dX6_solves_78 : decode cX6_solves 78 = .ok (.aload_n 0, 1) := by decide +kernel
theorem dX6_solves_79 : decode cX6_solves 79 = .ok (.getfield 26, 3) := by decide +kernel
theorem dX6_solves_82 : decode cX6_solves 82 = .ok (.iload_n 3, 1) := by decide +kernel
theorem dX6_solves_83 : decode cX6_solves 83 = .ok (.iaload, 1) := by decide +kernel
theorem dX6_solves_84 : decode cX6_solves 84 = .ok (.aload_n 0, 1) := by decide +kernel
theorem dX6_solves_85 : decode cX6_solves 85 = .ok (.getfield 26, 3) := by decide +kernel
theorem dX6_solves_88 : decode cX6_solves 88 = .ok (.iload 4, 2) := by decide +kernel
theorem dX6_solves_90 : decode cX6_solves 90 = .ok (.iaload, 1) := by decide +kernel
theorem dX6_solves_91 : decode cX6_solves 91 = .ok (.invokevirtual 118, 3) := by decide +kernel
theorem dX6_solves_94 : decode cX6_solves 94 = .ok (.ifCond .eq 116, 3) := by decide +kernel
theorem dX6_solves_97 : decode cX6_solves 97 = .ok (.aload_n 0, 1) := by decide +kernel
theorem dX6_solves_98 : decode cX6_solves 98 = .ok (.getfield 29, 3) := by decide +kernel
theorem dX6_solves_101 : decode cX6_solves 101 = .ok (.bipush 8, 2) := by decide +kernel
theorem dX6_solves_103 : decode cX6_solves 103 = .ok (.iload_n 3, 1) := by decide +kernel
theorem dX6_solves_104 : decode cX6_solves 104 = .ok (.imul, 1) := by decide +kernel
theorem dX6_solves_105 : decode cX6_solves 105 = .ok (.iload_n 3, 1) := by decide +kernel
theorem dX6_solves_106 : decode cX6_solves 106 = .ok (.iadd, 1) := by decide +kernel
theorem dX6_solves_107 : decode cX6_solves 107 = .ok (.dup2, 1) := by decide +kernel
theorem dX6_solves_108 : decode cX6_solves 108 = .ok (.laload, 1) := by decide +kernel
theorem dX6_solves_109 : decode cX6_solves 109 = .ok (.lconst 1, 1) := by decide +kernel
theorem dX6_solves_110 : decode cX6_solves 110 = .ok (.ladd, 1) := by decide +kernel
theorem dX6_solves_111 : decode cX6_solves 111 = .ok (.lastore, 1) := by decide +kernel
theorem dX6_solves_112 : decode cX6_solves 112 = .ok (.aload_n 0, 1) := by decide +kernel
theorem dX6_solves_113 : decode cX6_solves 113 = .ok (.getfield 29, 3) := by decide +kernel
theorem dX6_solves_116 : decode cX6_solves 116 = .ok (.bipush 8, 2) := by decide +kernel
theorem dX6_solves_118 : decode cX6_solves 118 = .ok (.iload 4, 2) := by decide +kernel
theorem dX6_solves_120 : decode cX6_solves 120 = .ok (.imul, 1) := by decide +kernel
theorem dX6_solves_121 : decode cX6_solves 121 = .ok (.iload 4, 2) := by decide +kernel
theorem dX6_solves_123 : decode cX6_solves 123 = .ok (.iadd, 1) := by decide +kernel
theorem dX6_solves_124 : decode cX6_solves 124 = .ok (.dup2, 1) := by decide +kernel
theorem dX6_solves_125 : decode cX6_solves 125 = .ok (.laload, 1) := by decide +kernel
theorem dX6_solves_126 : decode cX6_solves 126 = .ok (.lconst 1, 1) := by decide +kernel
theorem dX6_solves_127 : decode cX6_solves 127 = .ok (.ladd, 1) := by decide +kernel
theorem dX6_solves_128 : decode cX6_solves 128 = .ok (.lastore, 1) := by decide +kernel
theorem dX6_solves_129 : decode cX6_solves 129 = .ok (.aload_n 0, 1) := by decide +kernel
theorem dX6_solves_130 : decode cX6_solves 130 = .ok (.getfield 29, 3) := by decide +kernel
theorem dX6_solves_133 : decode cX6_solves 133 = .ok (.bipush 8, 2) := by decide +kernel
theorem dX6_solves_135 : decode cX6_solves 135 = .ok (.iload_n 3, 1) := by decide +kernel
theorem dX6_solves_136 : decode cX6_solves 136 = .ok (.imul, 1) := by decide +kernel
theorem dX6_solves_137 : decode cX6_solves 137 = .ok (.iload 4, 2) := by decide +kernel
theorem dX6_solves_139 : decode cX6_solves 139 = .ok (.iadd, 1) := by decide +kernel
theorem dX6_solves_140 : decode cX6_solves 140 = .ok (.dup2, 1) := by decide +kernel
theorem dX6_solves_141 : decode cX6_solves 141 = .ok (.laload, 1) := by decide +kernel
theorem dX6_solves_142 : decode cX6_solves 142 = .ok (.lconst 1, 1) := by decide +kernel
theorem dX6_solves_143 : decode cX6_solves 143 = .ok (.lsub, 1) := by decide +kernel
theorem dX6_solves_144 : decode cX6_solves 144 = .ok (.lastore, 1) := by decide +kernel
theorem dX6_solves_145 : decode cX6_solves 145 = .ok (.aload_n 0, 1) := by decide +kernel
theorem dX6_solves_146 : decode cX6_solves 146 = .ok (.getfield 29, 3) := by decide +kernel
theorem dX6_solves_149 : decode cX6_solves 149 = .ok (.bipush 8, 2) := by decide +kernel
theorem dX6_solves_151 : decode cX6_solves 151 = .ok (.iload 4, 2) := by decide +kernel
theorem dX6_solves_153 : decode cX6_solves 153 = .ok (.imul, 1) := by decide +kernel
theorem dX6_solves_154 : decode cX6_solves 154 = .ok (.iload_n 3, 1) := by decide +kernel
theorem dX6_solves_155 : decode cX6_solves 155 = .ok (.iadd, 1) := by decide +kernel
theorem dX6_solves_156 : decode cX6_solves 156 = .ok (.dup2, 1) := by decide +kernel
theorem dX6_solves_157 : decode cX6_solves 157 = .ok (.laload, 1) := by decide +kernel
theorem dX6_solves_158 : decode cX6_solves 158 = .ok (.iload_n 3, 1) := by decide +kernel
theorem dX6_solves_159 : decode cX6_solves 159 = .ok (.ifCond .ne 7, 3) := by decide +kernel
theorem dX6_solves_162 : decode cX6_solves 162 = .ok (.lconst 0, 1) := by decide +kernel
theorem dX6_solves_163 : decode cX6_solves 163 = .ok (.goto 4, 3) := by decide +kernel
theorem dX6_solves_166 : decode cX6_solves 166 = .ok (.lconst 1, 1) := by decide +kernel
theorem dX6_solves_167 : decode cX6_solves 167 = .ok (.lsub, 1) := by decide +kernel
theorem dX6_solves_168 : decode cX6_solves 168 = .ok (.lastore, 1) := by decide +kernel
theorem dX6_solves_169 : decode cX6_solves 169 = .ok (.aload_n 0, 1) := by decide +kernel
theorem dX6_solves_170 : decode cX6_solves 170 = .ok (.getfield 29, 3) := by decide +kernel
theorem dX6_solves_173 : decode cX6_solves 173 = .ok (.bipush 8, 2) := by decide +kernel
theorem dX6_solves_175 : decode cX6_solves 175 = .ok (.iload_n 3, 1) := by decide +kernel
theorem dX6_solves_176 : decode cX6_solves 176 = .ok (.imul, 1) := by decide +kernel
theorem dX6_solves_177 : decode cX6_solves 177 = .ok (.dup2, 1) := by decide +kernel
theorem dX6_solves_178 : decode cX6_solves 178 = .ok (.laload, 1) := by decide +kernel
theorem dX6_solves_179 : decode cX6_solves 179 = .ok (.iload_n 3, 1) := by decide +kernel
theorem dX6_solves_180 : decode cX6_solves 180 = .ok (.ifCond .ne 7, 3) := by decide +kernel
theorem dX6_solves_183 : decode cX6_solves 183 = .ok (.lconst 0, 1) := by decide +kernel
theorem dX6_solves_184 : decode cX6_solves 184 = .ok (.goto 7, 3) := by decide +kernel
theorem dX6_solves_187 : decode cX6_solves 187 = .ok (.aload_n 0, 1) := by decide +kernel
theorem dX6_solves_188 : decode cX6_solves 188 = .ok (.getfield 114, 3) := by decide +kernel
theorem dX6_solves_191 : decode cX6_solves 191 = .ok (.ladd, 1) := by decide +kernel
theorem dX6_solves_192 : decode cX6_solves 192 = .ok (.lastore, 1) := by decide +kernel
theorem dX6_solves_193 : decode cX6_solves 193 = .ok (.aload_n 0, 1) := by decide +kernel
theorem dX6_solves_194 : decode cX6_solves 194 = .ok (.getfield 29, 3) := by decide +kernel
theorem dX6_solves_197 : decode cX6_solves 197 = .ok (.bipush 8, 2) := by decide +kernel
theorem dX6_solves_199 : decode cX6_solves 199 = .ok (.iload 4, 2) := by decide +kernel
theorem dX6_solves_201 : decode cX6_solves 201 = .ok (.imul, 1) := by decide +kernel
theorem dX6_solves_202 : decode cX6_solves 202 = .ok (.dup2, 1) := by decide +kernel
theorem dX6_solves_203 : decode cX6_solves 203 = .ok (.laload, 1) := by decide +kernel
theorem dX6_solves_204 : decode cX6_solves 204 = .ok (.aload_n 0, 1) := by decide +kernel
theorem dX6_solves_205 : decode cX6_solves 205 = .ok (.getfield 114, 3) := by decide +kernel
theorem dX6_solves_208 : decode cX6_solves 208 = .ok (.lsub, 1) := by decide +kernel
theorem dX6_solves_209 : decode cX6_solves 209 = .ok (.lastore, 1) := by decide +kernel
theorem dX6_solves_210 : decode cX6_solves 210 = .ok (.iinc 4 1, 3) := by decide +kernel
theorem dX6_solves_213 : decode cX6_solves 213 = .ok (.goto (-142), 3) := by decide +kernel
theorem dX6_solves_216 : decode cX6_solves 216 = .ok (.iinc 3 1, 3) := by decide +kernel
theorem dX6_solves_219 : decode cX6_solves 219 = .ok (.goto (-158), 3) := by decide +kernel
theorem dX6_solves_222 : decode cX6_solves 222 = .ok (.lconst 1, 1) := by decide +kernel
theorem dX6_solves_223 : decode cX6_solves 223 = .ok (.lstore_n 3, 1) := by decide +kernel
theorem dX6_solves_224 : decode cX6_solves 224 = .ok (.iconst 1, 1) := by decide +kernel
theorem dX6_solves_225 : decode cX6_solves 225 = .ok (.istore 5, 2) := by decide +kernel
theorem dX6_solves_227 : decode cX6_solves 227 = .ok (.iload 5, 2) := by decide +kernel
theorem dX6_solves_229 : decode cX6_solves 229 = .ok (.iload_n 2, 1) := by decide +kernel
theorem dX6_solves_230 : decode cX6_solves 230 = .ok (.if_icmp .ge 31, 3) := by decide +kernel
theorem dX6_solves_233 : decode cX6_solves 233 = .ok (.aload_n 0, 1) := by decide +kernel
theorem dX6_solves_234 : decode cX6_solves 234 = .ok (.iload 5, 2) := by decide +kernel
theorem dX6_solves_236 : decode cX6_solves 236 = .ok (.iload_n 2, 1) := by decide +kernel
theorem dX6_solves_237 : decode cX6_solves 237 = .ok (.lload_n 3, 1) := by decide +kernel
theorem dX6_solves_238 : decode cX6_solves 238 = .ok (.invokevirtual 129, 3) := by decide +kernel
theorem dX6_solves_241 : decode cX6_solves 241 = .ok (.aload_n 0, 1) := by decide +kernel
theorem dX6_solves_242 : decode cX6_solves 242 = .ok (.getfield 29, 3) := by decide +kernel
theorem dX6_solves_245 : decode cX6_solves 245 = .ok (.bipush 8, 2) := by decide +kernel
theorem dX6_solves_247 : decode cX6_solves 247 = .ok (.iload 5, 2) := by decide +kernel
theorem dX6_solves_249 : decode cX6_solves 249 = .ok (.imul, 1) := by decide +kernel
theorem dX6_solves_250 : decode cX6_solves 250 = .ok (.iload 5, 2) := by decide +kernel
theorem dX6_solves_252 : decode cX6_solves 252 = .ok (.iadd, 1) := by decide +kernel
theorem dX6_solves_253 : decode cX6_solves 253 = .ok (.laload, 1) := by decide +kernel
theorem dX6_solves_254 : decode cX6_solves 254 = .ok (.lstore_n 3, 1) := by decide +kernel
theorem dX6_solves_255 : decode cX6_solves 255 = .ok (.iinc 5 1, 3) := by decide +kernel
theorem dX6_solves_258 : decode cX6_solves 258 = .ok (.goto (-31), 3) := by decide +kernel
theorem dX6_solves_261 : decode cX6_solves 261 = .ok (.aload_n 0, 1) := by decide +kernel
theorem dX6_solves_262 : decode cX6_solves 262 = .ok (.iload_n 2, 1) := by decide +kernel
theorem dX6_solves_263 : decode cX6_solves 263 = .ok (.lload_n 3, 1) := by decide +kernel
theorem dX6_solves_264 : decode cX6_solves 264 = .ok (.invokevirtual 133, 3) := by decide +kernel
theorem dX6_solves_267 : decode cX6_solves 267 = .ok (.return_, 1) := by decide +kernel
theorem dX6_clears_0 : decode cX6_clears 0 = .ok (.iload_n 1, 1) := by decide +kernel
theorem dX6_clears_1 : decode cX6_clears 1 = .ok (.iconst 1, 1) := by decide +kernel
theorem dX6_clears_2 : decode cX6_clears 2 = .ok (.iadd, 1) := by decide +kernel
theorem dX6_clears_3 : decode cX6_clears 3 = .ok (.istore 5, 2) := by decide +kernel
theorem dX6_clears_5 : decode cX6_clears 5 = .ok (.iload 5, 2) := by decide +kernel
theorem dX6_clears_7 : decode cX6_clears 7 = .ok (.iload_n 2, 1) := by decide +kernel
theorem dX6_clears_8 : decode cX6_clears 8 = .ok (.if_icmp .ge 105, 3) := by decide +kernel
theorem dX6_clears_11 : decode cX6_clears 11 = .ok (.aload_n 0, 1) := by decide +kernel
theorem dX6_clears_12 : decode cX6_clears 12 = .ok (.getfield 29, 3) := by decide +kernel
theorem dX6_clears_15 : decode cX6_clears 15 = .ok (.bipush 8, 2) := by decide +kernel
theorem dX6_clears_17 : decode cX6_clears 17 = .ok (.iload 5, 2) := by decide +kernel
theorem dX6_clears_19 : decode cX6_clears 19 = .ok (.imul, 1) := by decide +kernel
theorem dX6_clears_20 : decode cX6_clears 20 = .ok (.iload_n 1, 1) := by decide +kernel
theorem dX6_clears_21 : decode cX6_clears 21 = .ok (.iadd, 1) := by decide +kernel
theorem dX6_clears_22 : decode cX6_clears 22 = .ok (.laload, 1) := by decide +kernel
theorem dX6_clears_23 : decode cX6_clears 23 = .ok (.lstore 6, 2) := by decide +kernel
theorem dX6_clears_25 : decode cX6_clears 25 = .ok (.iconst 0, 1) := by decide +kernel
theorem dX6_clears_26 : decode cX6_clears 26 = .ok (.istore 8, 2) := by decide +kernel
theorem dX6_clears_28 : decode cX6_clears 28 = .ok (.iload 8, 2) := by decide +kernel
theorem dX6_clears_30 : decode cX6_clears 30 = .ok (.iload_n 2, 1) := by decide +kernel
theorem dX6_clears_31 : decode cX6_clears 31 = .ok (.if_icmp .ge 76, 3) := by decide +kernel
theorem dX6_clears_34 : decode cX6_clears 34 = .ok (.iload 8, 2) := by decide +kernel
theorem dX6_clears_36 : decode cX6_clears 36 = .ok (.ifCond .eq 9, 3) := by decide +kernel
theorem dX6_clears_39 : decode cX6_clears 39 = .ok (.iload 8, 2) := by decide +kernel
theorem dX6_clears_41 : decode cX6_clears 41 = .ok (.iload_n 1, 1) := by decide +kernel
theorem dX6_clears_42 : decode cX6_clears 42 = .ok (.if_icmp .lt 59, 3) := by decide +kernel
theorem dX6_clears_45 : decode cX6_clears 45 = .ok (.aload_n 0, 1) := by decide +kernel
theorem dX6_clears_46 : decode cX6_clears 46 = .ok (.getfield 29, 3) := by decide +kernel
theorem dX6_clears_49 : decode cX6_clears 49 = .ok (.bipush 8, 2) := by decide +kernel
theorem dX6_clears_51 : decode cX6_clears 51 = .ok (.iload 5, 2) := by decide +kernel
theorem dX6_clears_53 : decode cX6_clears 53 = .ok (.imul, 1) := by decide +kernel
theorem dX6_clears_54 : decode cX6_clears 54 = .ok (.iload 8, 2) := by decide +kernel
theorem dX6_clears_56 : decode cX6_clears 56 = .ok (.iadd, 1) := by decide +kernel
theorem dX6_clears_57 : decode cX6_clears 57 = .ok (.aload_n 0, 1) := by decide +kernel
theorem dX6_clears_58 : decode cX6_clears 58 = .ok (.getfield 29, 3) := by decide +kernel
theorem dX6_clears_61 : decode cX6_clears 61 = .ok (.bipush 8, 2) := by decide +kernel
theorem dX6_clears_63 : decode cX6_clears 63 = .ok (.iload 5, 2) := by decide +kernel
theorem dX6_clears_65 : decode cX6_clears 65 = .ok (.imul, 1) := by decide +kernel
theorem dX6_clears_66 : decode cX6_clears 66 = .ok (.iload 8, 2) := by decide +kernel
theorem dX6_clears_68 : decode cX6_clears 68 = .ok (.iadd, 1) := by decide +kernel
theorem dX6_clears_69 : decode cX6_clears 69 = .ok (.laload, 1) := by decide +kernel
theorem dX6_clears_70 : decode cX6_clears 70 = .ok (.aload_n 0, 1) := by decide +kernel
theorem dX6_clears_71 : decode cX6_clears 71 = .ok (.getfield 29, 3) := by decide +kernel
theorem dX6_clears_74 : decode cX6_clears 74 = .ok (.bipush 8, 2) := by decide +kernel
theorem dX6_clears_76 : decode cX6_clears 76 = .ok (.iload_n 1, 1) := by decide +kernel
theorem dX6_clears_77 : decode cX6_clears 77 = .ok (.imul, 1) := by decide +kernel
theorem dX6_clears_78 : decode cX6_clears 78 = .ok (.iload_n 1, 1) := by decide +kernel
theorem dX6_clears_79 : decode cX6_clears 79 = .ok (.iadd, 1) := by decide +kernel
theorem dX6_clears_80 : decode cX6_clears 80 = .ok (.laload, 1) := by decide +kernel
theorem dX6_clears_81 : decode cX6_clears 81 = .ok (.lmul, 1) := by decide +kernel
theorem dX6_clears_82 : decode cX6_clears 82 = .ok (.lload 6, 2) := by decide +kernel
theorem dX6_clears_84 : decode cX6_clears 84 = .ok (.aload_n 0, 1) := by decide +kernel
theorem dX6_clears_85 : decode cX6_clears 85 = .ok (.getfield 29, 3) := by decide +kernel
theorem dX6_clears_88 : decode cX6_clears 88 = .ok (.bipush 8, 2) := by decide +kernel
theorem dX6_clears_90 : decode cX6_clears 90 = .ok (.iload_n 1, 1) := by decide +kernel
theorem dX6_clears_91 : decode cX6_clears 91 = .ok (.imul, 1) := by decide +kernel
theorem dX6_clears_92 : decode cX6_clears 92 = .ok (.iload 8, 2) := by decide +kernel
theorem dX6_clears_94 : decode cX6_clears 94 = .ok (.iadd, 1) := by decide +kernel
theorem dX6_clears_95 : decode cX6_clears 95 = .ok (.laload, 1) := by decide +kernel
theorem dX6_clears_96 : decode cX6_clears 96 = .ok (.lmul, 1) := by decide +kernel
theorem dX6_clears_97 : decode cX6_clears 97 = .ok (.lsub, 1) := by decide +kernel
theorem dX6_clears_98 : decode cX6_clears 98 = .ok (.lload_n 3, 1) := by decide +kernel
theorem dX6_clears_99 : decode cX6_clears 99 = .ok (.ldiv, 1) := by decide +kernel
theorem dX6_clears_100 : decode cX6_clears 100 = .ok (.lastore, 1) := by decide +kernel
theorem dX6_clears_101 : decode cX6_clears 101 = .ok (.iinc 8 1, 3) := by decide +kernel
theorem dX6_clears_104 : decode cX6_clears 104 = .ok (.goto (-76), 3) := by decide +kernel
theorem dX6_clears_107 : decode cX6_clears 107 = .ok (.iinc 5 1, 3) := by decide +kernel
theorem dX6_clears_110 : decode cX6_clears 110 = .ok (.goto (-105), 3) := by decide +kernel
theorem dX6_clears_113 : decode cX6_clears 113 = .ok (.return_, 1) := by decide +kernel
theorem dX6_backs_0 : decode cX6_backs 0 = .ok (.iconst 0, 1) := by decide +kernel
theorem dX6_backs_1 : decode cX6_backs 1 = .ok (.istore 4, 2) := by decide +kernel
theorem dX6_backs_3 : decode cX6_backs 3 = .ok (.iload 4, 2) := by decide +kernel
theorem dX6_backs_5 : decode cX6_backs 5 = .ok (.iload_n 1, 1) := by decide +kernel
theorem dX6_backs_6 : decode cX6_backs 6 = .ok (.if_icmp .ge 35, 3) := by decide +kernel
theorem dX6_backs_9 : decode cX6_backs 9 = .ok (.aload_n 0, 1) := by decide +kernel
theorem dX6_backs_10 : decode cX6_backs 10 = .ok (.getfield 36, 3) := by decide +kernel
theorem dX6_backs_13 : decode cX6_backs 13 = .ok (.aload_n 0, 1) := by decide +kernel
theorem dX6_backs_14 : decode cX6_backs 14 = .ok (.getfield 26, 3) := by decide +kernel
theorem dX6_backs_17 : decode cX6_backs 17 = .ok (.iload 4, 2) := by decide +kernel
theorem dX6_backs_19 : decode cX6_backs 19 = .ok (.iaload, 1) := by decide +kernel
theorem dX6_backs_20 : decode cX6_backs 20 = .ok (.lload_n 2, 1) := by decide +kernel
theorem dX6_backs_21 : decode cX6_backs 21 = .ok (.lastore, 1) := by decide +kernel
theorem dX6_backs_22 : decode cX6_backs 22 = .ok (.aload_n 0, 1) := by decide +kernel
theorem dX6_backs_23 : decode cX6_backs 23 = .ok (.getfield 33, 3) := by decide +kernel
theorem dX6_backs_26 : decode cX6_backs 26 = .ok (.aload_n 0, 1) := by decide +kernel
theorem dX6_backs_27 : decode cX6_backs 27 = .ok (.getfield 26, 3) := by decide +kernel
theorem dX6_backs_30 : decode cX6_backs 30 = .ok (.iload 4, 2) := by decide +kernel
theorem dX6_backs_32 : decode cX6_backs 32 = .ok (.iaload, 1) := by decide +kernel
theorem dX6_backs_33 : decode cX6_backs 33 = .ok (.lconst 0, 1) := by decide +kernel
theorem dX6_backs_34 : decode cX6_backs 34 = .ok (.lastore, 1) := by decide +kernel
theorem dX6_backs_35 : decode cX6_backs 35 = .ok (.iinc 4 1, 3) := by decide +kernel
theorem dX6_backs_38 : decode cX6_backs 38 = .ok (.goto (-35), 3) := by decide +kernel
theorem dX6_backs_41 : decode cX6_backs 41 = .ok (.iload_n 1, 1) := by decide +kernel
theorem dX6_backs_42 : decode cX6_backs 42 = .ok (.iconst 1, 1) := by decide +kernel
theorem dX6_backs_43 : decode cX6_backs 43 = .ok (.isub, 1) := by decide +kernel
theorem dX6_backs_44 : decode cX6_backs 44 = .ok (.istore 4, 2) := by decide +kernel
theorem dX6_backs_46 : decode cX6_backs 46 = .ok (.iload 4, 2) := by decide +kernel
theorem dX6_backs_48 : decode cX6_backs 48 = .ok (.ifCond .le 100, 3) := by decide +kernel
theorem dX6_backs_51 : decode cX6_backs 51 = .ok (.aload_n 0, 1) := by decide +kernel
theorem dX6_backs_52 : decode cX6_backs 52 = .ok (.getfield 29, 3) := by decide +kernel
theorem dX6_backs_55 : decode cX6_backs 55 = .ok (.bipush 8, 2) := by decide +kernel
theorem dX6_backs_57 : decode cX6_backs 57 = .ok (.iload 4, 2) := by decide +kernel
theorem dX6_backs_59 : decode cX6_backs 59 = .ok (.imul, 1) := by decide +kernel
theorem dX6_backs_60 : decode cX6_backs 60 = .ok (.laload, 1) := by decide +kernel
theorem dX6_backs_61 : decode cX6_backs 61 = .ok (.lload_n 2, 1) := by decide +kernel
theorem dX6_backs_62 : decode cX6_backs 62 = .ok (.lmul, 1) := by decide +kernel
theorem dX6_backs_63 : decode cX6_backs 63 = .ok (.lstore 5, 2) := by decide +kernel
theorem dX6_backs_65 : decode cX6_backs 65 = .ok (.iload 4, 2) := by decide +kernel
theorem dX6_backs_67 : decode cX6_backs 67 = .ok (.iconst 1, 1) := by decide +kernel
theorem dX6_backs_68 : decode cX6_backs 68 = .ok (.iadd, 1) := by decide +kernel
theorem dX6_backs_69 : decode cX6_backs 69 = .ok (.istore 7, 2) := by decide +kernel
theorem dX6_backs_71 : decode cX6_backs 71 = .ok (.iload 7, 2) := by decide +kernel
theorem dX6_backs_73 : decode cX6_backs 73 = .ok (.iload_n 1, 1) := by decide +kernel
theorem dX6_backs_74 : decode cX6_backs 74 = .ok (.if_icmp .ge 40, 3) := by decide +kernel
theorem dX6_backs_77 : decode cX6_backs 77 = .ok (.lload 5, 2) := by decide +kernel
theorem dX6_backs_79 : decode cX6_backs 79 = .ok (.aload_n 0, 1) := by decide +kernel
theorem dX6_backs_80 : decode cX6_backs 80 = .ok (.getfield 29, 3) := by decide +kernel
theorem dX6_backs_83 : decode cX6_backs 83 = .ok (.bipush 8, 2) := by decide +kernel
theorem dX6_backs_85 : decode cX6_backs 85 = .ok (.iload 4, 2) := by decide +kernel
theorem dX6_backs_87 : decode cX6_backs 87 = .ok (.imul, 1) := by decide +kernel
theorem dX6_backs_88 : decode cX6_backs 88 = .ok (.iload 7, 2) := by decide +kernel
theorem dX6_backs_90 : decode cX6_backs 90 = .ok (.iadd, 1) := by decide +kernel
theorem dX6_backs_91 : decode cX6_backs 91 = .ok (.laload, 1) := by decide +kernel
theorem dX6_backs_92 : decode cX6_backs 92 = .ok (.aload_n 0, 1) := by decide +kernel
theorem dX6_backs_93 : decode cX6_backs 93 = .ok (.getfield 33, 3) := by decide +kernel
theorem dX6_backs_96 : decode cX6_backs 96 = .ok (.aload_n 0, 1) := by decide +kernel
theorem dX6_backs_97 : decode cX6_backs 97 = .ok (.getfield 26, 3) := by decide +kernel
theorem dX6_backs_100 : decode cX6_backs 100 = .ok (.iload 7, 2) := by decide +kernel
theorem dX6_backs_102 : decode cX6_backs 102 = .ok (.iaload, 1) := by decide +kernel
theorem dX6_backs_103 : decode cX6_backs 103 = .ok (.laload, 1) := by decide +kernel
theorem dX6_backs_104 : decode cX6_backs 104 = .ok (.lmul, 1) := by decide +kernel
theorem dX6_backs_105 : decode cX6_backs 105 = .ok (.lsub, 1) := by decide +kernel
theorem dX6_backs_106 : decode cX6_backs 106 = .ok (.lstore 5, 2) := by decide +kernel
theorem dX6_backs_108 : decode cX6_backs 108 = .ok (.iinc 7 1, 3) := by decide +kernel
theorem dX6_backs_111 : decode cX6_backs 111 = .ok (.goto (-40), 3) := by decide +kernel
theorem dX6_backs_114 : decode cX6_backs 114 = .ok (.aload_n 0, 1) := by decide +kernel
theorem dX6_backs_115 : decode cX6_backs 115 = .ok (.getfield 33, 3) := by decide +kernel
theorem dX6_backs_118 : decode cX6_backs 118 = .ok (.aload_n 0, 1) := by decide +kernel
theorem dX6_backs_119 : decode cX6_backs 119 = .ok (.getfield 26, 3) := by decide +kernel
theorem dX6_backs_122 : decode cX6_backs 122 = .ok (.iload 4, 2) := by decide +kernel
theorem dX6_backs_124 : decode cX6_backs 124 = .ok (.iaload, 1) := by decide +kernel
theorem dX6_backs_125 : decode cX6_backs 125 = .ok (.lload 5, 2) := by decide +kernel
theorem dX6_backs_127 : decode cX6_backs 127 = .ok (.aload_n 0, 1) := by decide +kernel
theorem dX6_backs_128 : decode cX6_backs 128 = .ok (.getfield 29, 3) := by decide +kernel
theorem dX6_backs_131 : decode cX6_backs 131 = .ok (.bipush 8, 2) := by decide +kernel
theorem dX6_backs_133 : decode cX6_backs 133 = .ok (.iload 4, 2) := by decide +kernel
theorem dX6_backs_135 : decode cX6_backs 135 = .ok (.imul, 1) := by decide +kernel
theorem dX6_backs_136 : decode cX6_backs 136 = .ok (.iload 4, 2) := by decide +kernel
theorem dX6_backs_138 : decode cX6_backs 138 = .ok (.iadd, 1) := by decide +kernel
theorem dX6_backs_139 : decode cX6_backs 139 = .ok (.laload, 1) := by decide +kernel
theorem dX6_backs_140 : decode cX6_backs 140 = .ok (.ldiv, 1) := by decide +kernel
theorem dX6_backs_141 : decode cX6_backs 141 = .ok (.lastore, 1) := by decide +kernel
theorem dX6_backs_142 : decode cX6_backs 142 = .ok (.iinc 4 (-1), 3) := by decide +kernel
theorem dX6_backs_145 : decode cX6_backs 145 = .ok (.goto (-99), 3) := by decide +kernel
theorem dX6_backs_148 : decode cX6_backs 148 = .ok (.return_, 1) := by decide +kernel
theorem dX6_offs_0 : decode cX6_offs 0 = .ok (.aload_n 0, 1) := by decide +kernel
theorem dX6_offs_1 : decode cX6_offs 1 = .ok (.invokevirtual 122, 3) := by decide +kernel
theorem dX6_offs_4 : decode cX6_offs 4 = .ok (.iconst 0, 1) := by decide +kernel
theorem dX6_offs_5 : decode cX6_offs 5 = .ok (.istore_n 1, 1) := by decide +kernel
theorem dX6_offs_6 : decode cX6_offs 6 = .ok (.iload_n 1, 1) := by decide +kernel
theorem dX6_offs_7 : decode cX6_offs 7 = .ok (.aload_n 0, 1) := by decide +kernel
theorem dX6_offs_8 : decode cX6_offs 8 = .ok (.getfield 40, 3) := by decide +kernel
theorem dX6_offs_11 : decode cX6_offs 11 = .ok (.if_icmp .ge 24, 3) := by decide +kernel
theorem dX6_offs_14 : decode cX6_offs 14 = .ok (.aload_n 0, 1) := by decide +kernel
theorem dX6_offs_15 : decode cX6_offs 15 = .ok (.getfield 23, 3) := by decide +kernel
theorem dX6_offs_18 : decode cX6_offs 18 = .ok (.iload_n 1, 1) := by decide +kernel
theorem dX6_offs_19 : decode cX6_offs 19 = .ok (.iaload, 1) := by decide +kernel
theorem dX6_offs_20 : decode cX6_offs 20 = .ok (.iload_n 1, 1) := by decide +kernel
theorem dX6_offs_21 : decode cX6_offs 21 = .ok (.if_icmp .ne 8, 3) := by decide +kernel
theorem dX6_offs_24 : decode cX6_offs 24 = .ok (.aload_n 0, 1) := by decide +kernel
theorem dX6_offs_25 : decode cX6_offs 25 = .ok (.iload_n 1, 1) := by decide +kernel
theorem dX6_offs_26 : decode cX6_offs 26 = .ok (.invokevirtual 137, 3) := by decide +kernel
theorem dX6_offs_29 : decode cX6_offs 29 = .ok (.iinc 1 1, 3) := by decide +kernel
theorem dX6_offs_32 : decode cX6_offs 32 = .ok (.goto (-26), 3) := by decide +kernel
theorem dX6_offs_35 : decode cX6_offs 35 = .ok (.return_, 1) := by decide +kernel
theorem dX6_offOf_0 : decode cX6_offOf 0 = .ok (.lconst 0, 1) := by decide +kernel
theorem dX6_offOf_1 : decode cX6_offOf 1 = .ok (.lstore_n 2, 1) := by decide +kernel
theorem dX6_offOf_2 : decode cX6_offOf 2 = .ok (.iconst 0, 1) := by decide +kernel
theorem dX6_offOf_3 : decode cX6_offOf 3 = .ok (.istore 4, 2) := by decide +kernel
theorem dX6_offOf_5 : decode cX6_offOf 5 = .ok (.iload 4, 2) := by decide +kernel
theorem dX6_offOf_7 : decode cX6_offOf 7 = .ok (.aload_n 0, 1) := by decide +kernel
theorem dX6_offOf_8 : decode cX6_offOf 8 = .ok (.getfield 40, 3) := by decide +kernel
theorem dX6_offOf_11 : decode cX6_offOf 11 = .ok (.if_icmp .ge 39, 3) := by decide +kernel
theorem dX6_offOf_14 : decode cX6_offOf 14 = .ok (.lload_n 2, 1) := by decide +kernel
theorem dX6_offOf_15 : decode cX6_offOf 15 = .ok (.aload_n 0, 1) := by decide +kernel
theorem dX6_offOf_16 : decode cX6_offOf 16 = .ok (.getfield 23, 3) := by decide +kernel
theorem dX6_offOf_19 : decode cX6_offOf 19 = .ok (.iload 4, 2) := by decide +kernel
theorem dX6_offOf_21 : decode cX6_offOf 21 = .ok (.iaload, 1) := by decide +kernel
theorem dX6_offOf_22 : decode cX6_offOf 22 = .ok (.aload_n 0, 1) := by decide +kernel
theorem dX6_offOf_23 : decode cX6_offOf 23 = .ok (.getfield 23, 3) := by decide +kernel
theorem dX6_offOf_26 : decode cX6_offOf 26 = .ok (.iload_n 1, 1) := by decide +kernel
theorem dX6_offOf_27 : decode cX6_offOf 27 = .ok (.iaload, 1) := by decide +kernel
theorem dX6_offOf_28 : decode cX6_offOf 28 = .ok (.if_icmp .ne 13, 3) := by decide +kernel
theorem dX6_offOf_31 : decode cX6_offOf 31 = .ok (.aload_n 0, 1) := by decide +kernel
theorem dX6_offOf_32 : decode cX6_offOf 32 = .ok (.getfield 33, 3) := by decide +kernel
theorem dX6_offOf_35 : decode cX6_offOf 35 = .ok (.iload 4, 2) := by decide +kernel
theorem dX6_offOf_37 : decode cX6_offOf 37 = .ok (.laload, 1) := by decide +kernel
theorem dX6_offOf_38 : decode cX6_offOf 38 = .ok (.goto 4, 3) := by decide +kernel
theorem dX6_offOf_41 : decode cX6_offOf 41 = .ok (.lconst 0, 1) := by decide +kernel
theorem dX6_offOf_42 : decode cX6_offOf 42 = .ok (.ladd, 1) := by decide +kernel
theorem dX6_offOf_43 : decode cX6_offOf 43 = .ok (.lstore_n 2, 1) := by decide +kernel
theorem dX6_offOf_44 : decode cX6_offOf 44 = .ok (.iinc 4 1, 3) := by decide +kernel
theorem dX6_offOf_47 : decode cX6_offOf 47 = .ok (.goto (-42), 3) := by decide +kernel
theorem dX6_offOf_50 : decode cX6_offOf 50 = .ok (.aload_n 0, 1) := by decide +kernel
theorem dX6_offOf_51 : decode cX6_offOf 51 = .ok (.aload_n 0, 1) := by decide +kernel
theorem dX6_offOf_52 : decode cX6_offOf 52 = .ok (.getfield 23, 3) := by decide +kernel
theorem dX6_offOf_55 : decode cX6_offOf 55 = .ok (.iload_n 1, 1) := by decide +kernel
theorem dX6_offOf_56 : decode cX6_offOf 56 = .ok (.iaload, 1) := by decide +kernel
theorem dX6_offOf_57 : decode cX6_offOf 57 = .ok (.invokevirtual 125, 3) := by decide +kernel
theorem dX6_offOf_60 : decode cX6_offOf 60 = .ok (.i2l, 1) := by decide +kernel
theorem dX6_offOf_61 : decode cX6_offOf 61 = .ok (.lstore 4, 2) := by decide +kernel
theorem dX6_offOf_63 : decode cX6_offOf 63 = .ok (.aload_n 0, 1) := by decide +kernel
theorem dX6_offOf_64 : decode cX6_offOf 64 = .ok (.lload 4, 2) := by decide +kernel
theorem dX6_offOf_66 : decode cX6_offOf 66 = .ok (.aload_n 0, 1) := by decide +kernel
theorem dX6_offOf_67 : decode cX6_offOf 67 = .ok (.getfield 33, 3) := by decide +kernel
theorem dX6_offOf_70 : decode cX6_offOf 70 = .ok (.iload_n 1, 1) := by decide +kernel
theorem dX6_offOf_71 : decode cX6_offOf 71 = .ok (.laload, 1) := by decide +kernel
theorem dX6_offOf_72 : decode cX6_offOf 72 = .ok (.lmul, 1) := by decide +kernel
theorem dX6_offOf_73 : decode cX6_offOf 73 = .ok (.lload_n 2, 1) := by decide +kernel
theorem dX6_offOf_74 : decode cX6_offOf 74 = .ok (.lsub, 1) := by decide +kernel
theorem dX6_offOf_75 : decode cX6_offOf 75 = .ok (.putfield 141, 3) := by decide +kernel
theorem dX6_offOf_78 : decode cX6_offOf 78 = .ok (.aload_n 0, 1) := by decide +kernel
theorem dX6_offOf_79 : decode cX6_offOf 79 = .ok (.lload 4, 2) := by decide +kernel
theorem dX6_offOf_81 : decode cX6_offOf 81 = .ok (.aload_n 0, 1) := by decide +kernel
theorem dX6_offOf_82 : decode cX6_offOf 82 = .ok (.getfield 36, 3) := by decide +kernel
theorem dX6_offOf_85 : decode cX6_offOf 85 = .ok (.iload_n 1, 1) := by decide +kernel
theorem dX6_offOf_86 : decode cX6_offOf 86 = .ok (.laload, 1) := by decide +kernel
theorem dX6_offOf_87 : decode cX6_offOf 87 = .ok (.lmul, 1) := by decide +kernel
theorem dX6_offOf_88 : decode cX6_offOf 88 = .ok (.putfield 144, 3) := by decide +kernel
theorem dX6_offOf_91 : decode cX6_offOf 91 = .ok (.return_, 1) := by decide +kernel
theorem dX6_off_0 : decode cX6_off 0 = .ok (.aload_n 0, 1) := by decide +kernel
theorem dX6_off_1 : decode cX6_off 1 = .ok (.iload_n 1, 1) := by decide +kernel
theorem dX6_off_2 : decode cX6_off 2 = .ok (.invokevirtual 58, 3) := by decide +kernel
theorem dX6_off_5 : decode cX6_off 5 = .ok (.ifCond .eq 13, 3) := by decide +kernel
theorem dX6_off_8 : decode cX6_off 8 = .ok (.iload_n 2, 1) := by decide +kernel
theorem dX6_off_9 : decode cX6_off 9 = .ok (.i2l, 1) := by decide +kernel
theorem dX6_off_10 : decode cX6_off 10 = .ok (.lconst 0, 1) := by decide +kernel
theorem dX6_off_11 : decode cX6_off 11 = .ok (.lconst 1, 1) := by decide +kernel
theorem dX6_off_12 : decode cX6_off 12 = .ok (.invokestatic 44, 3) := by decide +kernel
theorem dX6_off_15 : decode cX6_off 15 = .ok (.ifCond .ne 7, 3) := by decide +kernel
theorem dX6_off_18 : decode cX6_off 18 = .ok (.ldc2_w 147, 3) := by decide +kernel
theorem dX6_off_21 : decode cX6_off 21 = .ok (.lreturn, 1) := by decide +kernel
theorem dX6_off_22 : decode cX6_off 22 = .ok (.aload_n 0, 1) := by decide +kernel
theorem dX6_off_23 : decode cX6_off 23 = .ok (.invokevirtual 149, 3) := by decide +kernel
theorem dX6_off_26 : decode cX6_off 26 = .ok (.aload_n 0, 1) := by decide +kernel
theorem dX6_off_27 : decode cX6_off 27 = .ok (.iload_n 1, 1) := by decide +kernel
theorem dX6_off_28 : decode cX6_off 28 = .ok (.invokevirtual 152, 3) := by decide +kernel
theorem dX6_off_31 : decode cX6_off 31 = .ok (.aload_n 0, 1) := by decide +kernel
theorem dX6_off_32 : decode cX6_off 32 = .ok (.getfield 141, 3) := by decide +kernel
theorem dX6_off_35 : decode cX6_off 35 = .ok (.aload_n 0, 1) := by decide +kernel
theorem dX6_off_36 : decode cX6_off 36 = .ok (.getfield 144, 3) := by decide +kernel
theorem dX6_off_39 : decode cX6_off 39 = .ok (.iload_n 2, 1) := by decide +kernel
theorem dX6_off_40 : decode cX6_off 40 = .ok (.invokestatic 101, 3) := by decide +kernel
theorem dX6_off_43 : decode cX6_off 43 = .ok (.lreturn, 1) := by decide +kernel
theorem dX6_before_0 : decode cX6_before 0 = .ok (.lconst 0, 1) := by decide +kernel
theorem dX6_before_1 : decode cX6_before 1 = .ok (.lstore_n 1, 1) := by decide +kernel
theorem dX6_before_2 : decode cX6_before 2 = .ok (.iconst 0, 1) := by decide +kernel
theorem dX6_before_3 : decode cX6_before 3 = .ok (.istore_n 3, 1) := by decide +kernel
theorem dX6_before_4 : decode cX6_before 4 = .ok (.iload_n 3, 1) := by decide +kernel
theorem dX6_before_5 : decode cX6_before 5 = .ok (.aload_n 0, 1) := by decide +kernel
theorem dX6_before_6 : decode cX6_before 6 = .ok (.getfield 40, 3) := by decide +kernel
theorem dX6_before_9 : decode cX6_before 9 = .ok (.if_icmp .ge 55, 3) := by decide +kernel
theorem dX6_before_12 : decode cX6_before 12 = .ok (.iload_n 3, 1) := by decide +kernel
theorem dX6_before_13 : decode cX6_before 13 = .ok (.iconst 1, 1) := by decide +kernel
theorem dX6_before_14 : decode cX6_before 14 = .ok (.iadd, 1) := by decide +kernel
theorem dX6_before_15 : decode cX6_before 15 = .ok (.istore 4, 2) := by decide +kernel
theorem dX6_before_17 : decode cX6_before 17 = .ok (.iload 4, 2) := by decide +kernel
theorem dX6_before_19 : decode cX6_before 19 = .ok (.aload_n 0, 1) := by decide +kernel
theorem dX6_before_20 : decode cX6_before 20 = .ok (.getfield 40, 3) := by decide +kernel
theorem dX6_before_23 : decode cX6_before 23 = .ok (.if_icmp .ge 35, 3) := by decide +kernel
theorem dX6_before_26 : decode cX6_before 26 = .ok (.lload_n 1, 1) := by decide +kernel
theorem dX6_before_27 : decode cX6_before 27 = .ok (.aload_n 0, 1) := by decide +kernel
theorem dX6_before_28 : decode cX6_before 28 = .ok (.iload_n 3, 1) := by decide +kernel
theorem dX6_before_29 : decode cX6_before 29 = .ok (.iload 4, 2) := by decide +kernel
theorem dX6_before_31 : decode cX6_before 31 = .ok (.invokevirtual 118, 3) := by decide +kernel
theorem dX6_before_34 : decode cX6_before 34 = .ok (.ifCond .eq 15, 3) := by decide +kernel
theorem dX6_before_37 : decode cX6_before 37 = .ok (.aload_n 0, 1) := by decide +kernel
theorem dX6_before_38 : decode cX6_before 38 = .ok (.getfield 114, 3) := by decide +kernel
theorem dX6_before_41 : decode cX6_before 41 = .ok (.aload_n 0, 1) := by decide +kernel
theorem dX6_before_42 : decode cX6_before 42 = .ok (.getfield 114, 3) := by decide +kernel
theorem dX6_before_45 : decode cX6_before 45 = .ok (.lmul, 1) := by decide +kernel
theorem dX6_before_46 : decode cX6_before 46 = .ok (.goto 4, 3) := by decide +kernel
theorem dX6_before_49 : decode cX6_before 49 = .ok (.lconst 0, 1) := by decide +kernel
theorem dX6_before_50 : decode cX6_before 50 = .ok (.ladd, 1) := by decide +kernel
theorem dX6_before_51 : decode cX6_before 51 = .ok (.lstore_n 1, 1) := by decide +kernel
theorem dX6_before_52 : decode cX6_before 52 = .ok (.iinc 4 1, 3) := by decide +kernel
theorem dX6_before_55 : decode cX6_before 55 = .ok (.goto (-38), 3) := by decide +kernel
theorem dX6_before_58 : decode cX6_before 58 = .ok (.iinc 3 1, 3) := by decide +kernel
theorem dX6_before_61 : decode cX6_before 61 = .ok (.goto (-57), 3) := by decide +kernel
theorem dX6_before_64 : decode cX6_before 64 = .ok (.lload_n 1, 1) := by decide +kernel
theorem dX6_before_65 : decode cX6_before 65 = .ok (.lreturn, 1) := by decide +kernel
theorem dX6_behind_0 : decode cX6_behind 0 = .ok (.aload_n 0, 1) := by decide +kernel
theorem dX6_behind_1 : decode cX6_behind 1 = .ok (.invokevirtual 149, 3) := by decide +kernel
theorem dX6_behind_4 : decode cX6_behind 4 = .ok (.lconst 0, 1) := by decide +kernel
theorem dX6_behind_5 : decode cX6_behind 5 = .ok (.lstore_n 1, 1) := by decide +kernel
theorem dX6_behind_6 : decode cX6_behind 6 = .ok (.lconst 1, 1) := by decide +kernel
theorem dX6_behind_7 : decode cX6_behind 7 = .ok (.lstore_n 3, 1) := by decide +kernel
theorem dX6_behind_8 : decode cX6_behind 8 = .ok (.iconst 0, 1) := by decide +kernel
theorem dX6_behind_9 : decode cX6_behind 9 = .ok (.istore 5, 2) := by decide +kernel
theorem dX6_behind_11 : decode cX6_behind 11 = .ok (.iload 5, 2) := by decide +kernel
theorem dX6_behind_13 : decode cX6_behind 13 = .ok (.aload_n 0, 1) := by decide +kernel
theorem dX6_behind_14 : decode cX6_behind 14 = .ok (.getfield 40, 3) := by decide +kernel
theorem dX6_behind_17 : decode cX6_behind 17 = .ok (.if_icmp .ge 164, 3) := by decide +kernel
theorem dX6_behind_20 : decode cX6_behind 20 = .ok (.lconst 0, 1) := by decide +kernel
theorem dX6_behind_21 : decode cX6_behind 21 = .ok (.lstore 6, 2) := by decide +kernel
theorem dX6_behind_23 : decode cX6_behind 23 = .ok (.iconst 0, 1) := by decide +kernel
theorem dX6_behind_24 : decode cX6_behind 24 = .ok (.istore 8, 2) := by decide +kernel
theorem dX6_behind_26 : decode cX6_behind 26 = .ok (.iload 8, 2) := by decide +kernel
theorem dX6_behind_28 : decode cX6_behind 28 = .ok (.aload_n 0, 1) := by decide +kernel
theorem dX6_behind_29 : decode cX6_behind 29 = .ok (.getfield 40, 3) := by decide +kernel
theorem dX6_behind_32 : decode cX6_behind 32 = .ok (.if_icmp .ge 94, 3) := by decide +kernel
theorem dX6_behind_35 : decode cX6_behind 35 = .ok (.iload 8, 2) := by decide +kernel
theorem dX6_behind_37 : decode cX6_behind 37 = .ok (.iconst 1, 1) := by decide +kernel
theorem dX6_behind_38 : decode cX6_behind 38 = .ok (.iadd, 1) := by decide +kernel
theorem dX6_behind_39 : decode cX6_behind 39 = .ok (.istore 9, 2) := by decide +kernel
theorem dX6_behind_41 : decode cX6_behind 41 = .ok (.iload 9, 2) := by decide +kernel
theorem dX6_behind_43 : decode cX6_behind 43 = .ok (.aload_n 0, 1) := by decide +kernel
theorem dX6_behind_44 : decode cX6_behind 44 = .ok (.getfield 40, 3) := by decide +kernel
theorem dX6_behind_47 : decode cX6_behind 47 = .ok (.if_icmp .ge 73, 3) := by decide +kernel
theorem dX6_behind_50 : decode cX6_behind 50 = .ok (.lload 6, 2) := by decide +kernel
theorem dX6_behind_52 : decode cX6_behind 52 = .ok (.aload_n 0, 1) := by decide +kernel
theorem dX6_behind_53 : decode cX6_behind 53 = .ok (.getfield 23, 3) := by decide +kernel
theorem dX6_behind_56 : decode cX6_behind 56 = .ok (.iload 8, 2) := by decide +kernel
theorem dX6_behind_58 : decode cX6_behind 58 = .ok (.iaload, 1) := by decide +kernel
theorem dX6_behind_59 : decode cX6_behind 59 = .ok (.iload 5, 2) := by decide +kernel
theorem dX6_behind_61 : decode cX6_behind 61 = .ok (.if_icmp .ne 49, 3) := by decide +kernel
theorem dX6_behind_64 : decode cX6_behind 64 = .ok (.aload_n 0, 1) := by decide +kernel
theorem dX6_behind_65 : decode cX6_behind 65 = .ok (.getfield 23, 3) := by decide +kernel
theorem dX6_behind_68 : decode cX6_behind 68 = .ok (.iload 9, 2) := by decide +kernel
theorem dX6_behind_70 : decode cX6_behind 70 = .ok (.iaload, 1) := by decide +kernel
theorem dX6_behind_71 : decode cX6_behind 71 = .ok (.iload 5, 2) := by decide +kernel
theorem dX6_behind_73 : decode cX6_behind 73 = .ok (.if_icmp .ne 37, 3) := by decide +kernel
theorem dX6_behind_76 : decode cX6_behind 76 = .ok (.aload_n 0, 1) := by decide +kernel
theorem dX6_behind_77 : decode cX6_behind 77 = .ok (.iload 8, 2) := by decide +kernel
theorem dX6_behind_79 : decode cX6_behind 79 = .ok (.iload 9, 2) := by decide +kernel
theorem dX6_behind_81 : decode cX6_behind 81 = .ok (.invokevirtual 118, 3) := by decide +kernel
theorem dX6_behind_84 : decode cX6_behind 84 = .ok (.ifCond .eq 26, 3) := by decide +kernel
theorem dX6_behind_87 : decode cX6_behind 87 = .ok (.aload_n 0, 1) := by decide +kernel
theorem dX6_behind_88 : decode cX6_behind 88 = .ok (.getfield 114, 3) := by decide +kernel
theorem dX6_behind_91 : decode cX6_behind 91 = .ok (.aload_n 0, 1) := by decide +kernel
theorem dX6_behind_92 : decode cX6_behind 92 = .ok (.getfield 33, 3) := by decide +kernel
theorem dX6_behind_95 : decode cX6_behind 95 = .ok (.iload 8, 2) := by decide +kernel
theorem dX6_behind_97 : decode cX6_behind 97 = .ok (.laload, 1) := by decide +kernel
theorem dX6_behind_98 : decode cX6_behind 98 = .ok (.aload_n 0, 1) := by decide +kernel
theorem dX6_behind_99 : decode cX6_behind 99 = .ok (.getfield 33, 3) := by decide +kernel
theorem dX6_behind_102 : decode cX6_behind 102 = .ok (.iload 9, 2) := by decide +kernel
theorem dX6_behind_104 : decode cX6_behind 104 = .ok (.laload, 1) := by decide +kernel
theorem dX6_behind_105 : decode cX6_behind 105 = .ok (.lsub, 1) := by decide +kernel
theorem dX6_behind_106 : decode cX6_behind 106 = .ok (.lmul, 1) := by decide +kernel
theorem dX6_behind_107 : decode cX6_behind 107 = .ok (.goto 4, 3) := by decide +kernel
theorem dX6_behind_110 : decode cX6_behind 110 = .ok (.lconst 0, 1) := by decide +kernel
theorem dX6_behind_111 : decode cX6_behind 111 = .ok (.ladd, 1) := by decide +kernel
theorem dX6_behind_112 : decode cX6_behind 112 = .ok (.lstore 6, 2) := by decide +kernel
theorem dX6_behind_114 : decode cX6_behind 114 = .ok (.iinc 9 1, 3) := by decide +kernel
theorem dX6_behind_117 : decode cX6_behind 117 = .ok (.goto (-76), 3) := by decide +kernel
theorem dX6_behind_120 : decode cX6_behind 120 = .ok (.iinc 8 1, 3) := by decide +kernel
theorem dX6_behind_123 : decode cX6_behind 123 = .ok (.goto (-97), 3) := by decide +kernel
theorem dX6_behind_126 : decode cX6_behind 126 = .ok (.lload 6, 2) := by decide +kernel
theorem dX6_behind_128 : decode cX6_behind 128 = .ok (.lconst 0, 1) := by decide +kernel
theorem dX6_behind_129 : decode cX6_behind 129 = .ok (.lcmp, 1) := by decide +kernel
theorem dX6_behind_130 : decode cX6_behind 130 = .ok (.ifCond .eq 45, 3) := by decide +kernel
theorem dX6_behind_133 : decode cX6_behind 133 = .ok (.lload_n 1, 1) := by decide +kernel
theorem dX6_behind_134 : decode cX6_behind 134 = .ok (.aload_n 0, 1) := by decide +kernel
theorem dX6_behind_135 : decode cX6_behind 135 = .ok (.getfield 36, 3) := by decide +kernel
theorem dX6_behind_138 : decode cX6_behind 138 = .ok (.iload 5, 2) := by decide +kernel
theorem dX6_behind_140 : decode cX6_behind 140 = .ok (.laload, 1) := by decide +kernel
theorem dX6_behind_141 : decode cX6_behind 141 = .ok (.lmul, 1) := by decide +kernel
theorem dX6_behind_142 : decode cX6_behind 142 = .ok (.lload 6, 2) := by decide +kernel
theorem dX6_behind_144 : decode cX6_behind 144 = .ok (.lload_n 3, 1) := by decide +kernel
theorem dX6_behind_145 : decode cX6_behind 145 = .ok (.lmul, 1) := by decide +kernel
theorem dX6_behind_146 : decode cX6_behind 146 = .ok (.ladd, 1) := by decide +kernel
theorem dX6_behind_147 : decode cX6_behind 147 = .ok (.lstore_n 1, 1) := by decide +kernel
theorem dX6_behind_148 : decode cX6_behind 148 = .ok (.lload_n 3, 1) := by decide +kernel
theorem dX6_behind_149 : decode cX6_behind 149 = .ok (.aload_n 0, 1) := by decide +kernel
theorem dX6_behind_150 : decode cX6_behind 150 = .ok (.getfield 36, 3) := by decide +kernel
theorem dX6_behind_153 : decode cX6_behind 153 = .ok (.iload 5, 2) := by decide +kernel
theorem dX6_behind_155 : decode cX6_behind 155 = .ok (.laload, 1) := by decide +kernel
theorem dX6_behind_156 : decode cX6_behind 156 = .ok (.lmul, 1) := by decide +kernel
theorem dX6_behind_157 : decode cX6_behind 157 = .ok (.lstore_n 3, 1) := by decide +kernel
theorem dX6_behind_158 : decode cX6_behind 158 = .ok (.lload_n 1, 1) := by decide +kernel
theorem dX6_behind_159 : decode cX6_behind 159 = .ok (.lload_n 3, 1) := by decide +kernel
theorem dX6_behind_160 : decode cX6_behind 160 = .ok (.invokestatic 84, 3) := by decide +kernel
theorem dX6_behind_163 : decode cX6_behind 163 = .ok (.lstore 8, 2) := by decide +kernel
theorem dX6_behind_165 : decode cX6_behind 165 = .ok (.lload_n 1, 1) := by decide +kernel
theorem dX6_behind_166 : decode cX6_behind 166 = .ok (.lload 8, 2) := by decide +kernel
theorem dX6_behind_168 : decode cX6_behind 168 = .ok (.ldiv, 1) := by decide +kernel
theorem dX6_behind_169 : decode cX6_behind 169 = .ok (.lstore_n 1, 1) := by decide +kernel
theorem dX6_behind_170 : decode cX6_behind 170 = .ok (.lload_n 3, 1) := by decide +kernel
theorem dX6_behind_171 : decode cX6_behind 171 = .ok (.lload 8, 2) := by decide +kernel
theorem dX6_behind_173 : decode cX6_behind 173 = .ok (.ldiv, 1) := by decide +kernel
theorem dX6_behind_174 : decode cX6_behind 174 = .ok (.lstore_n 3, 1) := by decide +kernel
theorem dX6_behind_175 : decode cX6_behind 175 = .ok (.iinc 5 1, 3) := by decide +kernel
theorem dX6_behind_178 : decode cX6_behind 178 = .ok (.goto (-167), 3) := by decide +kernel
theorem dX6_behind_181 : decode cX6_behind 181 = .ok (.aload_n 0, 1) := by decide +kernel
theorem dX6_behind_182 : decode cX6_behind 182 = .ok (.invokevirtual 155, 3) := by decide +kernel
theorem dX6_behind_185 : decode cX6_behind 185 = .ok (.lload_n 1, 1) := by decide +kernel
theorem dX6_behind_186 : decode cX6_behind 186 = .ok (.lneg, 1) := by decide +kernel
theorem dX6_behind_187 : decode cX6_behind 187 = .ok (.lload_n 3, 1) := by decide +kernel
theorem dX6_behind_188 : decode cX6_behind 188 = .ok (.invokestatic 111, 3) := by decide +kernel
theorem dX6_behind_191 : decode cX6_behind 191 = .ok (.ladd, 1) := by decide +kernel
theorem dX6_behind_192 : decode cX6_behind 192 = .ok (.lreturn, 1) := by decide +kernel
theorem dX6_loop_0 : decode cX6_loop 0 = .ok (.aload_n 0, 1) := by decide +kernel
theorem dX6_loop_1 : decode cX6_loop 1 = .ok (.iload_n 1, 1) := by decide +kernel
theorem dX6_loop_2 : decode cX6_loop 2 = .ok (.invokevirtual 58, 3) := by decide +kernel
theorem dX6_loop_5 : decode cX6_loop 5 = .ok (.ifCond .eq 29, 3) := by decide +kernel
theorem dX6_loop_8 : decode cX6_loop 8 = .ok (.aload_n 0, 1) := by decide +kernel
theorem dX6_loop_9 : decode cX6_loop 9 = .ok (.iload_n 2, 1) := by decide +kernel
theorem dX6_loop_10 : decode cX6_loop 10 = .ok (.invokevirtual 58, 3) := by decide +kernel
theorem dX6_loop_13 : decode cX6_loop 13 = .ok (.ifCond .eq 21, 3) := by decide +kernel
theorem dX6_loop_16 : decode cX6_loop 16 = .ok (.aload_n 0, 1) := by decide +kernel
theorem dX6_loop_17 : decode cX6_loop 17 = .ok (.iload_n 3, 1) := by decide +kernel
theorem dX6_loop_18 : decode cX6_loop 18 = .ok (.invokevirtual 58, 3) := by decide +kernel
theorem dX6_loop_21 : decode cX6_loop 21 = .ok (.ifCond .eq 13, 3) := by decide +kernel
theorem dX6_loop_24 : decode cX6_loop 24 = .ok (.iload_n 1, 1) := by decide +kernel
theorem dX6_loop_25 : decode cX6_loop 25 = .ok (.iload_n 2, 1) := by decide +kernel
theorem dX6_loop_26 : decode cX6_loop 26 = .ok (.if_icmp .ge 8, 3) := by decide +kernel
theorem dX6_loop_29 : decode cX6_loop 29 = .ok (.iload_n 2, 1) := by decide +kernel
theorem dX6_loop_30 : decode cX6_loop 30 = .ok (.iload_n 3, 1) := by decide +kernel
theorem dX6_loop_31 : decode cX6_loop 31 = .ok (.if_icmp .lt 6, 3) := by decide +kernel
theorem dX6_loop_34 : decode cX6_loop 34 = .ok (.ldc 117, 2) := by decide +kernel
theorem dX6_loop_36 : decode cX6_loop 36 = .ok (.ireturn, 1) := by decide +kernel
theorem dX6_loop_37 : decode cX6_loop 37 = .ok (.aload_n 0, 1) := by decide +kernel
theorem dX6_loop_38 : decode cX6_loop 38 = .ok (.iload_n 1, 1) := by decide +kernel
theorem dX6_loop_39 : decode cX6_loop 39 = .ok (.iload_n 2, 1) := by decide +kernel
theorem dX6_loop_40 : decode cX6_loop 40 = .ok (.invokevirtual 118, 3) := by decide +kernel
theorem dX6_loop_43 : decode cX6_loop 43 = .ok (.ifCond .ne 6, 3) := by decide +kernel
theorem dX6_loop_46 : decode cX6_loop 46 = .ok (.ldc 121, 2) := by decide +kernel
theorem dX6_loop_48 : decode cX6_loop 48 = .ok (.ireturn, 1) := by decide +kernel
theorem dX6_loop_49 : decode cX6_loop 49 = .ok (.aload_n 0, 1) := by decide +kernel
theorem dX6_loop_50 : decode cX6_loop 50 = .ok (.getfield 114, 3) := by decide +kernel
theorem dX6_loop_53 : decode cX6_loop 53 = .ok (.lstore 4, 2) := by decide +kernel
theorem dX6_loop_55 : decode cX6_loop 55 = .ok (.aload_n 0, 1) := by decide +kernel
theorem dX6_loop_56 : decode cX6_loop 56 = .ok (.iload_n 2, 1) := by decide +kernel
theorem dX6_loop_57 : decode cX6_loop 57 = .ok (.iload_n 3, 1) := by decide +kernel
theorem dX6_loop_58 : decode cX6_loop 58 = .ok (.invokevirtual 118, 3) := by decide +kernel
theorem dX6_loop_61 : decode cX6_loop 61 = .ok (.ifCond .ne 6, 3) := by decide +kernel
theorem dX6_loop_64 : decode cX6_loop 64 = .ok (.ldc 121, 2) := by decide +kernel
theorem dX6_loop_66 : decode cX6_loop 66 = .ok (.ireturn, 1) := by decide +kernel
theorem dX6_loop_67 : decode cX6_loop 67 = .ok (.lload 4, 2) := by decide +kernel
theorem dX6_loop_69 : decode cX6_loop 69 = .ok (.aload_n 0, 1) := by decide +kernel
theorem dX6_loop_70 : decode cX6_loop 70 = .ok (.getfield 114, 3) := by decide +kernel
theorem dX6_loop_73 : decode cX6_loop 73 = .ok (.ladd, 1) := by decide +kernel
theorem dX6_loop_74 : decode cX6_loop 74 = .ok (.lstore 4, 2) := by decide +kernel
theorem dX6_loop_76 : decode cX6_loop 76 = .ok (.aload_n 0, 1) := by decide +kernel
theorem dX6_loop_77 : decode cX6_loop 77 = .ok (.iload_n 1, 1) := by decide +kernel
theorem dX6_loop_78 : decode cX6_loop 78 = .ok (.iload_n 3, 1) := by decide +kernel
theorem dX6_loop_79 : decode cX6_loop 79 = .ok (.invokevirtual 118, 3) := by decide +kernel
theorem dX6_loop_82 : decode cX6_loop 82 = .ok (.ifCond .eq 14, 3) := by decide +kernel
theorem dX6_loop_85 : decode cX6_loop 85 = .ok (.lload 4, 2) := by decide +kernel
theorem dX6_loop_87 : decode cX6_loop 87 = .ok (.aload_n 0, 1) := by decide +kernel
theorem dX6_loop_88 : decode cX6_loop 88 = .ok (.getfield 114, 3) := by decide +kernel
theorem dX6_loop_91 : decode cX6_loop 91 = .ok (.lsub, 1) := by decide +kernel
theorem dX6_loop_92 : decode cX6_loop 92 = .ok (.l2i, 1) := by decide +kernel
theorem dX6_loop_93 : decode cX6_loop 93 = .ok (.goto 5, 3) := by decide +kernel
theorem dX6_loop_96 : decode cX6_loop 96 = .ok (.ldc 121, 2) := by decide +kernel
theorem dX6_loop_98 : decode cX6_loop 98 = .ok (.ireturn, 1) := by decide +kernel
theorem dX6_tone_0 : decode cX6_tone 0 = .ok (.iload_n 1, 1) := by decide +kernel
theorem dX6_tone_1 : decode cX6_tone 1 = .ok (.i2l, 1) := by decide +kernel
theorem dX6_tone_2 : decode cX6_tone 2 = .ok (.lconst 1, 1) := by decide +kernel
theorem dX6_tone_3 : decode cX6_tone 3 = .ok (.ldc2_w 56, 3) := by decide +kernel
theorem dX6_tone_6 : decode cX6_tone 6 = .ok (.invokestatic 44, 3) := by decide +kernel
theorem dX6_tone_9 : decode cX6_tone 9 = .ok (.ifCond .ne 5, 3) := by decide +kernel
theorem dX6_tone_12 : decode cX6_tone 12 = .ok (.iconst (-1), 1) := by decide +kernel
theorem dX6_tone_13 : decode cX6_tone 13 = .ok (.ireturn, 1) := by decide +kernel
theorem dX6_tone_14 : decode cX6_tone 14 = .ok (.aload_n 0, 1) := by decide +kernel
theorem dX6_tone_15 : decode cX6_tone 15 = .ok (.getfield 159, 3) := by decide +kernel
theorem dX6_tone_18 : decode cX6_tone 18 = .ok (.bipush 6, 2) := by decide +kernel
theorem dX6_tone_20 : decode cX6_tone 20 = .ok (.if_icmp .ne 6, 3) := by decide +kernel
theorem dX6_tone_23 : decode cX6_tone 23 = .ok (.bipush (-3), 2) := by decide +kernel
theorem dX6_tone_25 : decode cX6_tone 25 = .ok (.ireturn, 1) := by decide +kernel
theorem dX6_tone_26 : decode cX6_tone 26 = .ok (.aload_n 0, 1) := by decide +kernel
theorem dX6_tone_27 : decode cX6_tone 27 = .ok (.getfield 20, 3) := by decide +kernel
theorem dX6_tone_30 : decode cX6_tone 30 = .ok (.aload_n 0, 1) := by decide +kernel
theorem dX6_tone_31 : decode cX6_tone 31 = .ok (.getfield 159, 3) := by decide +kernel
theorem dX6_tone_34 : decode cX6_tone 34 = .ok (.iload_n 1, 1) := by decide +kernel
theorem dX6_tone_35 : decode cX6_tone 35 = .ok (.iastore, 1) := by decide +kernel
theorem dX6_tone_36 : decode cX6_tone 36 = .ok (.aload_n 0, 1) := by decide +kernel
theorem dX6_tone_37 : decode cX6_tone 37 = .ok (.dup, 1) := by decide +kernel
theorem dX6_tone_38 : decode cX6_tone 38 = .ok (.getfield 159, 3) := by decide +kernel
theorem dX6_tone_41 : decode cX6_tone 41 = .ok (.iconst 1, 1) := by decide +kernel
theorem dX6_tone_42 : decode cX6_tone 42 = .ok (.iadd, 1) := by decide +kernel
theorem dX6_tone_43 : decode cX6_tone 43 = .ok (.putfield 159, 3) := by decide +kernel
theorem dX6_tone_46 : decode cX6_tone 46 = .ok (.aload_n 0, 1) := by decide +kernel
theorem dX6_tone_47 : decode cX6_tone 47 = .ok (.getfield 159, 3) := by decide +kernel
theorem dX6_tone_50 : decode cX6_tone 50 = .ok (.iconst 1, 1) := by decide +kernel
theorem dX6_tone_51 : decode cX6_tone 51 = .ok (.isub, 1) := by decide +kernel
theorem dX6_tone_52 : decode cX6_tone 52 = .ok (.ireturn, 1) := by decide +kernel
theorem dX6_isTone_0 : decode cX6_isTone 0 = .ok (.iload_n 1, 1) := by decide +kernel
theorem dX6_isTone_1 : decode cX6_isTone 1 = .ok (.i2l, 1) := by decide +kernel
theorem dX6_isTone_2 : decode cX6_isTone 2 = .ok (.lconst 0, 1) := by decide +kernel
theorem dX6_isTone_3 : decode cX6_isTone 3 = .ok (.aload_n 0, 1) := by decide +kernel
theorem dX6_isTone_4 : decode cX6_isTone 4 = .ok (.getfield 159, 3) := by decide +kernel
theorem dX6_isTone_7 : decode cX6_isTone 7 = .ok (.iconst 1, 1) := by decide +kernel
theorem dX6_isTone_8 : decode cX6_isTone 8 = .ok (.isub, 1) := by decide +kernel
theorem dX6_isTone_9 : decode cX6_isTone 9 = .ok (.i2l, 1) := by decide +kernel
theorem dX6_isTone_10 : decode cX6_isTone 10 = .ok (.invokestatic 44, 3) := by decide +kernel
theorem dX6_isTone_13 : decode cX6_isTone 13 = .ok (.ireturn, 1) := by decide +kernel
theorem dX6_least_0 : decode cX6_least 0 = .ok (.lload_n 2, 1) := by decide +kernel
theorem dX6_least_1 : decode cX6_least 1 = .ok (.lload_n 0, 1) := by decide +kernel
theorem dX6_least_2 : decode cX6_least 2 = .ok (.lrem, 1) := by decide +kernel
theorem dX6_least_3 : decode cX6_least 3 = .ok (.lstore 4, 2) := by decide +kernel
theorem dX6_least_5 : decode cX6_least 5 = .ok (.lload 4, 2) := by decide +kernel
theorem dX6_least_7 : decode cX6_least 7 = .ok (.lload_n 0, 1) := by decide +kernel
theorem dX6_least_8 : decode cX6_least 8 = .ok (.lload 4, 2) := by decide +kernel
theorem dX6_least_10 : decode cX6_least 10 = .ok (.lsub, 1) := by decide +kernel
theorem dX6_least_11 : decode cX6_least 11 = .ok (.lcmp, 1) := by decide +kernel
theorem dX6_least_12 : decode cX6_least 12 = .ok (.ifCond .ge 8, 3) := by decide +kernel
theorem dX6_least_15 : decode cX6_least 15 = .ok (.lload 4, 2) := by decide +kernel
theorem dX6_least_17 : decode cX6_least 17 = .ok (.goto 7, 3) := by decide +kernel
theorem dX6_least_20 : decode cX6_least 20 = .ok (.lload_n 0, 1) := by decide +kernel
theorem dX6_least_21 : decode cX6_least 21 = .ok (.lload 4, 2) := by decide +kernel
theorem dX6_least_23 : decode cX6_least 23 = .ok (.lsub, 1) := by decide +kernel
theorem dX6_least_24 : decode cX6_least 24 = .ok (.lreturn, 1) := by decide +kernel
theorem dX6_seen_0 : decode cX6_seen 0 = .ok (.aload_n 0, 1) := by decide +kernel
theorem dX6_seen_1 : decode cX6_seen 1 = .ok (.iload_n 1, 1) := by decide +kernel
theorem dX6_seen_2 : decode cX6_seen 2 = .ok (.invokevirtual 162, 3) := by decide +kernel
theorem dX6_seen_5 : decode cX6_seen 5 = .ok (.ifCond .eq 25, 3) := by decide +kernel
theorem dX6_seen_8 : decode cX6_seen 8 = .ok (.iload_n 2, 1) := by decide +kernel
theorem dX6_seen_9 : decode cX6_seen 9 = .ok (.i2l, 1) := by decide +kernel
theorem dX6_seen_10 : decode cX6_seen 10 = .ok (.lconst 1, 1) := by decide +kernel
theorem dX6_seen_11 : decode cX6_seen 11 = .ok (.ldc2_w 56, 3) := by decide +kernel
theorem dX6_seen_14 : decode cX6_seen 14 = .ok (.invokestatic 44, 3) := by decide +kernel
theorem dX6_seen_17 : decode cX6_seen 17 = .ok (.ifCond .eq 13, 3) := by decide +kernel
theorem dX6_seen_20 : decode cX6_seen 20 = .ok (.iload_n 3, 1) := by decide +kernel
theorem dX6_seen_21 : decode cX6_seen 21 = .ok (.i2l, 1) := by decide +kernel
theorem dX6_seen_22 : decode cX6_seen 22 = .ok (.lconst 0, 1) := by decide +kernel
theorem dX6_seen_23 : decode cX6_seen 23 = .ok (.lconst 1, 1) := by decide +kernel
theorem dX6_seen_24 : decode cX6_seen 24 = .ok (.invokestatic 44, 3) := by decide +kernel
theorem dX6_seen_27 : decode cX6_seen 27 = .ok (.ifCond .ne 7, 3) := by decide +kernel
theorem dX6_seen_30 : decode cX6_seen 30 = .ok (.ldc2_w 165, 3) := by decide +kernel
theorem dX6_seen_33 : decode cX6_seen 33 = .ok (.lreturn, 1) := by decide +kernel
theorem dX6_seen_34 : decode cX6_seen 34 = .ok (.aload_n 0, 1) := by decide +kernel
theorem dX6_seen_35 : decode cX6_seen 35 = .ok (.getfield 20, 3) := by decide +kernel
theorem dX6_seen_38 : decode cX6_seen 38 = .ok (.iload_n 1, 1) := by decide +kernel
theorem dX6_seen_39 : decode cX6_seen 39 = .ok (.iaload, 1) := by decide +kernel
theorem dX6_seen_40 : decode cX6_seen 40 = .ok (.i2l, 1) := by decide +kernel
theorem dX6_seen_41 : decode cX6_seen 41 = .ok (.iload_n 2, 1) := by decide +kernel
theorem dX6_seen_42 : decode cX6_seen 42 = .ok (.i2l, 1) := by decide +kernel
theorem dX6_seen_43 : decode cX6_seen 43 = .ok (.invokestatic 167, 3) := by decide +kernel
theorem dX6_seen_46 : decode cX6_seen 46 = .ok (.lstore 4, 2) := by decide +kernel
theorem dX6_seen_48 : decode cX6_seen 48 = .ok (.lload 4, 2) := by decide +kernel
theorem dX6_seen_50 : decode cX6_seen 50 = .ok (.lconst 0, 1) := by decide +kernel
theorem dX6_seen_51 : decode cX6_seen 51 = .ok (.lcmp, 1) := by decide +kernel
theorem dX6_seen_52 : decode cX6_seen 52 = .ok (.ifCond .ne 9, 3) := by decide +kernel
theorem dX6_seen_55 : decode cX6_seen 55 = .ok (.ldc2_w 170, 3) := by decide +kernel
theorem dX6_seen_58 : decode cX6_seen 58 = .ok (.goto 23, 3) := by decide +kernel
theorem dX6_seen_61 : decode cX6_seen 61 = .ok (.aload_n 0, 1) := by decide +kernel
theorem dX6_seen_62 : decode cX6_seen 62 = .ok (.getfield 20, 3) := by decide +kernel
theorem dX6_seen_65 : decode cX6_seen 65 = .ok (.iload_n 1, 1) := by decide +kernel
theorem dX6_seen_66 : decode cX6_seen 66 = .ok (.iaload, 1) := by decide +kernel
theorem dX6_seen_67 : decode cX6_seen 67 = .ok (.i2l, 1) := by decide +kernel
theorem dX6_seen_68 : decode cX6_seen 68 = .ok (.iload_n 2, 1) := by decide +kernel
theorem dX6_seen_69 : decode cX6_seen 69 = .ok (.i2l, 1) := by decide +kernel
theorem dX6_seen_70 : decode cX6_seen 70 = .ok (.lmul, 1) := by decide +kernel
theorem dX6_seen_71 : decode cX6_seen 71 = .ok (.ldc2_w 172, 3) := by decide +kernel
theorem dX6_seen_74 : decode cX6_seen 74 = .ok (.lload 4, 2) := by decide +kernel
theorem dX6_seen_76 : decode cX6_seen 76 = .ok (.lmul, 1) := by decide +kernel
theorem dX6_seen_77 : decode cX6_seen 77 = .ok (.iload_n 3, 1) := by decide +kernel
theorem dX6_seen_78 : decode cX6_seen 78 = .ok (.invokestatic 101, 3) := by decide +kernel
theorem dX6_seen_81 : decode cX6_seen 81 = .ok (.lreturn, 1) := by decide +kernel
theorem dX6_apart_0 : decode cX6_apart 0 = .ok (.aload_n 0, 1) := by decide +kernel
theorem dX6_apart_1 : decode cX6_apart 1 = .ok (.iload_n 1, 1) := by decide +kernel
theorem dX6_apart_2 : decode cX6_apart 2 = .ok (.invokevirtual 162, 3) := by decide +kernel
theorem dX6_apart_5 : decode cX6_apart 5 = .ok (.ifCond .eq 41, 3) := by decide +kernel
theorem dX6_apart_8 : decode cX6_apart 8 = .ok (.aload_n 0, 1) := by decide +kernel
theorem dX6_apart_9 : decode cX6_apart 9 = .ok (.iload_n 2, 1) := by decide +kernel
theorem dX6_apart_10 : decode cX6_apart 10 = .ok (.invokevirtual 162, 3) := by decide +kernel
theorem dX6_apart_13 : decode cX6_apart 13 = .ok (.ifCond .eq 33, 3) := by decide +kernel
theorem dX6_apart_16 : decode cX6_apart 16 = .ok (.iload_n 1, 1) := by decide +kernel
theorem dX6_apart_17 : decode cX6_apart 17 = .ok (.iload_n 2, 1) := by decide +kernel
theorem dX6_apart_18 : decode cX6_apart 18 = .ok (.if_icmp .eq 28, 3) := by decide +kernel
theorem dX6_apart_21 : decode cX6_apart 21 = .ok (.iload_n 3, 1) := by decide +kernel
theorem dX6_apart_22 : decode cX6_apart 22 = .ok (.i2l, 1) := by decide +kernel
theorem dX6_apart_23 : decode cX6_apart 23 = .ok (.lconst 1, 1) := by decide +kernel
theorem dX6_apart_24 : decode cX6_apart 24 = .ok (.ldc2_w 56, 3) := by decide +kernel
theorem dX6_apart_27 : decode cX6_apart 27 = .ok (.invokestatic 44, 3) := by decide +kernel
theorem dX6_apart_30 : decode cX6_apart 30 = .ok (.ifCond .eq 16, 3) := by decide +kernel
theorem dX6_apart_33 : decode cX6_apart 33 = .ok (.iload 4, 2) := by decide +kernel
theorem dX6_apart_35 : decode cX6_apart 35 = .ok (.i2l, 1) := by decide +kernel
theorem dX6_apart_36 : decode cX6_apart 36 = .ok (.lconst 1, 1) := by decide +kernel
theorem dX6_apart_37 : decode cX6_apart 37 = .ok (.ldc2_w 174, 3) := by decide +kernel
theorem dX6_apart_40 : decode cX6_apart 40 = .ok (.invokestatic 44, 3) := by decide +kernel
theorem dX6_apart_43 : decode cX6_apart 43 = .ok (.ifCond .ne 5, 3) := by decide +kernel
theorem dX6_apart_46 : decode cX6_apart 46 = .ok (.iconst (-1), 1) := by decide +kernel
theorem dX6_apart_47 : decode cX6_apart 47 = .ok (.ireturn, 1) := by decide +kernel
theorem dX6_apart_48 : decode cX6_apart 48 = .ok (.aload_n 0, 1) := by decide +kernel
theorem dX6_apart_49 : decode cX6_apart 49 = .ok (.getfield 20, 3) := by decide +kernel
theorem dX6_apart_52 : decode cX6_apart 52 = .ok (.iload_n 1, 1) := by decide +kernel
theorem dX6_apart_53 : decode cX6_apart 53 = .ok (.iaload, 1) := by decide +kernel
theorem dX6_apart_54 : decode cX6_apart 54 = .ok (.i2l, 1) := by decide +kernel
theorem dX6_apart_55 : decode cX6_apart 55 = .ok (.iload_n 3, 1) := by decide +kernel
theorem dX6_apart_56 : decode cX6_apart 56 = .ok (.i2l, 1) := by decide +kernel
theorem dX6_apart_57 : decode cX6_apart 57 = .ok (.invokestatic 167, 3) := by decide +kernel
theorem dX6_apart_60 : decode cX6_apart 60 = .ok (.aload_n 0, 1) := by decide +kernel
theorem dX6_apart_61 : decode cX6_apart 61 = .ok (.getfield 20, 3) := by decide +kernel
theorem dX6_apart_64 : decode cX6_apart 64 = .ok (.iload_n 2, 1) := by decide +kernel
theorem dX6_apart_65 : decode cX6_apart 65 = .ok (.iaload, 1) := by decide +kernel
theorem dX6_apart_66 : decode cX6_apart 66 = .ok (.i2l, 1) := by decide +kernel
theorem dX6_apart_67 : decode cX6_apart 67 = .ok (.lmul, 1) := by decide +kernel
theorem dX6_apart_68 : decode cX6_apart 68 = .ok (.aload_n 0, 1) := by decide +kernel
theorem dX6_apart_69 : decode cX6_apart 69 = .ok (.getfield 20, 3) := by decide +kernel
theorem dX6_apart_72 : decode cX6_apart 72 = .ok (.iload_n 2, 1) := by decide +kernel
theorem dX6_apart_73 : decode cX6_apart 73 = .ok (.iaload, 1) := by decide +kernel
theorem dX6_apart_74 : decode cX6_apart 74 = .ok (.i2l, 1) := by decide +kernel
theorem dX6_apart_75 : decode cX6_apart 75 = .ok (.iload_n 3, 1) := by decide +kernel
theorem dX6_apart_76 : decode cX6_apart 76 = .ok (.i2l, 1) := by decide +kernel
theorem dX6_apart_77 : decode cX6_apart 77 = .ok (.invokestatic 167, 3) := by decide +kernel
theorem dX6_apart_80 : decode cX6_apart 80 = .ok (.aload_n 0, 1) := by decide +kernel
theorem dX6_apart_81 : decode cX6_apart 81 = .ok (.getfield 20, 3) := by decide +kernel
theorem dX6_apart_84 : decode cX6_apart 84 = .ok (.iload_n 1, 1) := by decide +kernel
theorem dX6_apart_85 : decode cX6_apart 85 = .ok (.iaload, 1) := by decide +kernel
theorem dX6_apart_86 : decode cX6_apart 86 = .ok (.i2l, 1) := by decide +kernel
theorem dX6_apart_87 : decode cX6_apart 87 = .ok (.lmul, 1) := by decide +kernel
theorem dX6_apart_88 : decode cX6_apart 88 = .ok (.lsub, 1) := by decide +kernel
theorem dX6_apart_89 : decode cX6_apart 89 = .ok (.lstore 5, 2) := by decide +kernel
theorem dX6_apart_91 : decode cX6_apart 91 = .ok (.lload 5, 2) := by decide +kernel
theorem dX6_apart_93 : decode cX6_apart 93 = .ok (.lconst 0, 1) := by decide +kernel
theorem dX6_apart_94 : decode cX6_apart 94 = .ok (.lcmp, 1) := by decide +kernel
theorem dX6_apart_95 : decode cX6_apart 95 = .ok (.ifCond .ge 9, 3) := by decide +kernel
theorem dX6_apart_98 : decode cX6_apart 98 = .ok (.lload 5, 2) := by decide +kernel
theorem dX6_apart_100 : decode cX6_apart 100 = .ok (.lneg, 1) := by decide +kernel
theorem dX6_apart_101 : decode cX6_apart 101 = .ok (.goto 5, 3) := by decide +kernel
theorem dX6_apart_104 : decode cX6_apart 104 = .ok (.lload 5, 2) := by decide +kernel
theorem dX6_apart_106 : decode cX6_apart 106 = .ok (.lstore 5, 2) := by decide +kernel
theorem dX6_apart_108 : decode cX6_apart 108 = .ok (.iload_n 3, 1) := by decide +kernel
theorem dX6_apart_109 : decode cX6_apart 109 = .ok (.i2l, 1) := by decide +kernel
theorem dX6_apart_110 : decode cX6_apart 110 = .ok (.aload_n 0, 1) := by decide +kernel
theorem dX6_apart_111 : decode cX6_apart 111 = .ok (.getfield 20, 3) := by decide +kernel
theorem dX6_apart_114 : decode cX6_apart 114 = .ok (.iload_n 1, 1) := by decide +kernel
theorem dX6_apart_115 : decode cX6_apart 115 = .ok (.iaload, 1) := by decide +kernel
theorem dX6_apart_116 : decode cX6_apart 116 = .ok (.i2l, 1) := by decide +kernel
theorem dX6_apart_117 : decode cX6_apart 117 = .ok (.lmul, 1) := by decide +kernel
theorem dX6_apart_118 : decode cX6_apart 118 = .ok (.aload_n 0, 1) := by decide +kernel
theorem dX6_apart_119 : decode cX6_apart 119 = .ok (.getfield 20, 3) := by decide +kernel
theorem dX6_apart_122 : decode cX6_apart 122 = .ok (.iload_n 2, 1) := by decide +kernel
theorem dX6_apart_123 : decode cX6_apart 123 = .ok (.iaload, 1) := by decide +kernel
theorem dX6_apart_124 : decode cX6_apart 124 = .ok (.i2l, 1) := by decide +kernel
theorem dX6_apart_125 : decode cX6_apart 125 = .ok (.lmul, 1) := by decide +kernel
theorem dX6_apart_126 : decode cX6_apart 126 = .ok (.lstore 7, 2) := by decide +kernel
theorem dX6_apart_128 : decode cX6_apart 128 = .ok (.ldc2_w 172, 3) := by decide +kernel
theorem dX6_apart_131 : decode cX6_apart 131 = .ok (.iload 4, 2) := by decide +kernel
theorem dX6_apart_133 : decode cX6_apart 133 = .ok (.i2l, 1) := by decide +kernel
theorem dX6_apart_134 : decode cX6_apart 134 = .ok (.lmul, 1) := by decide +kernel
theorem dX6_apart_135 : decode cX6_apart 135 = .ok (.lstore 9, 2) := by decide +kernel
theorem dX6_apart_137 : decode cX6_apart 137 = .ok (.lload 5, 2) := by decide +kernel
theorem dX6_apart_139 : decode cX6_apart 139 = .ok (.lload 7, 2) := by decide +kernel
theorem dX6_apart_141 : decode cX6_apart 141 = .ok (.lload 9, 2) := by decide +kernel
theorem dX6_apart_143 : decode cX6_apart 143 = .ok (.ladd, 1) := by decide +kernel
theorem dX6_apart_144 : decode cX6_apart 144 = .ok (.lconst 1, 1) := by decide +kernel
theorem dX6_apart_145 : decode cX6_apart 145 = .ok (.lsub, 1) := by decide +kernel
theorem dX6_apart_146 : decode cX6_apart 146 = .ok (.lload 9, 2) := by decide +kernel
theorem dX6_apart_148 : decode cX6_apart 148 = .ok (.ldiv, 1) := by decide +kernel
theorem dX6_apart_149 : decode cX6_apart 149 = .ok (.lcmp, 1) := by decide +kernel
theorem dX6_apart_150 : decode cX6_apart 150 = .ok (.ifCond .lt 7, 3) := by decide +kernel
theorem dX6_apart_153 : decode cX6_apart 153 = .ok (.iconst 1, 1) := by decide +kernel
theorem dX6_apart_154 : decode cX6_apart 154 = .ok (.goto 4, 3) := by decide +kernel
theorem dX6_apart_157 : decode cX6_apart 157 = .ok (.iconst 0, 1) := by decide +kernel
theorem dX6_apart_158 : decode cX6_apart 158 = .ok (.ireturn, 1) := by decide +kernel
theorem dX6_box_0 : decode cX6_box 0 = .ok (.iload_n 1, 1) := by decide +kernel
theorem dX6_box_1 : decode cX6_box 1 = .ok (.i2l, 1) := by decide +kernel
theorem dX6_box_2 : decode cX6_box 2 = .ok (.lconst 1, 1) := by decide +kernel
theorem dX6_box_3 : decode cX6_box 3 = .ok (.ldc2_w 176, 3) := by decide +kernel
theorem dX6_box_6 : decode cX6_box 6 = .ok (.invokestatic 44, 3) := by decide +kernel
theorem dX6_box_9 : decode cX6_box 9 = .ok (.ifCond .eq 42, 3) := by decide +kernel
theorem dX6_box_12 : decode cX6_box 12 = .ok (.iload_n 2, 1) := by decide +kernel
theorem dX6_box_13 : decode cX6_box 13 = .ok (.i2l, 1) := by decide +kernel
theorem dX6_box_14 : decode cX6_box 14 = .ok (.ldc2_w 48, 3) := by decide +kernel
theorem dX6_box_17 : decode cX6_box 17 = .ok (.ldc2_w 50, 3) := by decide +kernel
theorem dX6_box_20 : decode cX6_box 20 = .ok (.invokestatic 44, 3) := by decide +kernel
theorem dX6_box_23 : decode cX6_box 23 = .ok (.ifCond .eq 28, 3) := by decide +kernel
theorem dX6_box_26 : decode cX6_box 26 = .ok (.iload_n 3, 1) := by decide +kernel
theorem dX6_box_27 : decode cX6_box 27 = .ok (.i2l, 1) := by decide +kernel
theorem dX6_box_28 : decode cX6_box 28 = .ok (.ldc2_w 48, 3) := by decide +kernel
theorem dX6_box_31 : decode cX6_box 31 = .ok (.ldc2_w 50, 3) := by decide +kernel
theorem dX6_box_34 : decode cX6_box 34 = .ok (.invokestatic 44, 3) := by decide +kernel
theorem dX6_box_37 : decode cX6_box 37 = .ok (.ifCond .eq 14, 3) := by decide +kernel
theorem dX6_box_40 : decode cX6_box 40 = .ok (.iload 4, 2) := by decide +kernel
theorem dX6_box_42 : decode cX6_box 42 = .ok (.i2l, 1) := by decide +kernel
theorem dX6_box_43 : decode cX6_box 43 = .ok (.lconst 0, 1) := by decide +kernel
theorem dX6_box_44 : decode cX6_box 44 = .ok (.lconst 1, 1) := by decide +kernel
theorem dX6_box_45 : decode cX6_box 45 = .ok (.invokestatic 44, 3) := by decide +kernel
theorem dX6_box_48 : decode cX6_box 48 = .ok (.ifCond .ne 7, 3) := by decide +kernel
theorem dX6_box_51 : decode cX6_box 51 = .ok (.ldc2_w 147, 3) := by decide +kernel
theorem dX6_box_54 : decode cX6_box 54 = .ok (.lreturn, 1) := by decide +kernel
theorem dX6_box_55 : decode cX6_box 55 = .ok (.aload_n 0, 1) := by decide +kernel
theorem dX6_box_56 : decode cX6_box 56 = .ok (.invokevirtual 149, 3) := by decide +kernel
theorem dX6_box_59 : decode cX6_box 59 = .ok (.lconst 0, 1) := by decide +kernel
theorem dX6_box_60 : decode cX6_box 60 = .ok (.lstore 5, 2) := by decide +kernel
theorem dX6_box_62 : decode cX6_box 62 = .ok (.lconst 0, 1) := by decide +kernel
theorem dX6_box_63 : decode cX6_box 63 = .ok (.lstore 7, 2) := by decide +kernel
theorem dX6_box_65 : decode cX6_box 65 = .ok (.iconst 0, 1) := by decide +kernel
theorem dX6_box_66 : decode cX6_box 66 = .ok (.istore 9, 2) := by decide +kernel
theorem dX6_box_68 : decode cX6_box 68 = .ok (.iload 9, 2) := by decide +kernel
theorem dX6_box_70 : decode cX6_box 70 = .ok (.aload_n 0, 1) := by decide +kernel
theorem dX6_box_71 : decode cX6_box 71 = .ok (.getfield 40, 3) := by decide +kernel
theorem dX6_box_74 : decode cX6_box 74 = .ok (.if_icmp .ge 230, 3) := by decide +kernel
theorem dX6_box_77 : decode cX6_box 77 = .ok (.aload_n 0, 1) := by decide +kernel
theorem dX6_box_78 : decode cX6_box 78 = .ok (.iload 9, 2) := by decide +kernel
theorem dX6_box_80 : decode cX6_box 80 = .ok (.invokevirtual 152, 3) := by decide +kernel
theorem dX6_box_83 : decode cX6_box 83 = .ok (.iconst 0, 1) := by decide +kernel
theorem dX6_box_84 : decode cX6_box 84 = .ok (.istore 10, 2) := by decide +kernel
theorem dX6_box_86 : decode cX6_box 86 = .ok (.iload 10, 2) := by decide +kernel
theorem dX6_box_88 : decode cX6_box 88 = .ok (.bipush 9, 2) := by decide +kernel
theorem dX6_box_90 : decode cX6_box 90 = .ok (.if_icmp .ge 208, 3) := by decide +kernel
theorem dX6_box_93 : decode cX6_box 93 = .ok (.aload_n 0, 1) := by decide +kernel
theorem dX6_box_94 : decode cX6_box 94 = .ok (.getfield 16, 3) := by decide +kernel
theorem dX6_box_97 : decode cX6_box 97 = .ok (.iload 9, 2) := by decide +kernel
theorem dX6_box_99 : decode cX6_box 99 = .ok (.baload, 1) := by decide +kernel
theorem dX6_box_100 : decode cX6_box 100 = .ok (.ifCond .ne 198, 3) := by decide +kernel
theorem dX6_box_103 : decode cX6_box 103 = .ok (.ldc2_w 62, 3) := by decide +kernel
theorem dX6_box_106 : decode cX6_box 106 = .ok (.aload_n 0, 1) := by decide +kernel
theorem dX6_box_107 : decode cX6_box 107 = .ok (.getfield 7, 3) := by decide +kernel
theorem dX6_box_110 : decode cX6_box 110 = .ok (.bipush 6, 2) := by decide +kernel
theorem dX6_box_112 : decode cX6_box 112 = .ok (.iload 9, 2) := by decide +kernel
theorem dX6_box_114 : decode cX6_box 114 = .ok (.imul, 1) := by decide +kernel
theorem dX6_box_115 : decode cX6_box 115 = .ok (.iaload, 1) := by decide +kernel
theorem dX6_box_116 : decode cX6_box 116 = .ok (.i2l, 1) := by decide +kernel
theorem dX6_box_117 : decode cX6_box 117 = .ok (.lmul, 1) := by decide +kernel
theorem dX6_box_118 : decode cX6_box 118 = .ok (.iload 10, 2) := by decide +kernel
theorem dX6_box_120 : decode cX6_box 120 = .ok (.i2l, 1) := by decide +kernel
theorem dX6_box_121 : decode cX6_box 121 = .ok (.aload_n 0, 1) := by decide +kernel
theorem dX6_box_122 : decode cX6_box 122 = .ok (.getfield 7, 3) := by decide +kernel
theorem dX6_box_125 : decode cX6_box 125 = .ok (.bipush 6, 2) := by decide +kernel
theorem dX6_box_127 : decode cX6_box 127 = .ok (.iload 9, 2) := by decide +kernel
theorem dX6_box_129 : decode cX6_box 129 = .ok (.imul, 1) := by decide +kernel
theorem dX6_box_130 : decode cX6_box 130 = .ok (.iconst 2, 1) := by decide +kernel
theorem dX6_box_131 : decode cX6_box 131 = .ok (.iadd, 1) := by decide +kernel
theorem dX6_box_132 : decode cX6_box 132 = .ok (.iaload, 1) := by decide +kernel
theorem dX6_box_133 : decode cX6_box 133 = .ok (.aload_n 0, 1) := by decide +kernel
theorem dX6_box_134 : decode cX6_box 134 = .ok (.getfield 7, 3) := by decide +kernel
theorem dX6_box_137 : decode cX6_box 137 = .ok (.bipush 6, 2) := by decide +kernel
theorem dX6_box_139 : decode cX6_box 139 = .ok (.iload 9, 2) := by decide +kernel
theorem dX6_box_141 : decode cX6_box 141 = .ok (.imul, 1) := by decide +kernel
theorem dX6_box_142 : decode cX6_box 142 = .ok (.iaload, 1) := by decide +kernel
theorem dX6_box_143 : decode cX6_box 143 = .ok (.isub, 1) := by decide +kernel
theorem dX6_box_144 : decode cX6_box 144 = .ok (.i2l, 1) := by decide +kernel
theorem dX6_box_145 : decode cX6_box 145 = .ok (.lmul, 1) := by decide +kernel
theorem dX6_box_146 : decode cX6_box 146 = .ok (.ladd, 1) := by decide +kernel
theorem dX6_box_147 : decode cX6_box 147 = .ok (.lstore 11, 2) := by decide +kernel
theorem dX6_box_149 : decode cX6_box 149 = .ok (.ldc2_w 62, 3) := by decide +kernel
theorem dX6_box_152 : decode cX6_box 152 = .ok (.aload_n 0, 1) := by decide +kernel
theorem dX6_box_153 : decode cX6_box 153 = .ok (.getfield 7, 3) := by decide +kernel
theorem dX6_box_156 : decode cX6_box 156 = .ok (.bipush 6, 2) := by decide +kernel
theorem dX6_box_158 : decode cX6_box 158 = .ok (.iload 9, 2) := by decide +kernel
theorem dX6_box_160 : decode cX6_box 160 = .ok (.imul, 1) := by decide +kernel
theorem dX6_box_161 : decode cX6_box 161 = .ok (.iconst 1, 1) := by decide +kernel
theorem dX6_box_162 : decode cX6_box 162 = .ok (.iadd, 1) := by decide +kernel
theorem dX6_box_163 : decode cX6_box 163 = .ok (.iaload, 1) := by decide +kernel
theorem dX6_box_164 : decode cX6_box 164 = .ok (.i2l, 1) := by decide +kernel
theorem dX6_box_165 : decode cX6_box 165 = .ok (.lmul, 1) := by decide +kernel
theorem dX6_box_166 : decode cX6_box 166 = .ok (.iload 10, 2) := by decide +kernel
theorem dX6_box_168 : decode cX6_box 168 = .ok (.i2l, 1) := by decide +kernel
theorem dX6_box_169 : decode cX6_box 169 = .ok (.aload_n 0, 1) := by decide +kernel
theorem dX6_box_170 : decode cX6_box 170 = .ok (.getfield 7, 3) := by decide +kernel
theorem dX6_box_173 : decode cX6_box 173 = .ok (.bipush 6, 2) := by decide +kernel
theorem dX6_box_175 : decode cX6_box 175 = .ok (.iload 9, 2) := by decide +kernel
theorem dX6_box_177 : decode cX6_box 177 = .ok (.imul, 1) := by decide +kernel
theorem dX6_box_178 : decode cX6_box 178 = .ok (.iconst 3, 1) := by decide +kernel
theorem dX6_box_179 : decode cX6_box 179 = .ok (.iadd, 1) := by decide +kernel
theorem dX6_box_180 : decode cX6_box 180 = .ok (.iaload, 1) := by decide +kernel
theorem dX6_box_181 : decode cX6_box 181 = .ok (.aload_n 0, 1) := by decide +kernel
theorem dX6_box_182 : decode cX6_box 182 = .ok (.getfield 7, 3) := by decide +kernel
theorem dX6_box_185 : decode cX6_box 185 = .ok (.bipush 6, 2) := by decide +kernel
theorem dX6_box_187 : decode cX6_box 187 = .ok (.iload 9, 2) := by decide +kernel
theorem dX6_box_189 : decode cX6_box 189 = .ok (.imul, 1) := by decide +kernel
theorem dX6_box_190 : decode cX6_box 190 = .ok (.iconst 1, 1) := by decide +kernel
theorem dX6_box_191 : decode cX6_box 191 = .ok (.iadd, 1) := by decide +kernel
theorem dX6_box_192 : decode cX6_box 192 = .ok (.iaload, 1) := by decide +kernel
theorem dX6_box_193 : decode cX6_box 193 = .ok (.isub, 1) := by decide +kernel
theorem dX6_box_194 : decode cX6_box 194 = .ok (.i2l, 1) := by decide +kernel
theorem dX6_box_195 : decode cX6_box 195 = .ok (.lmul, 1) := by decide +kernel
theorem dX6_box_196 : decode cX6_box 196 = .ok (.ladd, 1) := by decide +kernel
theorem dX6_box_197 : decode cX6_box 197 = .ok (.lstore 13, 2) := by decide +kernel
theorem dX6_box_199 : decode cX6_box 199 = .ok (.aload_n 0, 1) := by decide +kernel
theorem dX6_box_200 : decode cX6_box 200 = .ok (.getfield 13, 3) := by decide +kernel
theorem dX6_box_203 : decode cX6_box 203 = .ok (.bipush 9, 2) := by decide +kernel
theorem dX6_box_205 : decode cX6_box 205 = .ok (.iload 9, 2) := by decide +kernel
theorem dX6_box_207 : decode cX6_box 207 = .ok (.imul, 1) := by decide +kernel
theorem dX6_box_208 : decode cX6_box 208 = .ok (.iload 10, 2) := by decide +kernel
theorem dX6_box_210 : decode cX6_box 210 = .ok (.iadd, 1) := by decide +kernel
theorem dX6_box_211 : decode cX6_box 211 = .ok (.iaload, 1) := by decide +kernel
theorem dX6_box_212 : decode cX6_box 212 = .ok (.ldc 39, 2) := by decide +kernel
theorem dX6_box_214 : decode cX6_box 214 = .ok (.if_icmp .eq 78, 3) := by decide +kernel
theorem dX6_box_217 : decode cX6_box 217 = .ok (.lload 11, 2) := by decide +kernel
theorem dX6_box_219 : decode cX6_box 219 = .ok (.ldc2_w 62, 3) := by decide +kernel
theorem dX6_box_222 : decode cX6_box 222 = .ok (.iload_n 1, 1) := by decide +kernel
theorem dX6_box_223 : decode cX6_box 223 = .ok (.i2l, 1) := by decide +kernel
theorem dX6_box_224 : decode cX6_box 224 = .ok (.lmul, 1) := by decide +kernel
theorem dX6_box_225 : decode cX6_box 225 = .ok (.invokestatic 111, 3) := by decide +kernel
theorem dX6_box_228 : decode cX6_box 228 = .ok (.iload_n 2, 1) := by decide +kernel
theorem dX6_box_229 : decode cX6_box 229 = .ok (.i2l, 1) := by decide +kernel
theorem dX6_box_230 : decode cX6_box 230 = .ok (.lcmp, 1) := by decide +kernel
theorem dX6_box_231 : decode cX6_box 231 = .ok (.ifCond .ne 61, 3) := by decide +kernel
theorem dX6_box_234 : decode cX6_box 234 = .ok (.lload 13, 2) := by decide +kernel
theorem dX6_box_236 : decode cX6_box 236 = .ok (.ldc2_w 62, 3) := by decide +kernel
theorem dX6_box_239 : decode cX6_box 239 = .ok (.iload_n 1, 1) := by decide +kernel
theorem dX6_box_240 : decode cX6_box 240 = .ok (.i2l, 1) := by decide +kernel
theorem dX6_box_241 : decode cX6_box 241 = .ok (.lmul, 1) := by decide +kernel
theorem dX6_box_242 : decode cX6_box 242 = .ok (.invokestatic 111, 3) := by decide +kernel
theorem dX6_box_245 : decode cX6_box 245 = .ok (.iload_n 3, 1) := by decide +kernel
theorem dX6_box_246 : decode cX6_box 246 = .ok (.i2l, 1) := by decide +kernel
theorem dX6_box_247 : decode cX6_box 247 = .ok (.lcmp, 1) := by decide +kernel
theorem dX6_box_248 : decode cX6_box 248 = .ok (.ifCond .ne 44, 3) := by decide +kernel
theorem dX6_box_251 : decode cX6_box 251 = .ok (.lload 5, 2) := by decide +kernel
theorem dX6_box_253 : decode cX6_box 253 = .ok (.lconst 1, 1) := by decide +kernel
theorem dX6_box_254 : decode cX6_box 254 = .ok (.ladd, 1) := by decide +kernel
theorem dX6_box_255 : decode cX6_box 255 = .ok (.lstore 5, 2) := by decide +kernel
theorem dX6_box_257 : decode cX6_box 257 = .ok (.lload 7, 2) := by decide +kernel
theorem dX6_box_259 : decode cX6_box 259 = .ok (.ldc2_w 109, 3) := by decide +kernel
theorem dX6_box_262 : decode cX6_box 262 = .ok (.aload_n 0, 1) := by decide +kernel
theorem dX6_box_263 : decode cX6_box 263 = .ok (.getfield 13, 3) := by decide +kernel
theorem dX6_box_266 : decode cX6_box 266 = .ok (.bipush 9, 2) := by decide +kernel
theorem dX6_box_268 : decode cX6_box 268 = .ok (.iload 9, 2) := by decide +kernel
theorem dX6_box_270 : decode cX6_box 270 = .ok (.imul, 1) := by decide +kernel
theorem dX6_box_271 : decode cX6_box 271 = .ok (.iload 10, 2) := by decide +kernel
theorem dX6_box_273 : decode cX6_box 273 = .ok (.iadd, 1) := by decide +kernel
theorem dX6_box_274 : decode cX6_box 274 = .ok (.iaload, 1) := by decide +kernel
theorem dX6_box_275 : decode cX6_box 275 = .ok (.i2l, 1) := by decide +kernel
theorem dX6_box_276 : decode cX6_box 276 = .ok (.lmul, 1) := by decide +kernel
theorem dX6_box_277 : decode cX6_box 277 = .ok (.aload_n 0, 1) := by decide +kernel
theorem dX6_box_278 : decode cX6_box 278 = .ok (.getfield 141, 3) := by decide +kernel
theorem dX6_box_281 : decode cX6_box 281 = .ok (.aload_n 0, 1) := by decide +kernel
theorem dX6_box_282 : decode cX6_box 282 = .ok (.getfield 144, 3) := by decide +kernel
theorem dX6_box_285 : decode cX6_box 285 = .ok (.invokestatic 111, 3) := by decide +kernel
theorem dX6_box_288 : decode cX6_box 288 = .ok (.lsub, 1) := by decide +kernel
theorem dX6_box_289 : decode cX6_box 289 = .ok (.ladd, 1) := by decide +kernel
theorem dX6_box_290 : decode cX6_box 290 = .ok (.lstore 7, 2) := by decide +kernel
theorem dX6_box_292 : decode cX6_box 292 = .ok (.iinc 10 1, 3) := by decide +kernel
theorem dX6_box_295 : decode cX6_box 295 = .ok (.goto (-209), 3) := by decide +kernel
theorem dX6_box_298 : decode cX6_box 298 = .ok (.iinc 9 1, 3) := by decide +kernel
theorem dX6_box_301 : decode cX6_box 301 = .ok (.goto (-233), 3) := by decide +kernel
theorem dX6_box_304 : decode cX6_box 304 = .ok (.iload 4, 2) := by decide +kernel
theorem dX6_box_306 : decode cX6_box 306 = .ok (.ifCond .ne 8, 3) := by decide +kernel
theorem dX6_box_309 : decode cX6_box 309 = .ok (.lload 5, 2) := by decide +kernel
theorem dX6_box_311 : decode cX6_box 311 = .ok (.goto 5, 3) := by decide +kernel
theorem dX6_box_314 : decode cX6_box 314 = .ok (.lload 7, 2) := by decide +kernel
theorem dX6_box_316 : decode cX6_box 316 = .ok (.lreturn, 1) := by decide +kernel
theorem dX6_count_0 : decode cX6_count 0 = .ok (.iconst 0, 1) := by decide +kernel
theorem dX6_count_1 : decode cX6_count 1 = .ok (.istore_n 2, 1) := by decide +kernel
theorem dX6_count_2 : decode cX6_count 2 = .ok (.iconst 0, 1) := by decide +kernel
theorem dX6_count_3 : decode cX6_count 3 = .ok (.istore_n 3, 1) := by decide +kernel
theorem dX6_count_4 : decode cX6_count 4 = .ok (.iconst 0, 1) := by decide +kernel
theorem dX6_count_5 : decode cX6_count 5 = .ok (.istore 4, 2) := by decide +kernel
theorem dX6_count_7 : decode cX6_count 7 = .ok (.iload 4, 2) := by decide +kernel
theorem dX6_count_9 : decode cX6_count 9 = .ok (.bipush 9, 2) := by decide +kernel
theorem dX6_count_11 : decode cX6_count 11 = .ok (.aload_n 0, 1) := by decide +kernel
theorem dX6_count_12 : decode cX6_count 12 = .ok (.getfield 40, 3) := by decide +kernel
theorem dX6_count_15 : decode cX6_count 15 = .ok (.imul, 1) := by decide +kernel
theorem dX6_count_16 : decode cX6_count 16 = .ok (.if_icmp .ge 29, 3) := by decide +kernel
theorem dX6_count_19 : decode cX6_count 19 = .ok (.iload_n 2, 1) := by decide +kernel
theorem dX6_count_20 : decode cX6_count 20 = .ok (.aload_n 0, 1) := by decide +kernel
theorem dX6_count_21 : decode cX6_count 21 = .ok (.getfield 13, 3) := by decide +kernel
theorem dX6_count_24 : decode cX6_count 24 = .ok (.iload 4, 2) := by decide +kernel
theorem dX6_count_26 : decode cX6_count 26 = .ok (.iaload, 1) := by decide +kernel
theorem dX6_count_27 : decode cX6_count 27 = .ok (.ldc 39, 2) := by decide +kernel
theorem dX6_count_29 : decode cX6_count 29 = .ok (.if_icmp .eq 7, 3) := by decide +kernel
theorem dX6_count_32 : decode cX6_count 32 = .ok (.iconst 1, 1) := by decide +kernel
theorem dX6_count_33 : decode cX6_count 33 = .ok (.goto 4, 3) := by decide +kernel
theorem dX6_count_36 : decode cX6_count 36 = .ok (.iconst 0, 1) := by decide +kernel
theorem dX6_count_37 : decode cX6_count 37 = .ok (.iadd, 1) := by decide +kernel
theorem dX6_count_38 : decode cX6_count 38 = .ok (.istore_n 2, 1) := by decide +kernel
theorem dX6_count_39 : decode cX6_count 39 = .ok (.iinc 4 1, 3) := by decide +kernel
theorem dX6_count_42 : decode cX6_count 42 = .ok (.goto (-35), 3) := by decide +kernel
theorem dX6_count_45 : decode cX6_count 45 = .ok (.iconst 0, 1) := by decide +kernel
theorem dX6_count_46 : decode cX6_count 46 = .ok (.istore 4, 2) := by decide +kernel
theorem dX6_count_48 : decode cX6_count 48 = .ok (.iload 4, 2) := by decide +kernel
theorem dX6_count_50 : decode cX6_count 50 = .ok (.aload_n 0, 1) := by decide +kernel
theorem dX6_count_51 : decode cX6_count 51 = .ok (.getfield 40, 3) := by decide +kernel
theorem dX6_count_54 : decode cX6_count 54 = .ok (.if_icmp .ge 27, 3) := by decide +kernel
theorem dX6_count_57 : decode cX6_count 57 = .ok (.iload_n 3, 1) := by decide +kernel
theorem dX6_count_58 : decode cX6_count 58 = .ok (.aload_n 0, 1) := by decide +kernel
theorem dX6_count_59 : decode cX6_count 59 = .ok (.getfield 16, 3) := by decide +kernel
theorem dX6_count_62 : decode cX6_count 62 = .ok (.iload 4, 2) := by decide +kernel
theorem dX6_count_64 : decode cX6_count 64 = .ok (.baload, 1) := by decide +kernel
theorem dX6_count_65 : decode cX6_count 65 = .ok (.ifCond .eq 7, 3) := by decide +kernel
theorem dX6_count_68 : decode cX6_count 68 = .ok (.iconst 1, 1) := by decide +kernel
theorem dX6_count_69 : decode cX6_count 69 = .ok (.goto 4, 3) := by decide +kernel
theorem dX6_count_72 : decode cX6_count 72 = .ok (.iconst 0, 1) := by decide +kernel
theorem dX6_count_73 : decode cX6_count 73 = .ok (.iadd, 1) := by decide +kernel
theorem dX6_count_74 : decode cX6_count 74 = .ok (.istore_n 3, 1) := by decide +kernel
theorem dX6_count_75 : decode cX6_count 75 = .ok (.iinc 4 1, 3) := by decide +kernel
theorem dX6_count_78 : decode cX6_count 78 = .ok (.goto (-30), 3) := by decide +kernel
theorem dX6_count_81 : decode cX6_count 81 = .ok (.iload_n 1, 1) := by decide +kernel
theorem dX6_count_82 : decode cX6_count 82 = .ok (.tableswitch 44 0 3 #[30, 35, 37, 42], 30) := by decide +kernel
theorem dX6_count_112 : decode cX6_count 112 = .ok (.aload_n 0, 1) := by decide +kernel
theorem dX6_count_113 : decode cX6_count 113 = .ok (.getfield 40, 3) := by decide +kernel
theorem dX6_count_116 : decode cX6_count 116 = .ok (.ireturn, 1) := by decide +kernel
theorem dX6_count_117 : decode cX6_count 117 = .ok (.iload_n 2, 1) := by decide +kernel
theorem dX6_count_118 : decode cX6_count 118 = .ok (.ireturn, 1) := by decide +kernel
theorem dX6_count_119 : decode cX6_count 119 = .ok (.aload_n 0, 1) := by decide +kernel
theorem dX6_count_120 : decode cX6_count 120 = .ok (.getfield 159, 3) := by decide +kernel
theorem dX6_count_123 : decode cX6_count 123 = .ok (.ireturn, 1) := by decide +kernel
theorem dX6_count_124 : decode cX6_count 124 = .ok (.iload_n 3, 1) := by decide +kernel
theorem dX6_count_125 : decode cX6_count 125 = .ok (.ireturn, 1) := by decide +kernel
theorem dX6_count_126 : decode cX6_count 126 = .ok (.iconst (-1), 1) := by decide +kernel
theorem dX6_count_127 : decode cX6_count 127 = .ok (.ireturn, 1) := by decide +kernel
