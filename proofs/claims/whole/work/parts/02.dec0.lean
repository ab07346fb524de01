theorem dX0_init_0 : decode cX0_init 0 = .ok (.aload_n 0, 1) := by decide +kernel
theorem dX0_init_1 : decode cX0_init 1 = .ok (.invokespecial 3, 3) := by decide +kernel
theorem dX0_init_4 : decode cX0_init 4 = .ok (.aload_n 0, 1) := by decide +kernel
theorem dX0_init_5 : decode cX0_init 5 = .ok (.bipush 8, 2) := by decide +kernel
theorem dX0_init_7 : decode cX0_init 7 = .ok (.anewarray 9, 3) := by decide +kernel
theorem dX0_init_10 : decode cX0_init 10 = .ok (.putfield 11, 3) := by decide +kernel
theorem dX0_init_13 : decode cX0_init 13 = .ok (.iconst 0, 1) := by decide +kernel
theorem dX0_init_14 : decode cX0_init 14 = .ok (.istore_n 1, 1) := by decide +kernel
theorem dX0_init_15 : decode cX0_init 15 = .ok (.iload_n 1, 1) := by decide +kernel
theorem dX0_init_16 : decode cX0_init 16 = .ok (.bipush 8, 2) := by decide +kernel
theorem dX0_init_18 : decode cX0_init 18 = .ok (.if_icmp .ge 22, 3) := by decide +kernel
theorem dX0_init_21 : decode cX0_init 21 = .ok (.aload_n 0, 1) := by decide +kernel
theorem dX0_init_22 : decode cX0_init 22 = .ok (.getfield 11, 3) := by decide +kernel
theorem dX0_init_25 : decode cX0_init 25 = .ok (.iload_n 1, 1) := by decide +kernel
theorem dX0_init_26 : decode cX0_init 26 = .ok (.new 9, 3) := by decide +kernel
theorem dX0_init_29 : decode cX0_init 29 = .ok (.dup, 1) := by decide +kernel
theorem dX0_init_30 : decode cX0_init 30 = .ok (.invokespecial 17, 3) := by decide +kernel
theorem dX0_init_33 : decode cX0_init 33 = .ok (.aastore, 1) := by decide +kernel
theorem dX0_init_34 : decode cX0_init 34 = .ok (.iinc 1 1, 3) := by decide +kernel
theorem dX0_init_37 : decode cX0_init 37 = .ok (.goto (-22), 3) := by decide +kernel
theorem dX0_init_40 : decode cX0_init 40 = .ok (.aload_n 0, 1) := by decide +kernel
theorem dX0_init_41 : decode cX0_init 41 = .ok (.bipush 8, 2) := by decide +kernel
theorem dX0_init_43 : decode cX0_init 43 = .ok (.bipush 8, 2) := by decide +kernel
theorem dX0_init_45 : decode cX0_init 45 = .ok (.multianewarray 18 2, 4) := by decide +kernel
theorem dX0_init_49 : decode cX0_init 49 = .ok (.putfield 20, 3) := by decide +kernel
theorem dX0_init_52 : decode cX0_init 52 = .ok (.aload_n 0, 1) := by decide +kernel
theorem dX0_init_53 : decode cX0_init 53 = .ok (.bipush 8, 2) := by decide +kernel
theorem dX0_init_55 : decode cX0_init 55 = .ok (.newarray .int, 2) := by decide +kernel
theorem dX0_init_57 : decode cX0_init 57 = .ok (.putfield 23, 3) := by decide +kernel
theorem dX0_init_60 : decode cX0_init 60 = .ok (.aload_n 0, 1) := by decide +kernel
theorem dX0_init_61 : decode cX0_init 61 = .ok (.bipush 8, 2) := by decide +kernel
theorem dX0_init_63 : decode cX0_init 63 = .ok (.newarray .int, 2) := by decide +kernel
theorem dX0_init_65 : decode cX0_init 65 = .ok (.putfield 27, 3) := by decide +kernel
theorem dX0_init_68 : decode cX0_init 68 = .ok (.aload_n 0, 1) := by decide +kernel
theorem dX0_init_69 : decode cX0_init 69 = .ok (.bipush 8, 2) := by decide +kernel
theorem dX0_init_71 : decode cX0_init 71 = .ok (.bipush 8, 2) := by decide +kernel
theorem dX0_init_73 : decode cX0_init 73 = .ok (.multianewarray 30 2, 4) := by decide +kernel
theorem dX0_init_77 : decode cX0_init 77 = .ok (.putfield 32, 3) := by decide +kernel
theorem dX0_init_80 : decode cX0_init 80 = .ok (.aload_n 0, 1) := by decide +kernel
theorem dX0_init_81 : decode cX0_init 81 = .ok (.bipush 8, 2) := by decide +kernel
theorem dX0_init_83 : decode cX0_init 83 = .ok (.newarray .long, 2) := by decide +kernel
theorem dX0_init_85 : decode cX0_init 85 = .ok (.putfield 35, 3) := by decide +kernel
theorem dX0_init_88 : decode cX0_init 88 = .ok (.aload_n 0, 1) := by decide +kernel
theorem dX0_init_89 : decode cX0_init 89 = .ok (.lconst 0, 1) := by decide +kernel
theorem dX0_init_90 : decode cX0_init 90 = .ok (.putfield 39, 3) := by decide +kernel
theorem dX0_init_93 : decode cX0_init 93 = .ok (.aload_n 0, 1) := by decide +kernel
theorem dX0_init_94 : decode cX0_init 94 = .ok (.lconst 1, 1) := by decide +kernel
theorem dX0_init_95 : decode cX0_init 95 = .ok (.putfield 43, 3) := by decide +kernel
theorem dX0_init_98 : decode cX0_init 98 = .ok (.return_, 1) := by decide +kernel
theorem dX0_close_0 : decode cX0_close 0 = .ok (.aload_n 0, 1) := by decide +kernel
theorem dX0_close_1 : decode cX0_close 1 = .ok (.invokevirtual 46, 3) := by decide +kernel
theorem dX0_close_4 : decode cX0_close 4 = .ok (.iconst 0, 1) := by decide +kernel
theorem dX0_close_5 : decode cX0_close 5 = .ok (.istore 4, 2) := by decide +kernel
theorem dX0_close_7 : decode cX0_close 7 = .ok (.iload 4, 2) := by decide +kernel
theorem dX0_close_9 : decode cX0_close 9 = .ok (.iload_n 2, 1) := by decide +kernel
theorem dX0_close_10 : decode cX0_close 10 = .ok (.if_icmp .ge 45, 3) := by decide +kernel
theorem dX0_close_13 : decode cX0_close 13 = .ok (.iconst 0, 1) := by decide +kernel
theorem dX0_close_14 : decode cX0_close 14 = .ok (.istore 5, 2) := by decide +kernel
theorem dX0_close_16 : decode cX0_close 16 = .ok (.iload 5, 2) := by decide +kernel
theorem dX0_close_18 : decode cX0_close 18 = .ok (.iload 4, 2) := by decide +kernel
theorem dX0_close_20 : decode cX0_close 20 = .ok (.if_icmp .ge 29, 3) := by decide +kernel
theorem dX0_close_23 : decode cX0_close 23 = .ok (.aload_n 0, 1) := by decide +kernel
theorem dX0_close_24 : decode cX0_close 24 = .ok (.iload 5, 2) := by decide +kernel
theorem dX0_close_26 : decode cX0_close 26 = .ok (.iload 4, 2) := by decide +kernel
theorem dX0_close_28 : decode cX0_close 28 = .ok (.aload_n 3, 1) := by decide +kernel
theorem dX0_close_29 : decode cX0_close 29 = .ok (.aload_n 1, 1) := by decide +kernel
theorem dX0_close_30 : decode cX0_close 30 = .ok (.iload 5, 2) := by decide +kernel
theorem dX0_close_32 : decode cX0_close 32 = .ok (.aaload, 1) := by decide +kernel
theorem dX0_close_33 : decode cX0_close 33 = .ok (.aload_n 1, 1) := by decide +kernel
theorem dX0_close_34 : decode cX0_close 34 = .ok (.iload 4, 2) := by decide +kernel
theorem dX0_close_36 : decode cX0_close 36 = .ok (.aaload, 1) := by decide +kernel
theorem dX0_close_37 : decode cX0_close 37 = .ok (.invokevirtual 49, 3) := by decide +kernel
theorem dX0_close_40 : decode cX0_close 40 = .ok (.invokevirtual 55, 3) := by decide +kernel
theorem dX0_close_43 : decode cX0_close 43 = .ok (.iinc 5 1, 3) := by decide +kernel
theorem dX0_close_46 : decode cX0_close 46 = .ok (.goto (-30), 3) := by decide +kernel
theorem dX0_close_49 : decode cX0_close 49 = .ok (.iinc 4 1, 3) := by decide +kernel
theorem dX0_close_52 : decode cX0_close 52 = .ok (.goto (-45), 3) := by decide +kernel
theorem dX0_close_55 : decode cX0_close 55 = .ok (.iconst 0, 1) := by decide +kernel
theorem dX0_close_56 : decode cX0_close 56 = .ok (.istore 4, 2) := by decide +kernel
theorem dX0_close_58 : decode cX0_close 58 = .ok (.iload 4, 2) := by decide +kernel
theorem dX0_close_60 : decode cX0_close 60 = .ok (.iload_n 2, 1) := by decide +kernel
theorem dX0_close_61 : decode cX0_close 61 = .ok (.if_icmp .ge 32, 3) := by decide +kernel
theorem dX0_close_64 : decode cX0_close 64 = .ok (.aload_n 0, 1) := by decide +kernel
theorem dX0_close_65 : decode cX0_close 65 = .ok (.getfield 23, 3) := by decide +kernel
theorem dX0_close_68 : decode cX0_close 68 = .ok (.iload 4, 2) := by decide +kernel
theorem dX0_close_70 : decode cX0_close 70 = .ok (.iaload, 1) := by decide +kernel
theorem dX0_close_71 : decode cX0_close 71 = .ok (.iload 4, 2) := by decide +kernel
theorem dX0_close_73 : decode cX0_close 73 = .ok (.if_icmp .ne 14, 3) := by decide +kernel
theorem dX0_close_76 : decode cX0_close 76 = .ok (.aload_n 0, 1) := by decide +kernel
theorem dX0_close_77 : decode cX0_close 77 = .ok (.aload_n 0, 1) := by decide +kernel
theorem dX0_close_78 : decode cX0_close 78 = .ok (.iload 4, 2) := by decide +kernel
theorem dX0_close_80 : decode cX0_close 80 = .ok (.iload_n 2, 1) := by decide +kernel
theorem dX0_close_81 : decode cX0_close 81 = .ok (.invokevirtual 59, 3) := by decide +kernel
theorem dX0_close_84 : decode cX0_close 84 = .ok (.invokevirtual 63, 3) := by decide +kernel
theorem dX0_close_87 : decode cX0_close 87 = .ok (.iinc 4 1, 3) := by decide +kernel
theorem dX0_close_90 : decode cX0_close 90 = .ok (.goto (-32), 3) := by decide +kernel
theorem dX0_close_93 : decode cX0_close 93 = .ok (.return_, 1) := by decide +kernel
theorem dX0_squaresLeft_0 : decode cX0_squaresLeft 0 = .ok (.aload_n 0, 1) := by decide +kernel
theorem dX0_squaresLeft_1 : decode cX0_squaresLeft 1 = .ok (.getfield 43, 3) := by decide +kernel
theorem dX0_squaresLeft_4 : decode cX0_squaresLeft 4 = .ok (.lconst 0, 1) := by decide +kernel
theorem dX0_squaresLeft_5 : decode cX0_squaresLeft 5 = .ok (.lcmp, 1) := by decide +kernel
theorem dX0_squaresLeft_6 : decode cX0_squaresLeft 6 = .ok (.ifCond .gt 5, 3) := by decide +kernel
theorem dX0_squaresLeft_9 : decode cX0_squaresLeft 9 = .ok (.lconst 0, 1) := by decide +kernel
theorem dX0_squaresLeft_10 : decode cX0_squaresLeft 10 = .ok (.lreturn, 1) := by decide +kernel
theorem dX0_squaresLeft_11 : decode cX0_squaresLeft 11 = .ok (.aload_n 0, 1) := by decide +kernel
theorem dX0_squaresLeft_12 : decode cX0_squaresLeft 12 = .ok (.getfield 67, 3) := by decide +kernel
theorem dX0_squaresLeft_15 : decode cX0_squaresLeft 15 = .ok (.aload_n 0, 1) := by decide +kernel
theorem dX0_squaresLeft_16 : decode cX0_squaresLeft 16 = .ok (.getfield 43, 3) := by decide +kernel
theorem dX0_squaresLeft_19 : decode cX0_squaresLeft 19 = .ok (.lmul, 1) := by decide +kernel
theorem dX0_squaresLeft_20 : decode cX0_squaresLeft 20 = .ok (.aload_n 0, 1) := by decide +kernel
theorem dX0_squaresLeft_21 : decode cX0_squaresLeft 21 = .ok (.getfield 39, 3) := by decide +kernel
theorem dX0_squaresLeft_24 : decode cX0_squaresLeft 24 = .ok (.lsub, 1) := by decide +kernel
theorem dX0_squaresLeft_25 : decode cX0_squaresLeft 25 = .ok (.aload_n 0, 1) := by decide +kernel
theorem dX0_squaresLeft_26 : decode cX0_squaresLeft 26 = .ok (.getfield 43, 3) := by decide +kernel
theorem dX0_squaresLeft_29 : decode cX0_squaresLeft 29 = .ok (.invokestatic 70, 3) := by decide +kernel
theorem dX0_squaresLeft_32 : decode cX0_squaresLeft 32 = .ok (.lreturn, 1) := by decide +kernel
theorem dX0_startAnew_0 : decode cX0_startAnew 0 = .ok (.aload_n 0, 1) := by decide +kernel
theorem dX0_startAnew_1 : decode cX0_startAnew 1 = .ok (.iconst 0, 1) := by decide +kernel
theorem dX0_startAnew_2 : decode cX0_startAnew 2 = .ok (.putfield 76, 3) := by decide +kernel
theorem dX0_startAnew_5 : decode cX0_startAnew 5 = .ok (.aload_n 0, 1) := by decide +kernel
theorem dX0_startAnew_6 : decode cX0_startAnew 6 = .ok (.iconst 0, 1) := by decide +kernel
theorem dX0_startAnew_7 : decode cX0_startAnew 7 = .ok (.putfield 80, 3) := by decide +kernel
theorem dX0_startAnew_10 : decode cX0_startAnew 10 = .ok (.aload_n 0, 1) := by decide +kernel
theorem dX0_startAnew_11 : decode cX0_startAnew 11 = .ok (.iconst 0, 1) := by decide +kernel
theorem dX0_startAnew_12 : decode cX0_startAnew 12 = .ok (.putfield 83, 3) := by decide +kernel
theorem dX0_startAnew_15 : decode cX0_startAnew 15 = .ok (.aload_n 0, 1) := by decide +kernel
theorem dX0_startAnew_16 : decode cX0_startAnew 16 = .ok (.lconst 0, 1) := by decide +kernel
theorem dX0_startAnew_17 : decode cX0_startAnew 17 = .ok (.putfield 67, 3) := by decide +kernel
theorem dX0_startAnew_20 : decode cX0_startAnew 20 = .ok (.aload_n 0, 1) := by decide +kernel
theorem dX0_startAnew_21 : decode cX0_startAnew 21 = .ok (.lconst 0, 1) := by decide +kernel
theorem dX0_startAnew_22 : decode cX0_startAnew 22 = .ok (.putfield 39, 3) := by decide +kernel
theorem dX0_startAnew_25 : decode cX0_startAnew 25 = .ok (.aload_n 0, 1) := by decide +kernel
theorem dX0_startAnew_26 : decode cX0_startAnew 26 = .ok (.lconst 1, 1) := by decide +kernel
theorem dX0_startAnew_27 : decode cX0_startAnew 27 = .ok (.putfield 43, 3) := by decide +kernel
theorem dX0_startAnew_30 : decode cX0_startAnew 30 = .ok (.iconst 0, 1) := by decide +kernel
theorem dX0_startAnew_31 : decode cX0_startAnew 31 = .ok (.istore_n 1, 1) := by decide +kernel
theorem dX0_startAnew_32 : decode cX0_startAnew 32 = .ok (.iload_n 1, 1) := by decide +kernel
theorem dX0_startAnew_33 : decode cX0_startAnew 33 = .ok (.bipush 8, 2) := by decide +kernel
theorem dX0_startAnew_35 : decode cX0_startAnew 35 = .ok (.if_icmp .ge 27, 3) := by decide +kernel
theorem dX0_startAnew_38 : decode cX0_startAnew 38 = .ok (.aload_n 0, 1) := by decide +kernel
theorem dX0_startAnew_39 : decode cX0_startAnew 39 = .ok (.getfield 23, 3) := by decide +kernel
theorem dX0_startAnew_42 : decode cX0_startAnew 42 = .ok (.iload_n 1, 1) := by decide +kernel
theorem dX0_startAnew_43 : decode cX0_startAnew 43 = .ok (.iload_n 1, 1) := by decide +kernel
theorem dX0_startAnew_44 : decode cX0_startAnew 44 = .ok (.iastore, 1) := by decide +kernel
theorem dX0_startAnew_45 : decode cX0_startAnew 45 = .ok (.aload_n 0, 1) := by decide +kernel
theorem dX0_startAnew_46 : decode cX0_startAnew 46 = .ok (.getfield 11, 3) := by decide +kernel
theorem dX0_startAnew_49 : decode cX0_startAnew 49 = .ok (.iload_n 1, 1) := by decide +kernel
theorem dX0_startAnew_50 : decode cX0_startAnew 50 = .ok (.aaload, 1) := by decide +kernel
theorem dX0_startAnew_51 : decode cX0_startAnew 51 = .ok (.lconst 0, 1) := by decide +kernel
theorem dX0_startAnew_52 : decode cX0_startAnew 52 = .ok (.lconst 1, 1) := by decide +kernel
theorem dX0_startAnew_53 : decode cX0_startAnew 53 = .ok (.invokevirtual 86, 3) := by decide +kernel
theorem dX0_startAnew_56 : decode cX0_startAnew 56 = .ok (.iinc 1 1, 3) := by decide +kernel
theorem dX0_startAnew_59 : decode cX0_startAnew 59 = .ok (.goto (-27), 3) := by decide +kernel
theorem dX0_startAnew_62 : decode cX0_startAnew 62 = .ok (.return_, 1) := by decide +kernel
theorem dX0_takeDifference_0 : decode cX0_takeDifference 0 = .ok (.aload_n 0, 1) := by decide +kernel
theorem dX0_takeDifference_1 : decode cX0_takeDifference 1 = .ok (.getfield 20, 3) := by decide +kernel
theorem dX0_takeDifference_4 : decode cX0_takeDifference 4 = .ok (.iload_n 1, 1) := by decide +kernel
theorem dX0_takeDifference_5 : decode cX0_takeDifference 5 = .ok (.aaload, 1) := by decide +kernel
theorem dX0_takeDifference_6 : decode cX0_takeDifference 6 = .ok (.iload_n 2, 1) := by decide +kernel
theorem dX0_takeDifference_7 : decode cX0_takeDifference 7 = .ok (.iload_n 3, 1) := by decide +kernel
theorem dX0_takeDifference_8 : decode cX0_takeDifference 8 = .ok (.iastore, 1) := by decide +kernel
theorem dX0_takeDifference_9 : decode cX0_takeDifference 9 = .ok (.iload_n 3, 1) := by decide +kernel
theorem dX0_takeDifference_10 : decode cX0_takeDifference 10 = .ok (.ldc 90, 2) := by decide +kernel
theorem dX0_takeDifference_12 : decode cX0_takeDifference 12 = .ok (.if_icmp .eq 43, 3) := by decide +kernel
theorem dX0_takeDifference_15 : decode cX0_takeDifference 15 = .ok (.aload_n 0, 1) := by decide +kernel
theorem dX0_takeDifference_16 : decode cX0_takeDifference 16 = .ok (.dup, 1) := by decide +kernel
theorem dX0_takeDifference_17 : decode cX0_takeDifference 17 = .ok (.getfield 76, 3) := by decide +kernel
theorem dX0_takeDifference_20 : decode cX0_takeDifference 20 = .ok (.iconst 1, 1) := by decide +kernel
theorem dX0_takeDifference_21 : decode cX0_takeDifference 21 = .ok (.iadd, 1) := by decide +kernel
theorem dX0_takeDifference_22 : decode cX0_takeDifference 22 = .ok (.putfield 76, 3) := by decide +kernel
theorem dX0_takeDifference_25 : decode cX0_takeDifference 25 = .ok (.aload_n 0, 1) := by decide +kernel
theorem dX0_takeDifference_26 : decode cX0_takeDifference 26 = .ok (.dup, 1) := by decide +kernel
theorem dX0_takeDifference_27 : decode cX0_takeDifference 27 = .ok (.getfield 67, 3) := by decide +kernel
theorem dX0_takeDifference_30 : decode cX0_takeDifference 30 = .ok (.iload_n 3, 1) := by decide +kernel
theorem dX0_takeDifference_31 : decode cX0_takeDifference 31 = .ok (.i2l, 1) := by decide +kernel
theorem dX0_takeDifference_32 : decode cX0_takeDifference 32 = .ok (.iload_n 3, 1) := by decide +kernel
theorem dX0_takeDifference_33 : decode cX0_takeDifference 33 = .ok (.i2l, 1) := by decide +kernel
theorem dX0_takeDifference_34 : decode cX0_takeDifference 34 = .ok (.lmul, 1) := by decide +kernel
theorem dX0_takeDifference_35 : decode cX0_takeDifference 35 = .ok (.ladd, 1) := by decide +kernel
theorem dX0_takeDifference_36 : decode cX0_takeDifference 36 = .ok (.putfield 67, 3) := by decide +kernel
theorem dX0_takeDifference_39 : decode cX0_takeDifference 39 = .ok (.aload_n 0, 1) := by decide +kernel
theorem dX0_takeDifference_40 : decode cX0_takeDifference 40 = .ok (.aload_n 0, 1) := by decide +kernel
theorem dX0_takeDifference_41 : decode cX0_takeDifference 41 = .ok (.getfield 23, 3) := by decide +kernel
theorem dX0_takeDifference_44 : decode cX0_takeDifference 44 = .ok (.iload_n 1, 1) := by decide +kernel
theorem dX0_takeDifference_45 : decode cX0_takeDifference 45 = .ok (.iaload, 1) := by decide +kernel
theorem dX0_takeDifference_46 : decode cX0_takeDifference 46 = .ok (.aload_n 0, 1) := by decide +kernel
theorem dX0_takeDifference_47 : decode cX0_takeDifference 47 = .ok (.getfield 23, 3) := by decide +kernel
theorem dX0_takeDifference_50 : decode cX0_takeDifference 50 = .ok (.iload_n 2, 1) := by decide +kernel
theorem dX0_takeDifference_51 : decode cX0_takeDifference 51 = .ok (.iaload, 1) := by decide +kernel
theorem dX0_takeDifference_52 : decode cX0_takeDifference 52 = .ok (.invokevirtual 91, 3) := by decide +kernel
theorem dX0_takeDifference_55 : decode cX0_takeDifference 55 = .ok (.return_, 1) := by decide +kernel
theorem dX0_joinNets_0 : decode cX0_joinNets 0 = .ok (.iload_n 1, 1) := by decide +kernel
theorem dX0_joinNets_1 : decode cX0_joinNets 1 = .ok (.iload_n 2, 1) := by decide +kernel
theorem dX0_joinNets_2 : decode cX0_joinNets 2 = .ok (.invokestatic 95, 3) := by decide +kernel
theorem dX0_joinNets_5 : decode cX0_joinNets 5 = .ok (.istore_n 3, 1) := by decide +kernel
theorem dX0_joinNets_6 : decode cX0_joinNets 6 = .ok (.iload_n 1, 1) := by decide +kernel
theorem dX0_joinNets_7 : decode cX0_joinNets 7 = .ok (.iload_n 2, 1) := by decide +kernel
theorem dX0_joinNets_8 : decode cX0_joinNets 8 = .ok (.invokestatic 98, 3) := by decide +kernel
theorem dX0_joinNets_11 : decode cX0_joinNets 11 = .ok (.istore 4, 2) := by decide +kernel
theorem dX0_joinNets_13 : decode cX0_joinNets 13 = .ok (.iconst 0, 1) := by decide +kernel
theorem dX0_joinNets_14 : decode cX0_joinNets 14 = .ok (.istore 5, 2) := by decide +kernel
theorem dX0_joinNets_16 : decode cX0_joinNets 16 = .ok (.iload 5, 2) := by decide +kernel
theorem dX0_joinNets_18 : decode cX0_joinNets 18 = .ok (.bipush 8, 2) := by decide +kernel
theorem dX0_joinNets_20 : decode cX0_joinNets 20 = .ok (.if_icmp .ge 29, 3) := by decide +kernel
theorem dX0_joinNets_23 : decode cX0_joinNets 23 = .ok (.aload_n 0, 1) := by decide +kernel
theorem dX0_joinNets_24 : decode cX0_joinNets 24 = .ok (.getfield 23, 3) := by decide +kernel
theorem dX0_joinNets_27 : decode cX0_joinNets 27 = .ok (.iload 5, 2) := by decide +kernel
theorem dX0_joinNets_29 : decode cX0_joinNets 29 = .ok (.iaload, 1) := by decide +kernel
theorem dX0_joinNets_30 : decode cX0_joinNets 30 = .ok (.iload 4, 2) := by decide +kernel
theorem dX0_joinNets_32 : decode cX0_joinNets 32 = .ok (.if_icmp .ne 11, 3) := by decide +kernel
theorem dX0_joinNets_35 : decode cX0_joinNets 35 = .ok (.aload_n 0, 1) := by decide +kernel
theorem dX0_joinNets_36 : decode cX0_joinNets 36 = .ok (.getfield 23, 3) := by decide +kernel
theorem dX0_joinNets_39 : decode cX0_joinNets 39 = .ok (.iload 5, 2) := by decide +kernel
theorem dX0_joinNets_41 : decode cX0_joinNets 41 = .ok (.iload_n 3, 1) := by decide +kernel
theorem dX0_joinNets_42 : decode cX0_joinNets 42 = .ok (.iastore, 1) := by decide +kernel
theorem dX0_joinNets_43 : decode cX0_joinNets 43 = .ok (.iinc 5 1, 3) := by decide +kernel
theorem dX0_joinNets_46 : decode cX0_joinNets 46 = .ok (.goto (-30), 3) := by decide +kernel
theorem dX0_joinNets_49 : decode cX0_joinNets 49 = .ok (.return_, 1) := by decide +kernel
theorem dX0_gatherMembers_0 : decode cX0_gatherMembers 0 = .ok (.iconst 0, 1) := by decide +kernel
theorem dX0_gatherMembers_1 : decode cX0_gatherMembers 1 = .ok (.istore_n 3, 1) := by decide +kernel
theorem dX0_gatherMembers_2 : decode cX0_gatherMembers 2 = .ok (.iconst 0, 1) := by decide +kernel
theorem dX0_gatherMembers_3 : decode cX0_gatherMembers 3 = .ok (.istore 4, 2) := by decide +kernel
theorem dX0_gatherMembers_5 : decode cX0_gatherMembers 5 = .ok (.iload 4, 2) := by decide +kernel
theorem dX0_gatherMembers_7 : decode cX0_gatherMembers 7 = .ok (.iload_n 2, 1) := by decide +kernel
theorem dX0_gatherMembers_8 : decode cX0_gatherMembers 8 = .ok (.if_icmp .ge 31, 3) := by decide +kernel
theorem dX0_gatherMembers_11 : decode cX0_gatherMembers 11 = .ok (.aload_n 0, 1) := by decide +kernel
theorem dX0_gatherMembers_12 : decode cX0_gatherMembers 12 = .ok (.getfield 23, 3) := by decide +kernel
theorem dX0_gatherMembers_15 : decode cX0_gatherMembers 15 = .ok (.iload 4, 2) := by decide +kernel
theorem dX0_gatherMembers_17 : decode cX0_gatherMembers 17 = .ok (.iaload, 1) := by decide +kernel
theorem dX0_gatherMembers_18 : decode cX0_gatherMembers 18 = .ok (.iload_n 1, 1) := by decide +kernel
theorem dX0_gatherMembers_19 : decode cX0_gatherMembers 19 = .ok (.if_icmp .ne 14, 3) := by decide +kernel
theorem dX0_gatherMembers_22 : decode cX0_gatherMembers 22 = .ok (.aload_n 0, 1) := by decide +kernel
theorem dX0_gatherMembers_23 : decode cX0_gatherMembers 23 = .ok (.getfield 27, 3) := by decide +kernel
theorem dX0_gatherMembers_26 : decode cX0_gatherMembers 26 = .ok (.iload_n 3, 1) := by decide +kernel
theorem dX0_gatherMembers_27 : decode cX0_gatherMembers 27 = .ok (.iload 4, 2) := by decide +kernel
theorem dX0_gatherMembers_29 : decode cX0_gatherMembers 29 = .ok (.iastore, 1) := by decide +kernel
theorem dX0_gatherMembers_30 : decode cX0_gatherMembers 30 = .ok (.iinc 3 1, 3) := by decide +kernel
theorem dX0_gatherMembers_33 : decode cX0_gatherMembers 33 = .ok (.iinc 4 1, 3) := by decide +kernel
theorem dX0_gatherMembers_36 : decode cX0_gatherMembers 36 = .ok (.goto (-31), 3) := by decide +kernel
theorem dX0_gatherMembers_39 : decode cX0_gatherMembers 39 = .ok (.iload_n 3, 1) := by decide +kernel
theorem dX0_gatherMembers_40 : decode cX0_gatherMembers 40 = .ok (.ireturn, 1) := by decide +kernel
theorem dX0_settleNet_0 : decode cX0_settleNet 0 = .ok (.iload_n 1, 1) := by decide +kernel
theorem dX0_settleNet_1 : decode cX0_settleNet 1 = .ok (.iconst 2, 1) := by decide +kernel
theorem dX0_settleNet_2 : decode cX0_settleNet 2 = .ok (.if_icmp .ge 14, 3) := by decide +kernel
theorem dX0_settleNet_5 : decode cX0_settleNet 5 = .ok (.aload_n 0, 1) := by decide +kernel
theorem dX0_settleNet_6 : decode cX0_settleNet 6 = .ok (.dup, 1) := by decide +kernel
theorem dX0_settleNet_7 : decode cX0_settleNet 7 = .ok (.getfield 83, 3) := by decide +kernel
theorem dX0_settleNet_10 : decode cX0_settleNet 10 = .ok (.iload_n 1, 1) := by decide +kernel
theorem dX0_settleNet_11 : decode cX0_settleNet 11 = .ok (.iadd, 1) := by decide +kernel
theorem dX0_settleNet_12 : decode cX0_settleNet 12 = .ok (.putfield 83, 3) := by decide +kernel
theorem dX0_settleNet_15 : decode cX0_settleNet 15 = .ok (.return_, 1) := by decide +kernel
theorem dX0_settleNet_16 : decode cX0_settleNet 16 = .ok (.aload_n 0, 1) := by decide +kernel
theorem dX0_settleNet_17 : decode cX0_settleNet 17 = .ok (.dup, 1) := by decide +kernel
theorem dX0_settleNet_18 : decode cX0_settleNet 18 = .ok (.getfield 80, 3) := by decide +kernel
theorem dX0_settleNet_21 : decode cX0_settleNet 21 = .ok (.iconst 1, 1) := by decide +kernel
theorem dX0_settleNet_22 : decode cX0_settleNet 22 = .ok (.iadd, 1) := by decide +kernel
theorem dX0_settleNet_23 : decode cX0_settleNet 23 = .ok (.putfield 80, 3) := by decide +kernel
theorem dX0_settleNet_26 : decode cX0_settleNet 26 = .ok (.aload_n 0, 1) := by decide +kernel
theorem dX0_settleNet_27 : decode cX0_settleNet 27 = .ok (.iload_n 1, 1) := by decide +kernel
theorem dX0_settleNet_28 : decode cX0_settleNet 28 = .ok (.invokevirtual 101, 3) := by decide +kernel
theorem dX0_settleNet_31 : decode cX0_settleNet 31 = .ok (.aload_n 0, 1) := by decide +kernel
theorem dX0_settleNet_32 : decode cX0_settleNet 32 = .ok (.iload_n 1, 1) := by decide +kernel
theorem dX0_settleNet_33 : decode cX0_settleNet 33 = .ok (.iconst 1, 1) := by decide +kernel
theorem dX0_settleNet_34 : decode cX0_settleNet 34 = .ok (.isub, 1) := by decide +kernel
theorem dX0_settleNet_35 : decode cX0_settleNet 35 = .ok (.invokevirtual 104, 3) := by decide +kernel
theorem dX0_settleNet_38 : decode cX0_settleNet 38 = .ok (.lstore_n 2, 1) := by decide +kernel
theorem dX0_settleNet_39 : decode cX0_settleNet 39 = .ok (.lload_n 2, 1) := by decide +kernel
theorem dX0_settleNet_40 : decode cX0_settleNet 40 = .ok (.lconst 0, 1) := by decide +kernel
theorem dX0_settleNet_41 : decode cX0_settleNet 41 = .ok (.lcmp, 1) := by decide +kernel
theorem dX0_settleNet_42 : decode cX0_settleNet 42 = .ok (.ifCond .ne 4, 3) := by decide +kernel
theorem dX0_settleNet_45 : decode cX0_settleNet 45 = .ok (.return_, 1) := by decide +kernel
theorem dX0_settleNet_46 : decode cX0_settleNet 46 = .ok (.iconst 0, 1) := by decide +kernel
theorem dX0_settleNet_47 : decode cX0_settleNet 47 = .ok (.istore 4, 2) := by decide +kernel
theorem dX0_settleNet_49 : decode cX0_settleNet 49 = .ok (.iload 4, 2) := by decide +kernel
theorem dX0_settleNet_51 : decode cX0_settleNet 51 = .ok (.iload_n 1, 1) := by decide +kernel
theorem dX0_settleNet_52 : decode cX0_settleNet 52 = .ok (.iconst 1, 1) := by decide +kernel
theorem dX0_settleNet_53 : decode cX0_settleNet 53 = .ok (.isub, 1) := by decide +kernel
theorem dX0_settleNet_54 : decode cX0_settleNet 54 = .ok (.if_icmp .ge 27, 3) := by decide +kernel
theorem dX0_settleNet_57 : decode cX0_settleNet 57 = .ok (.aload_n 0, 1) := by decide +kernel
theorem dX0_settleNet_58 : decode cX0_settleNet 58 = .ok (.getfield 35, 3) := by decide +kernel
theorem dX0_settleNet_61 : decode cX0_settleNet 61 = .ok (.iload 4, 2) := by decide +kernel
theorem dX0_settleNet_63 : decode cX0_settleNet 63 = .ok (.aload_n 0, 1) := by decide +kernel
theorem dX0_settleNet_64 : decode cX0_settleNet 64 = .ok (.getfield 32, 3) := by decide +kernel
theorem dX0_settleNet_67 : decode cX0_settleNet 67 = .ok (.iload 4, 2) := by decide +kernel
theorem dX0_settleNet_69 : decode cX0_settleNet 69 = .ok (.aaload, 1) := by decide +kernel
theorem dX0_settleNet_70 : decode cX0_settleNet 70 = .ok (.iload_n 1, 1) := by decide +kernel
theorem dX0_settleNet_71 : decode cX0_settleNet 71 = .ok (.iconst 1, 1) := by decide +kernel
theorem dX0_settleNet_72 : decode cX0_settleNet 72 = .ok (.isub, 1) := by decide +kernel
theorem dX0_settleNet_73 : decode cX0_settleNet 73 = .ok (.laload, 1) := by decide +kernel
theorem dX0_settleNet_74 : decode cX0_settleNet 74 = .ok (.lastore, 1) := by decide +kernel
theorem dX0_settleNet_75 : decode cX0_settleNet 75 = .ok (.iinc 4 1, 3) := by decide +kernel
theorem dX0_settleNet_78 : decode cX0_settleNet 78 = .ok (.goto (-29), 3) := by decide +kernel
theorem dX0_settleNet_81 : decode cX0_settleNet 81 = .ok (.aload_n 0, 1) := by decide +kernel
theorem dX0_settleNet_82 : decode cX0_settleNet 82 = .ok (.getfield 35, 3) := by decide +kernel
theorem dX0_settleNet_85 : decode cX0_settleNet 85 = .ok (.iload_n 1, 1) := by decide +kernel
theorem dX0_settleNet_86 : decode cX0_settleNet 86 = .ok (.iconst 1, 1) := by decide +kernel
theorem dX0_settleNet_87 : decode cX0_settleNet 87 = .ok (.isub, 1) := by decide +kernel
theorem dX0_settleNet_88 : decode cX0_settleNet 88 = .ok (.lconst 0, 1) := by decide +kernel
theorem dX0_settleNet_89 : decode cX0_settleNet 89 = .ok (.lastore, 1) := by decide +kernel
theorem dX0_settleNet_90 : decode cX0_settleNet 90 = .ok (.aload_n 0, 1) := by decide +kernel
theorem dX0_settleNet_91 : decode cX0_settleNet 91 = .ok (.iload_n 1, 1) := by decide +kernel
theorem dX0_settleNet_92 : decode cX0_settleNet 92 = .ok (.lload_n 2, 1) := by decide +kernel
theorem dX0_settleNet_93 : decode cX0_settleNet 93 = .ok (.invokevirtual 108, 3) := by decide +kernel
theorem dX0_settleNet_96 : decode cX0_settleNet 96 = .ok (.aload_n 0, 1) := by decide +kernel
theorem dX0_settleNet_97 : decode cX0_settleNet 97 = .ok (.iload_n 1, 1) := by decide +kernel
theorem dX0_settleNet_98 : decode cX0_settleNet 98 = .ok (.lload_n 2, 1) := by decide +kernel
theorem dX0_settleNet_99 : decode cX0_settleNet 99 = .ok (.invokevirtual 112, 3) := by decide +kernel
theorem dX0_settleNet_102 : decode cX0_settleNet 102 = .ok (.return_, 1) := by decide +kernel
theorem dX0_fillRows_0 : decode cX0_fillRows 0 = .ok (.iconst 0, 1) := by decide +kernel
theorem dX0_fillRows_1 : decode cX0_fillRows 1 = .ok (.istore_n 2, 1) := by decide +kernel
theorem dX0_fillRows_2 : decode cX0_fillRows 2 = .ok (.iload_n 2, 1) := by decide +kernel
theorem dX0_fillRows_3 : decode cX0_fillRows 3 = .ok (.iload_n 1, 1) := by decide +kernel
theorem dX0_fillRows_4 : decode cX0_fillRows 4 = .ok (.if_icmp .ge 31, 3) := by decide +kernel
theorem dX0_fillRows_7 : decode cX0_fillRows 7 = .ok (.iconst 0, 1) := by decide +kernel
theorem dX0_fillRows_8 : decode cX0_fillRows 8 = .ok (.istore_n 3, 1) := by decide +kernel
theorem dX0_fillRows_9 : decode cX0_fillRows 9 = .ok (.iload_n 3, 1) := by decide +kernel
theorem dX0_fillRows_10 : decode cX0_fillRows 10 = .ok (.iload_n 1, 1) := by decide +kernel
theorem dX0_fillRows_11 : decode cX0_fillRows 11 = .ok (.if_icmp .ge 18, 3) := by decide +kernel
theorem dX0_fillRows_14 : decode cX0_fillRows 14 = .ok (.aload_n 0, 1) := by decide +kernel
theorem dX0_fillRows_15 : decode cX0_fillRows 15 = .ok (.getfield 32, 3) := by decide +kernel
theorem dX0_fillRows_18 : decode cX0_fillRows 18 = .ok (.iload_n 2, 1) := by decide +kernel
theorem dX0_fillRows_19 : decode cX0_fillRows 19 = .ok (.aaload, 1) := by decide +kernel
theorem dX0_fillRows_20 : decode cX0_fillRows 20 = .ok (.iload_n 3, 1) := by decide +kernel
theorem dX0_fillRows_21 : decode cX0_fillRows 21 = .ok (.lconst 0, 1) := by decide +kernel
theorem dX0_fillRows_22 : decode cX0_fillRows 22 = .ok (.lastore, 1) := by decide +kernel
theorem dX0_fillRows_23 : decode cX0_fillRows 23 = .ok (.iinc 3 1, 3) := by decide +kernel
theorem dX0_fillRows_26 : decode cX0_fillRows 26 = .ok (.goto (-17), 3) := by decide +kernel
theorem dX0_fillRows_29 : decode cX0_fillRows 29 = .ok (.iinc 2 1, 3) := by decide +kernel
theorem dX0_fillRows_32 : decode cX0_fillRows 32 = .ok (.goto (-30), 3) := by decide +kernel
theorem dX0_fillRows_35 : decode cX0_fillRows 35 = .ok (.iconst 0, 1) := by decide +kernel
theorem dX0_fillRows_36 : decode cX0_fillRows 36 = .ok (.istore_n 2, 1) := by decide +kernel
theorem dX0_fillRows_37 : decode cX0_fillRows 37 = .ok (.iload_n 2, 1) := by decide +kernel
theorem dX0_fillRows_38 : decode cX0_fillRows 38 = .ok (.iload_n 1, 1) := by decide +kernel
theorem dX0_fillRows_39 : decode cX0_fillRows 39 = .ok (.if_icmp .ge 60, 3) := by decide +kernel
theorem dX0_fillRows_42 : decode cX0_fillRows 42 = .ok (.iconst 0, 1) := by decide +kernel
theorem dX0_fillRows_43 : decode cX0_fillRows 43 = .ok (.istore_n 3, 1) := by decide +kernel
theorem dX0_fillRows_44 : decode cX0_fillRows 44 = .ok (.iload_n 3, 1) := by decide +kernel
theorem dX0_fillRows_45 : decode cX0_fillRows 45 = .ok (.iload_n 2, 1) := by decide +kernel
theorem dX0_fillRows_46 : decode cX0_fillRows 46 = .ok (.if_icmp .ge 47, 3) := by decide +kernel
theorem dX0_fillRows_49 : decode cX0_fillRows 49 = .ok (.aload_n 0, 1) := by decide +kernel
theorem dX0_fillRows_50 : decode cX0_fillRows 50 = .ok (.getfield 20, 3) := by decide +kernel
theorem dX0_fillRows_53 : decode cX0_fillRows 53 = .ok (.aload_n 0, 1) := by decide +kernel
theorem dX0_fillRows_54 : decode cX0_fillRows 54 = .ok (.getfield 27, 3) := by decide +kernel
theorem dX0_fillRows_57 : decode cX0_fillRows 57 = .ok (.iload_n 3, 1) := by decide +kernel
theorem dX0_fillRows_58 : decode cX0_fillRows 58 = .ok (.iaload, 1) := by decide +kernel
theorem dX0_fillRows_59 : decode cX0_fillRows 59 = .ok (.aaload, 1) := by decide +kernel
theorem dX0_fillRows_60 : decode cX0_fillRows 60 = .ok (.aload_n 0, 1) := by decide +kernel
theorem dX0_fillRows_61 : decode cX0_fillRows 61 = .ok (.getfield 27, 3) := by decide +kernel
theorem dX0_fillRows_64 : decode cX0_fillRows 64 = .ok (.iload_n 2, 1) := by decide +kernel
theorem dX0_fillRows_65 : decode cX0_fillRows 65 = .ok (.iaload, 1) := by decide +kernel
theorem dX0_fillRows_66 : decode cX0_fillRows 66 = .ok (.iaload, 1) := by decide +kernel
theorem dX0_fillRows_67 : decode cX0_fillRows 67 = .ok (.istore 4, 2) := by decide +kernel
theorem dX0_fillRows_69 : decode cX0_fillRows 69 = .ok (.iload 4, 2) := by decide +kernel
theorem dX0_fillRows_71 : decode cX0_fillRows 71 = .ok (.ldc 90, 2) := by decide +kernel
theorem dX0_fillRows_73 : decode cX0_fillRows 73 = .ok (.if_icmp .eq 14, 3) := by decide +kernel
theorem dX0_fillRows_76 : decode cX0_fillRows 76 = .ok (.aload_n 0, 1) := by decide +kernel
theorem dX0_fillRows_77 : decode cX0_fillRows 77 = .ok (.iload_n 3, 1) := by decide +kernel
theorem dX0_fillRows_78 : decode cX0_fillRows 78 = .ok (.iload_n 2, 1) := by decide +kernel
theorem dX0_fillRows_79 : decode cX0_fillRows 79 = .ok (.iload 4, 2) := by decide +kernel
theorem dX0_fillRows_81 : decode cX0_fillRows 81 = .ok (.iload_n 1, 1) := by decide +kernel
theorem dX0_fillRows_82 : decode cX0_fillRows 82 = .ok (.iconst 1, 1) := by decide +kernel
theorem dX0_fillRows_83 : decode cX0_fillRows 83 = .ok (.isub, 1) := by decide +kernel
theorem dX0_fillRows_84 : decode cX0_fillRows 84 = .ok (.invokevirtual 115, 3) := by decide +kernel
theorem dX0_fillRows_87 : decode cX0_fillRows 87 = .ok (.iinc 3 1, 3) := by decide +kernel
theorem dX0_fillRows_90 : decode cX0_fillRows 90 = .ok (.goto (-46), 3) := by decide +kernel
theorem dX0_fillRows_93 : decode cX0_fillRows 93 = .ok (.iinc 2 1, 3) := by decide +kernel
theorem dX0_fillRows_96 : decode cX0_fillRows 96 = .ok (.goto (-59), 3) := by decide +kernel
theorem dX0_fillRows_99 : decode cX0_fillRows 99 = .ok (.return_, 1) := by decide +kernel
theorem dX0_addToRows_0 : decode cX0_addToRows 0 = .ok (.aload_n 0, 1) := by decide +kernel
theorem dX0_addToRows_1 : decode cX0_addToRows 1 = .ok (.getfield 32, 3) := by decide +kernel
theorem dX0_addToRows_4 : decode cX0_addToRows 4 = .ok (.iload_n 1, 1) := by decide +kernel
theorem dX0_addToRows_5 : decode cX0_addToRows 5 = .ok (.aaload, 1) := by decide +kernel
theorem dX0_addToRows_6 : decode cX0_addToRows 6 = .ok (.iload_n 1, 1) := by decide +kernel
theorem dX0_addToRows_7 : decode cX0_addToRows 7 = .ok (.dup2, 1) := by decide +kernel
theorem dX0_addToRows_8 : decode cX0_addToRows 8 = .ok (.laload, 1) := by decide +kernel
theorem dX0_addToRows_9 : decode cX0_addToRows 9 = .ok (.lconst 1, 1) := by decide +kernel
theorem dX0_addToRows_10 : decode cX0_addToRows 10 = .ok (.ladd, 1) := by decide +kernel
theorem dX0_addToRows_11 : decode cX0_addToRows 11 = .ok (.lastore, 1) := by decide +kernel
theorem dX0_addToRows_12 : decode cX0_addToRows 12 = .ok (.aload_n 0, 1) := by decide +kernel
theorem dX0_addToRows_13 : decode cX0_addToRows 13 = .ok (.getfield 32, 3) := by decide +kernel
theorem dX0_addToRows_16 : decode cX0_addToRows 16 = .ok (.iload_n 1, 1) := by decide +kernel
theorem dX0_addToRows_17 : decode cX0_addToRows 17 = .ok (.aaload, 1) := by decide +kernel
theorem dX0_addToRows_18 : decode cX0_addToRows 18 = .ok (.iload 4, 2) := by decide +kernel
theorem dX0_addToRows_20 : decode cX0_addToRows 20 = .ok (.dup2, 1) := by decide +kernel
theorem dX0_addToRows_21 : decode cX0_addToRows 21 = .ok (.laload, 1) := by decide +kernel
theorem dX0_addToRows_22 : decode cX0_addToRows 22 = .ok (.iload_n 3, 1) := by decide +kernel
theorem dX0_addToRows_23 : decode cX0_addToRows 23 = .ok (.i2l, 1) := by decide +kernel
theorem dX0_addToRows_24 : decode cX0_addToRows 24 = .ok (.ladd, 1) := by decide +kernel
theorem dX0_addToRows_25 : decode cX0_addToRows 25 = .ok (.lastore, 1) := by decide +kernel
theorem dX0_addToRows_26 : decode cX0_addToRows 26 = .ok (.iload_n 2, 1) := by decide +kernel
theorem dX0_addToRows_27 : decode cX0_addToRows 27 = .ok (.iload 4, 2) := by decide +kernel
theorem dX0_addToRows_29 : decode cX0_addToRows 29 = .ok (.if_icmp .ge 53, 3) := by decide +kernel
theorem dX0_addToRows_32 : decode cX0_addToRows 32 = .ok (.aload_n 0, 1) := by decide +kernel
theorem dX0_addToRows_33 : decode cX0_addToRows 33 = .ok (.getfield 32, 3) := by decide +kernel
theorem dX0_addToRows_36 : decode cX0_addToRows 36 = .ok (.iload_n 1, 1) := by decide +kernel
theorem dX0_addToRows_37 : decode cX0_addToRows 37 = .ok (.aaload, 1) := by decide +kernel
theorem dX0_addToRows_38 : decode cX0_addToRows 38 = .ok (.iload_n 2, 1) := by decide +kernel
theorem dX0_addToRows_39 : decode cX0_addToRows 39 = .ok (.dup2, 1) := by decide +kernel
theorem dX0_addToRows_40 : decode cX0_addToRows 40 = .ok (.laload, 1) := by decide +kernel
theorem dX0_addToRows_41 : decode cX0_addToRows 41 = .ok (.lconst 1, 1) := by decide +kernel
theorem dX0_addToRows_42 : decode cX0_addToRows 42 = .ok (.lsub, 1) := by decide +kernel
theorem dX0_addToRows_43 : decode cX0_addToRows 43 = .ok (.lastore, 1) := by decide +kernel
theorem dX0_addToRows_44 : decode cX0_addToRows 44 = .ok (.aload_n 0, 1) := by decide +kernel
theorem dX0_addToRows_45 : decode cX0_addToRows 45 = .ok (.getfield 32, 3) := by decide +kernel
theorem dX0_addToRows_48 : decode cX0_addToRows 48 = .ok (.iload_n 2, 1) := by decide +kernel
theorem dX0_addToRows_49 : decode cX0_addToRows 49 = .ok (.aaload, 1) := by decide +kernel
theorem dX0_addToRows_50 : decode cX0_addToRows 50 = .ok (.iload_n 1, 1) := by decide +kernel
theorem dX0_addToRows_51 : decode cX0_addToRows 51 = .ok (.dup2, 1) := by decide +kernel
theorem dX0_addToRows_52 : decode cX0_addToRows 52 = .ok (.laload, 1) := by decide +kernel
theorem dX0_addToRows_53 : decode cX0_addToRows 53 = .ok (.lconst 1, 1) := by decide +kernel
theorem dX0_addToRows_54 : decode cX0_addToRows 54 = .ok (.lsub, 1) := by decide +kernel
theorem dX0_addToRows_55 : decode cX0_addToRows 55 = .ok (.lastore, 1) := by decide +kernel
theorem dX0_addToRows_56 : decode cX0_addToRows 56 = .ok (.aload_n 0, 1) := by decide +kernel
theorem dX0_addToRows_57 : decode cX0_addToRows 57 = .ok (.getfield 32, 3) := by decide +kernel
theorem dX0_addToRows_60 : decode cX0_addToRows 60 = .ok (.iload_n 2, 1) := by decide +kernel
theorem dX0_addToRows_61 : decode cX0_addToRows 61 = .ok (.aaload, 1) := by decide +kernel
theorem dX0_addToRows_62 : decode cX0_addToRows 62 = .ok (.iload_n 2, 1) := by decide +kernel
theorem dX0_addToRows_63 : decode cX0_addToRows 63 = .ok (.dup2, 1) := by decide +kernel
theorem dX0_addToRows_64 : decode cX0_addToRows 64 = .ok (.laload, 1) := by decide +kernel
theorem dX0_addToRows_65 : decode cX0_addToRows 65 = .ok (.lconst 1, 1) := by decide +kernel
theorem dX0_addToRows_66 : decode cX0_addToRows 66 = .ok (.ladd, 1) := by decide +kernel
theorem dX0_addToRows_67 : decode cX0_addToRows 67 = .ok (.lastore, 1) := by decide +kernel
theorem dX0_addToRows_68 : decode cX0_addToRows 68 = .ok (.aload_n 0, 1) := by decide +kernel
theorem dX0_addToRows_69 : decode cX0_addToRows 69 = .ok (.getfield 32, 3) := by decide +kernel
theorem dX0_addToRows_72 : decode cX0_addToRows 72 = .ok (.iload_n 2, 1) := by decide +kernel
theorem dX0_addToRows_73 : decode cX0_addToRows 73 = .ok (.aaload, 1) := by decide +kernel
theorem dX0_addToRows_74 : decode cX0_addToRows 74 = .ok (.iload 4, 2) := by decide +kernel
theorem dX0_addToRows_76 : decode cX0_addToRows 76 = .ok (.dup2, 1) := by decide +kernel
theorem dX0_addToRows_77 : decode cX0_addToRows 77 = .ok (.laload, 1) := by decide +kernel
theorem dX0_addToRows_78 : decode cX0_addToRows 78 = .ok (.iload_n 3, 1) := by decide +kernel
theorem dX0_addToRows_79 : decode cX0_addToRows 79 = .ok (.i2l, 1) := by decide +kernel
theorem dX0_addToRows_80 : decode cX0_addToRows 80 = .ok (.lsub, 1) := by decide +kernel
theorem dX0_addToRows_81 : decode cX0_addToRows 81 = .ok (.lastore, 1) := by decide +kernel
theorem dX0_addToRows_82 : decode cX0_addToRows 82 = .ok (.return_, 1) := by decide +kernel
theorem dX0_solveRows_0 : decode cX0_solveRows 0 = .ok (.lconst 1, 1) := by decide +kernel
theorem dX0_solveRows_1 : decode cX0_solveRows 1 = .ok (.lstore_n 2, 1) := by decide +kernel
theorem dX0_solveRows_2 : decode cX0_solveRows 2 = .ok (.iconst 0, 1) := by decide +kernel
theorem dX0_solveRows_3 : decode cX0_solveRows 3 = .ok (.istore 4, 2) := by decide +kernel
theorem dX0_solveRows_5 : decode cX0_solveRows 5 = .ok (.iload 4, 2) := by decide +kernel
theorem dX0_solveRows_7 : decode cX0_solveRows 7 = .ok (.iload_n 1, 1) := by decide +kernel
theorem dX0_solveRows_8 : decode cX0_solveRows 8 = .ok (.if_icmp .ge 65, 3) := by decide +kernel
theorem dX0_solveRows_11 : decode cX0_solveRows 11 = .ok (.aload_n 0, 1) := by decide +kernel
theorem dX0_solveRows_12 : decode cX0_solveRows 12 = .ok (.getfield 32, 3) := by decide +kernel
theorem dX0_solveRows_15 : decode cX0_solveRows 15 = .ok (.iload 4, 2) := by decide +kernel
theorem dX0_solveRows_17 : decode cX0_solveRows 17 = .ok (.aaload, 1) := by decide +kernel
theorem dX0_solveRows_18 : decode cX0_solveRows 18 = .ok (.iload 4, 2) := by decide +kernel
theorem dX0_solveRows_20 : decode cX0_solveRows 20 = .ok (.laload, 1) := by decide +kernel
theorem dX0_solveRows_21 : decode cX0_solveRows 21 = .ok (.lstore 5, 2) := by decide +kernel
theorem dX0_solveRows_23 : decode cX0_solveRows 23 = .ok (.lload 5, 2) := by decide +kernel
theorem dX0_solveRows_25 : decode cX0_solveRows 25 = .ok (.lconst 0, 1) := by decide +kernel
theorem dX0_solveRows_26 : decode cX0_solveRows 26 = .ok (.lcmp, 1) := by decide +kernel
theorem dX0_solveRows_27 : decode cX0_solveRows 27 = .ok (.ifCond .ne 5, 3) := by decide +kernel
theorem dX0_solveRows_30 : decode cX0_solveRows 30 = .ok (.lconst 0, 1) := by decide +kernel
theorem dX0_solveRows_31 : decode cX0_solveRows 31 = .ok (.lreturn, 1) := by decide +kernel
theorem dX0_solveRows_32 : decode cX0_solveRows 32 = .ok (.iconst 0, 1) := by decide +kernel
theorem dX0_solveRows_33 : decode cX0_solveRows 33 = .ok (.istore 7, 2) := by decide +kernel
theorem dX0_solveRows_35 : decode cX0_solveRows 35 = .ok (.iload 7, 2) := by decide +kernel
theorem dX0_solveRows_37 : decode cX0_solveRows 37 = .ok (.iload_n 1, 1) := by decide +kernel
theorem dX0_solveRows_38 : decode cX0_solveRows 38 = .ok (.if_icmp .ge 26, 3) := by decide +kernel
theorem dX0_solveRows_41 : decode cX0_solveRows 41 = .ok (.iload 7, 2) := by decide +kernel
theorem dX0_solveRows_43 : decode cX0_solveRows 43 = .ok (.iload 4, 2) := by decide +kernel
theorem dX0_solveRows_45 : decode cX0_solveRows 45 = .ok (.if_icmp .eq 13, 3) := by decide +kernel
theorem dX0_solveRows_48 : decode cX0_solveRows 48 = .ok (.aload_n 0, 1) := by decide +kernel
theorem dX0_solveRows_49 : decode cX0_solveRows 49 = .ok (.iload 7, 2) := by decide +kernel
theorem dX0_solveRows_51 : decode cX0_solveRows 51 = .ok (.iload 4, 2) := by decide +kernel
theorem dX0_solveRows_53 : decode cX0_solveRows 53 = .ok (.iload_n 1, 1) := by decide +kernel
theorem dX0_solveRows_54 : decode cX0_solveRows 54 = .ok (.lload_n 2, 1) := by decide +kernel
theorem dX0_solveRows_55 : decode cX0_solveRows 55 = .ok (.invokevirtual 119, 3) := by decide +kernel
theorem dX0_solveRows_58 : decode cX0_solveRows 58 = .ok (.iinc 7 1, 3) := by decide +kernel
theorem dX0_solveRows_61 : decode cX0_solveRows 61 = .ok (.goto (-26), 3) := by decide +kernel
theorem dX0_solveRows_64 : decode cX0_solveRows 64 = .ok (.lload 5, 2) := by decide +kernel
theorem dX0_solveRows_66 : decode cX0_solveRows 66 = .ok (.lstore_n 2, 1) := by decide +kernel
theorem dX0_solveRows_67 : decode cX0_solveRows 67 = .ok (.iinc 4 1, 3) := by decide +kernel
theorem dX0_solveRows_70 : decode cX0_solveRows 70 = .ok (.goto (-65), 3) := by decide +kernel
theorem dX0_solveRows_73 : decode cX0_solveRows 73 = .ok (.lload_n 2, 1) := by decide +kernel
theorem dX0_solveRows_74 : decode cX0_solveRows 74 = .ok (.lreturn, 1) := by decide +kernel
theorem dX0_clearRow_0 : decode cX0_clearRow 0 = .ok (.lload 4, 2) := by decide +kernel
theorem dX0_clearRow_2 : decode cX0_clearRow 2 = .ok (.lconst 0, 1) := by decide +kernel
theorem dX0_clearRow_3 : decode cX0_clearRow 3 = .ok (.lcmp, 1) := by decide +kernel
theorem dX0_clearRow_4 : decode cX0_clearRow 4 = .ok (.ifCond .ne 4, 3) := by decide +kernel
theorem dX0_clearRow_7 : decode cX0_clearRow 7 = .ok (.return_, 1) := by decide +kernel
theorem dX0_clearRow_8 : decode cX0_clearRow 8 = .ok (.aload_n 0, 1) := by decide +kernel
theorem dX0_clearRow_9 : decode cX0_clearRow 9 = .ok (.getfield 32, 3) := by decide +kernel
theorem dX0_clearRow_12 : decode cX0_clearRow 12 = .ok (.iload_n 2, 1) := by decide +kernel
theorem dX0_clearRow_13 : decode cX0_clearRow 13 = .ok (.aaload, 1) := by decide +kernel
theorem dX0_clearRow_14 : decode cX0_clearRow 14 = .ok (.iload_n 2, 1) := by decide +kernel
theorem dX0_clearRow_15 : decode cX0_clearRow 15 = .ok (.laload, 1) := by decide +kernel
theorem dX0_clearRow_16 : decode cX0_clearRow 16 = .ok (.lstore 6, 2) := by decide +kernel
theorem dX0_clearRow_18 : decode cX0_clearRow 18 = .ok (.aload_n 0, 1) := by decide +kernel
theorem dX0_clearRow_19 : decode cX0_clearRow 19 = .ok (.getfield 32, 3) := by decide +kernel
theorem dX0_clearRow_22 : decode cX0_clearRow 22 = .ok (.iload_n 1, 1) := by decide +kernel
theorem dX0_clearRow_23 : decode cX0_clearRow 23 = .ok (.aaload, 1) := by decide +kernel
theorem dX0_clearRow_24 : decode cX0_clearRow 24 = .ok (.iload_n 2, 1) := by decide +kernel
theorem dX0_clearRow_25 : decode cX0_clearRow 25 = .ok (.laload, 1) := by decide +kernel
theorem dX0_clearRow_26 : decode cX0_clearRow 26 = .ok (.lstore 8, 2) := by decide +kernel
theorem dX0_clearRow_28 : decode cX0_clearRow 28 = .ok (.iconst 0, 1) := by decide +kernel
theorem dX0_clearRow_29 : decode cX0_clearRow 29 = .ok (.istore 10, 2) := by decide +kernel
theorem dX0_clearRow_31 : decode cX0_clearRow 31 = .ok (.iload 10, 2) := by decide +kernel
theorem dX0_clearRow_33 : decode cX0_clearRow 33 = .ok (.iload_n 3, 1) := by decide +kernel
theorem dX0_clearRow_34 : decode cX0_clearRow 34 = .ok (.if_icmp .gt 46, 3) := by decide +kernel
theorem dX0_clearRow_37 : decode cX0_clearRow 37 = .ok (.aload_n 0, 1) := by decide +kernel
theorem dX0_clearRow_38 : decode cX0_clearRow 38 = .ok (.getfield 32, 3) := by decide +kernel
theorem dX0_clearRow_41 : decode cX0_clearRow 41 = .ok (.iload_n 1, 1) := by decide +kernel
theorem dX0_clearRow_42 : decode cX0_clearRow 42 = .ok (.aaload, 1) := by decide +kernel
theorem dX0_clearRow_43 : decode cX0_clearRow 43 = .ok (.iload 10, 2) := by decide +kernel
theorem dX0_clearRow_45 : decode cX0_clearRow 45 = .ok (.lload 6, 2) := by decide +kernel
theorem dX0_clearRow_47 : decode cX0_clearRow 47 = .ok (.aload_n 0, 1) := by decide +kernel
theorem dX0_clearRow_48 : decode cX0_clearRow 48 = .ok (.getfield 32, 3) := by decide +kernel
theorem dX0_clearRow_51 : decode cX0_clearRow 51 = .ok (.iload_n 1, 1) := by decide +kernel
theorem dX0_clearRow_52 : decode cX0_clearRow 52 = .ok (.aaload, 1) := by decide +kernel
theorem dX0_clearRow_53 : decode cX0_clearRow 53 = .ok (.iload 10, 2) := by decide +kernel
theorem dX0_clearRow_55 : decode cX0_clearRow 55 = .ok (.laload, 1) := by decide +kernel
theorem dX0_clearRow_56 : decode cX0_clearRow 56 = .ok (.lmul, 1) := by decide +kernel
theorem dX0_clearRow_57 : decode cX0_clearRow 57 = .ok (.lload 8, 2) := by decide +kernel
theorem dX0_clearRow_59 : decode cX0_clearRow 59 = .ok (.aload_n 0, 1) := by decide +kernel
theorem dX0_clearRow_60 : decode cX0_clearRow 60 = .ok (.getfield 32, 3) := by decide +kernel
theorem dX0_clearRow_63 : decode cX0_clearRow 63 = .ok (.iload_n 2, 1) := by decide +kernel
theorem dX0_clearRow_64 : decode cX0_clearRow 64 = .ok (.aaload, 1) := by decide +kernel
theorem dX0_clearRow_65 : decode cX0_clearRow 65 = .ok (.iload 10, 2) := by decide +kernel
theorem dX0_clearRow_67 : decode cX0_clearRow 67 = .ok (.laload, 1) := by decide +kernel
theorem dX0_clearRow_68 : decode cX0_clearRow 68 = .ok (.lmul, 1) := by decide +kernel
theorem dX0_clearRow_69 : decode cX0_clearRow 69 = .ok (.lsub, 1) := by decide +kernel
theorem dX0_clearRow_70 : decode cX0_clearRow 70 = .ok (.lload 4, 2) := by decide +kernel
theorem dX0_clearRow_72 : decode cX0_clearRow 72 = .ok (.ldiv, 1) := by decide +kernel
theorem dX0_clearRow_73 : decode cX0_clearRow 73 = .ok (.lastore, 1) := by decide +kernel
theorem dX0_clearRow_74 : decode cX0_clearRow 74 = .ok (.iinc 10 1, 3) := by decide +kernel
theorem dX0_clearRow_77 : decode cX0_clearRow 77 = .ok (.goto (-46), 3) := by decide +kernel
theorem dX0_clearRow_80 : decode cX0_clearRow 80 = .ok (.return_, 1) := by decide +kernel
theorem dX0_tellOffs_0 : decode cX0_tellOffs 0 = .ok (.lconst 0, 1) := by decide +kernel
theorem dX0_tellOffs_1 : decode cX0_tellOffs 1 = .ok (.lstore 4, 2) := by decide +kernel
theorem dX0_tellOffs_3 : decode cX0_tellOffs 3 = .ok (.iconst 0, 1) := by decide +kernel
theorem dX0_tellOffs_4 : decode cX0_tellOffs 4 = .ok (.istore 6, 2) := by decide +kernel
theorem dX0_tellOffs_6 : decode cX0_tellOffs 6 = .ok (.iload 6, 2) := by decide +kernel
theorem dX0_tellOffs_8 : decode cX0_tellOffs 8 = .ok (.iload_n 1, 1) := by decide +kernel
theorem dX0_tellOffs_9 : decode cX0_tellOffs 9 = .ok (.if_icmp .ge 21, 3) := by decide +kernel
theorem dX0_tellOffs_12 : decode cX0_tellOffs 12 = .ok (.lload 4, 2) := by decide +kernel
theorem dX0_tellOffs_14 : decode cX0_tellOffs 14 = .ok (.aload_n 0, 1) := by decide +kernel
theorem dX0_tellOffs_15 : decode cX0_tellOffs 15 = .ok (.getfield 35, 3) := by decide +kernel
theorem dX0_tellOffs_18 : decode cX0_tellOffs 18 = .ok (.iload 6, 2) := by decide +kernel
theorem dX0_tellOffs_20 : decode cX0_tellOffs 20 = .ok (.laload, 1) := by decide +kernel
theorem dX0_tellOffs_21 : decode cX0_tellOffs 21 = .ok (.ladd, 1) := by decide +kernel
theorem dX0_tellOffs_22 : decode cX0_tellOffs 22 = .ok (.lstore 4, 2) := by decide +kernel
theorem dX0_tellOffs_24 : decode cX0_tellOffs 24 = .ok (.iinc 6 1, 3) := by decide +kernel
theorem dX0_tellOffs_27 : decode cX0_tellOffs 27 = .ok (.goto (-21), 3) := by decide +kernel
theorem dX0_tellOffs_30 : decode cX0_tellOffs 30 = .ok (.iconst 0, 1) := by decide +kernel
theorem dX0_tellOffs_31 : decode cX0_tellOffs 31 = .ok (.istore 6, 2) := by decide +kernel
theorem dX0_tellOffs_33 : decode cX0_tellOffs 33 = .ok (.iload 6, 2) := by decide +kernel
theorem dX0_tellOffs_35 : decode cX0_tellOffs 35 = .ok (.iload_n 1, 1) := by decide +kernel
theorem dX0_tellOffs_36 : decode cX0_tellOffs 36 = .ok (.if_icmp .ge 41, 3) := by decide +kernel
theorem dX0_tellOffs_39 : decode cX0_tellOffs 39 = .ok (.aload_n 0, 1) := by decide +kernel
theorem dX0_tellOffs_40 : decode cX0_tellOffs 40 = .ok (.getfield 11, 3) := by decide +kernel
theorem dX0_tellOffs_43 : decode cX0_tellOffs 43 = .ok (.aload_n 0, 1) := by decide +kernel
theorem dX0_tellOffs_44 : decode cX0_tellOffs 44 = .ok (.getfield 27, 3) := by decide +kernel
theorem dX0_tellOffs_47 : decode cX0_tellOffs 47 = .ok (.iload 6, 2) := by decide +kernel
theorem dX0_tellOffs_49 : decode cX0_tellOffs 49 = .ok (.iaload, 1) := by decide +kernel
theorem dX0_tellOffs_50 : decode cX0_tellOffs 50 = .ok (.aaload, 1) := by decide +kernel
theorem dX0_tellOffs_51 : decode cX0_tellOffs 51 = .ok (.iload_n 1, 1) := by decide +kernel
theorem dX0_tellOffs_52 : decode cX0_tellOffs 52 = .ok (.i2l, 1) := by decide +kernel
theorem dX0_tellOffs_53 : decode cX0_tellOffs 53 = .ok (.aload_n 0, 1) := by decide +kernel
theorem dX0_tellOffs_54 : decode cX0_tellOffs 54 = .ok (.getfield 35, 3) := by decide +kernel
theorem dX0_tellOffs_57 : decode cX0_tellOffs 57 = .ok (.iload 6, 2) := by decide +kernel
theorem dX0_tellOffs_59 : decode cX0_tellOffs 59 = .ok (.laload, 1) := by decide +kernel
theorem dX0_tellOffs_60 : decode cX0_tellOffs 60 = .ok (.lmul, 1) := by decide +kernel
theorem dX0_tellOffs_61 : decode cX0_tellOffs 61 = .ok (.lload 4, 2) := by decide +kernel
theorem dX0_tellOffs_63 : decode cX0_tellOffs 63 = .ok (.lsub, 1) := by decide +kernel
theorem dX0_tellOffs_64 : decode cX0_tellOffs 64 = .ok (.iload_n 1, 1) := by decide +kernel
theorem dX0_tellOffs_65 : decode cX0_tellOffs 65 = .ok (.i2l, 1) := by decide +kernel
theorem dX0_tellOffs_66 : decode cX0_tellOffs 66 = .ok (.lload_n 2, 1) := by decide +kernel
theorem dX0_tellOffs_67 : decode cX0_tellOffs 67 = .ok (.lmul, 1) := by decide +kernel
theorem dX0_tellOffs_68 : decode cX0_tellOffs 68 = .ok (.invokevirtual 86, 3) := by decide +kernel
theorem dX0_tellOffs_71 : decode cX0_tellOffs 71 = .ok (.iinc 6 1, 3) := by decide +kernel
theorem dX0_tellOffs_74 : decode cX0_tellOffs 74 = .ok (.goto (-41), 3) := by decide +kernel
theorem dX0_tellOffs_77 : decode cX0_tellOffs 77 = .ok (.return_, 1) := by decide +kernel
theorem dX0_addClosed_0 : decode cX0_addClosed 0 = .ok (.lconst 0, 1) := by decide +kernel
theorem dX0_addClosed_1 : decode cX0_addClosed 1 = .ok (.lstore 4, 2) := by decide +kernel
theorem dX0_addClosed_3 : decode cX0_addClosed 3 = .ok (.iconst 0, 1) := by decide +kernel
theorem dX0_addClosed_4 : decode cX0_addClosed 4 = .ok (.istore 6, 2) := by decide +kernel
theorem dX0_addClosed_6 : decode cX0_addClosed 6 = .ok (.iload 6, 2) := by decide +kernel
theorem dX0_addClosed_8 : decode cX0_addClosed 8 = .ok (.iload_n 1, 1) := by decide +kernel
theorem dX0_addClosed_9 : decode cX0_addClosed 9 = .ok (.if_icmp .ge 78, 3) := by decide +kernel
theorem dX0_addClosed_12 : decode cX0_addClosed 12 = .ok (.iconst 0, 1) := by decide +kernel
theorem dX0_addClosed_13 : decode cX0_addClosed 13 = .ok (.istore 7, 2) := by decide +kernel
theorem dX0_addClosed_15 : decode cX0_addClosed 15 = .ok (.iload 7, 2) := by decide +kernel
theorem dX0_addClosed_17 : decode cX0_addClosed 17 = .ok (.iload 6, 2) := by decide +kernel
theorem dX0_addClosed_19 : decode cX0_addClosed 19 = .ok (.if_icmp .ge 62, 3) := by decide +kernel
theorem dX0_addClosed_22 : decode cX0_addClosed 22 = .ok (.aload_n 0, 1) := by decide +kernel
theorem dX0_addClosed_23 : decode cX0_addClosed 23 = .ok (.getfield 20, 3) := by decide +kernel
theorem dX0_addClosed_26 : decode cX0_addClosed 26 = .ok (.aload_n 0, 1) := by decide +kernel
theorem dX0_addClosed_27 : decode cX0_addClosed 27 = .ok (.getfield 27, 3) := by decide +kernel
theorem dX0_addClosed_30 : decode cX0_addClosed 30 = .ok (.iload 7, 2) := by decide +kernel
theorem dX0_addClosed_32 : decode cX0_addClosed 32 = .ok (.iaload, 1) := by decide +kernel
theorem dX0_addClosed_33 : decode cX0_addClosed 33 = .ok (.aaload, 1) := by decide +kernel
theorem dX0_addClosed_34 : decode cX0_addClosed 34 = .ok (.aload_n 0, 1) := by decide +kernel
theorem dX0_addClosed_35 : decode cX0_addClosed 35 = .ok (.getfield 27, 3) := by decide +kernel
theorem dX0_addClosed_38 : decode cX0_addClosed 38 = .ok (.iload 6, 2) := by decide +kernel
theorem dX0_addClosed_40 : decode cX0_addClosed 40 = .ok (.iaload, 1) := by decide +kernel
theorem dX0_addClosed_41 : decode cX0_addClosed 41 = .ok (.iaload, 1) := by decide +kernel
theorem dX0_addClosed_42 : decode cX0_addClosed 42 = .ok (.istore 8, 2) := by decide +kernel
theorem dX0_addClosed_44 : decode cX0_addClosed 44 = .ok (.iload 8, 2) := by decide +kernel
theorem dX0_addClosed_46 : decode cX0_addClosed 46 = .ok (.ldc 90, 2) := by decide +kernel
theorem dX0_addClosed_48 : decode cX0_addClosed 48 = .ok (.if_icmp .eq 27, 3) := by decide +kernel
theorem dX0_addClosed_51 : decode cX0_addClosed 51 = .ok (.lload 4, 2) := by decide +kernel
theorem dX0_addClosed_53 : decode cX0_addClosed 53 = .ok (.iload 8, 2) := by decide +kernel
theorem dX0_addClosed_55 : decode cX0_addClosed 55 = .ok (.i2l, 1) := by decide +kernel
theorem dX0_addClosed_56 : decode cX0_addClosed 56 = .ok (.aload_n 0, 1) := by decide +kernel
theorem dX0_addClosed_57 : decode cX0_addClosed 57 = .ok (.getfield 35, 3) := by decide +kernel
theorem dX0_addClosed_60 : decode cX0_addClosed 60 = .ok (.iload 7, 2) := by decide +kernel
theorem dX0_addClosed_62 : decode cX0_addClosed 62 = .ok (.laload, 1) := by decide +kernel
theorem dX0_addClosed_63 : decode cX0_addClosed 63 = .ok (.aload_n 0, 1) := by decide +kernel
theorem dX0_addClosed_64 : decode cX0_addClosed 64 = .ok (.getfield 35, 3) := by decide +kernel
theorem dX0_addClosed_67 : decode cX0_addClosed 67 = .ok (.iload 6, 2) := by decide +kernel
theorem dX0_addClosed_69 : decode cX0_addClosed 69 = .ok (.laload, 1) := by decide +kernel
theorem dX0_addClosed_70 : decode cX0_addClosed 70 = .ok (.lsub, 1) := by decide +kernel
theorem dX0_addClosed_71 : decode cX0_addClosed 71 = .ok (.lmul, 1) := by decide +kernel
theorem dX0_addClosed_72 : decode cX0_addClosed 72 = .ok (.ladd, 1) := by decide +kernel
theorem dX0_addClosed_73 : decode cX0_addClosed 73 = .ok (.lstore 4, 2) := by decide +kernel
theorem dX0_addClosed_75 : decode cX0_addClosed 75 = .ok (.iinc 7 1, 3) := by decide +kernel
theorem dX0_addClosed_78 : decode cX0_addClosed 78 = .ok (.goto (-63), 3) := by decide +kernel
theorem dX0_addClosed_81 : decode cX0_addClosed 81 = .ok (.iinc 6 1, 3) := by decide +kernel
theorem dX0_addClosed_84 : decode cX0_addClosed 84 = .ok (.goto (-78), 3) := by decide +kernel
theorem dX0_addClosed_87 : decode cX0_addClosed 87 = .ok (.aload_n 0, 1) := by decide +kernel
theorem dX0_addClosed_88 : decode cX0_addClosed 88 = .ok (.aload_n 0, 1) := by decide +kernel
theorem dX0_addClosed_89 : decode cX0_addClosed 89 = .ok (.getfield 39, 3) := by decide +kernel
theorem dX0_addClosed_92 : decode cX0_addClosed 92 = .ok (.lload_n 2, 1) := by decide +kernel
theorem dX0_addClosed_93 : decode cX0_addClosed 93 = .ok (.lmul, 1) := by decide +kernel
theorem dX0_addClosed_94 : decode cX0_addClosed 94 = .ok (.lload 4, 2) := by decide +kernel
theorem dX0_addClosed_96 : decode cX0_addClosed 96 = .ok (.aload_n 0, 1) := by decide +kernel
theorem dX0_addClosed_97 : decode cX0_addClosed 97 = .ok (.getfield 43, 3) := by decide +kernel
theorem dX0_addClosed_100 : decode cX0_addClosed 100 = .ok (.lmul, 1) := by decide +kernel
theorem dX0_addClosed_101 : decode cX0_addClosed 101 = .ok (.ladd, 1) := by decide +kernel
theorem dX0_addClosed_102 : decode cX0_addClosed 102 = .ok (.putfield 39, 3) := by decide +kernel
theorem dX0_addClosed_105 : decode cX0_addClosed 105 = .ok (.aload_n 0, 1) := by decide +kernel
theorem dX0_addClosed_106 : decode cX0_addClosed 106 = .ok (.dup, 1) := by decide +kernel
theorem dX0_addClosed_107 : decode cX0_addClosed 107 = .ok (.getfield 43, 3) := by decide +kernel
theorem dX0_addClosed_110 : decode cX0_addClosed 110 = .ok (.lload_n 2, 1) := by decide +kernel
theorem dX0_addClosed_111 : decode cX0_addClosed 111 = .ok (.lmul, 1) := by decide +kernel
theorem dX0_addClosed_112 : decode cX0_addClosed 112 = .ok (.putfield 43, 3) := by decide +kernel
theorem dX0_addClosed_115 : decode cX0_addClosed 115 = .ok (.return_, 1) := by decide +kernel
theorem dX1_init_0 : decode cX1_init 0 = .ok (.aload_n 0, 1) := by decide +kernel
theorem dX1_init_1 : decode cX1_init 1 = .ok (.invokespecial 3, 3) := by decide +kernel
theorem dX1_init_4 : decode cX1_init 4 = .ok (.aload_n 0, 1) := by decide +kernel
theorem dX1_init_5 : decode cX1_init 5 = .ok (.iconst 0, 1) := by decide +kernel
theorem dX1_init_6 : decode cX1_init 6 = .ok (.putfield 9, 3) := by decide +kernel
theorem dX1_init_9 : decode cX1_init 9 = .ok (.aload_n 0, 1) := by decide +kernel
theorem dX1_init_10 : decode cX1_init 10 = .ok (.lconst 1, 1) := by decide +kernel
theorem dX1_init_11 : decode cX1_init 11 = .ok (.putfield 15, 3) := by decide +kernel
theorem dX1_init_14 : decode cX1_init 14 = .ok (.return_, 1) := by decide +kernel
theorem dX1_find_0 : decode cX1_find 0 = .ok (.aload_n 1, 1) := by decide +kernel
theorem dX1_find_1 : decode cX1_find 1 = .ok (.getfield 19, 3) := by decide +kernel
theorem dX1_find_4 : decode cX1_find 4 = .ok (.i2l, 1) := by decide +kernel
theorem dX1_find_5 : decode cX1_find 5 = .ok (.aload_n 2, 1) := by decide +kernel
theorem dX1_find_6 : decode cX1_find 6 = .ok (.getfield 25, 3) := by decide +kernel
theorem dX1_find_9 : decode cX1_find 9 = .ok (.i2l, 1) := by decide +kernel
theorem dX1_find_10 : decode cX1_find 10 = .ok (.lmul, 1) := by decide +kernel
theorem dX1_find_11 : decode cX1_find 11 = .ok (.aload_n 1, 1) := by decide +kernel
theorem dX1_find_12 : decode cX1_find 12 = .ok (.getfield 25, 3) := by decide +kernel
theorem dX1_find_15 : decode cX1_find 15 = .ok (.i2l, 1) := by decide +kernel
theorem dX1_find_16 : decode cX1_find 16 = .ok (.aload_n 2, 1) := by decide +kernel
theorem dX1_find_17 : decode cX1_find 17 = .ok (.getfield 19, 3) := by decide +kernel
theorem dX1_find_20 : decode cX1_find 20 = .ok (.i2l, 1) := by decide +kernel
theorem dX1_find_21 : decode cX1_find 21 = .ok (.lmul, 1) := by decide +kernel
theorem dX1_find_22 : decode cX1_find 22 = .ok (.lsub, 1) := by decide +kernel
theorem dX1_find_23 : decode cX1_find 23 = .ok (.lstore_n 3, 1) := by decide +kernel
theorem dX1_find_24 : decode cX1_find 24 = .ok (.lload_n 3, 1) := by decide +kernel
theorem dX1_find_25 : decode cX1_find 25 = .ok (.lconst 0, 1) := by decide +kernel
theorem dX1_find_26 : decode cX1_find 26 = .ok (.lcmp, 1) := by decide +kernel
theorem dX1_find_27 : decode cX1_find 27 = .ok (.ifCond .ge 9, 3) := by decide +kernel
theorem dX1_find_30 : decode cX1_find 30 = .ok (.ldc2_w 28, 3) := by decide +kernel
theorem dX1_find_33 : decode cX1_find 33 = .ok (.goto 4, 3) := by decide +kernel
theorem dX1_find_36 : decode cX1_find 36 = .ok (.lconst 1, 1) := by decide +kernel
theorem dX1_find_37 : decode cX1_find 37 = .ok (.lstore 5, 2) := by decide +kernel
theorem dX1_find_39 : decode cX1_find 39 = .ok (.aload_n 2, 1) := by decide +kernel
theorem dX1_find_40 : decode cX1_find 40 = .ok (.getfield 30, 3) := by decide +kernel
theorem dX1_find_43 : decode cX1_find 43 = .ok (.aload_n 1, 1) := by decide +kernel
theorem dX1_find_44 : decode cX1_find 44 = .ok (.getfield 30, 3) := by decide +kernel
theorem dX1_find_47 : decode cX1_find 47 = .ok (.isub, 1) := by decide +kernel
theorem dX1_find_48 : decode cX1_find 48 = .ok (.i2l, 1) := by decide +kernel
theorem dX1_find_49 : decode cX1_find 49 = .ok (.lstore 7, 2) := by decide +kernel
theorem dX1_find_51 : decode cX1_find 51 = .ok (.aload_n 2, 1) := by decide +kernel
theorem dX1_find_52 : decode cX1_find 52 = .ok (.getfield 33, 3) := by decide +kernel
theorem dX1_find_55 : decode cX1_find 55 = .ok (.aload_n 1, 1) := by decide +kernel
theorem dX1_find_56 : decode cX1_find 56 = .ok (.getfield 33, 3) := by decide +kernel
theorem dX1_find_59 : decode cX1_find 59 = .ok (.isub, 1) := by decide +kernel
theorem dX1_find_60 : decode cX1_find 60 = .ok (.i2l, 1) := by decide +kernel
theorem dX1_find_61 : decode cX1_find 61 = .ok (.lstore 9, 2) := by decide +kernel
theorem dX1_find_63 : decode cX1_find 63 = .ok (.aload_n 0, 1) := by decide +kernel
theorem dX1_find_64 : decode cX1_find 64 = .ok (.lload 5, 2) := by decide +kernel
theorem dX1_find_66 : decode cX1_find 66 = .ok (.lload 7, 2) := by decide +kernel
theorem dX1_find_68 : decode cX1_find 68 = .ok (.aload_n 2, 1) := by decide +kernel
theorem dX1_find_69 : decode cX1_find 69 = .ok (.getfield 25, 3) := by decide +kernel
theorem dX1_find_72 : decode cX1_find 72 = .ok (.i2l, 1) := by decide +kernel
theorem dX1_find_73 : decode cX1_find 73 = .ok (.lmul, 1) := by decide +kernel
theorem dX1_find_74 : decode cX1_find 74 = .ok (.lload 9, 2) := by decide +kernel
theorem dX1_find_76 : decode cX1_find 76 = .ok (.aload_n 2, 1) := by decide +kernel
theorem dX1_find_77 : decode cX1_find 77 = .ok (.getfield 19, 3) := by decide +kernel
theorem dX1_find_80 : decode cX1_find 80 = .ok (.i2l, 1) := by decide +kernel
theorem dX1_find_81 : decode cX1_find 81 = .ok (.lmul, 1) := by decide +kernel
theorem dX1_find_82 : decode cX1_find 82 = .ok (.lsub, 1) := by decide +kernel
theorem dX1_find_83 : decode cX1_find 83 = .ok (.lmul, 1) := by decide +kernel
theorem dX1_find_84 : decode cX1_find 84 = .ok (.putfield 36, 3) := by decide +kernel
theorem dX1_find_87 : decode cX1_find 87 = .ok (.aload_n 0, 1) := by decide +kernel
theorem dX1_find_88 : decode cX1_find 88 = .ok (.lload 5, 2) := by decide +kernel
theorem dX1_find_90 : decode cX1_find 90 = .ok (.lload 7, 2) := by decide +kernel
theorem dX1_find_92 : decode cX1_find 92 = .ok (.aload_n 1, 1) := by decide +kernel
theorem dX1_find_93 : decode cX1_find 93 = .ok (.getfield 25, 3) := by decide +kernel
theorem dX1_find_96 : decode cX1_find 96 = .ok (.i2l, 1) := by decide +kernel
theorem dX1_find_97 : decode cX1_find 97 = .ok (.lmul, 1) := by decide +kernel
theorem dX1_find_98 : decode cX1_find 98 = .ok (.lload 9, 2) := by decide +kernel
theorem dX1_find_100 : decode cX1_find 100 = .ok (.aload_n 1, 1) := by decide +kernel
theorem dX1_find_101 : decode cX1_find 101 = .ok (.getfield 19, 3) := by decide +kernel
theorem dX1_find_104 : decode cX1_find 104 = .ok (.i2l, 1) := by decide +kernel
theorem dX1_find_105 : decode cX1_find 105 = .ok (.lmul, 1) := by decide +kernel
theorem dX1_find_106 : decode cX1_find 106 = .ok (.lsub, 1) := by decide +kernel
theorem dX1_find_107 : decode cX1_find 107 = .ok (.lmul, 1) := by decide +kernel
theorem dX1_find_108 : decode cX1_find 108 = .ok (.putfield 39, 3) := by decide +kernel
theorem dX1_find_111 : decode cX1_find 111 = .ok (.aload_n 0, 1) := by decide +kernel
theorem dX1_find_112 : decode cX1_find 112 = .ok (.lload 5, 2) := by decide +kernel
theorem dX1_find_114 : decode cX1_find 114 = .ok (.lload_n 3, 1) := by decide +kernel
theorem dX1_find_115 : decode cX1_find 115 = .ok (.lmul, 1) := by decide +kernel
theorem dX1_find_116 : decode cX1_find 116 = .ok (.putfield 15, 3) := by decide +kernel
theorem dX1_find_119 : decode cX1_find 119 = .ok (.aload_n 0, 1) := by decide +kernel
theorem dX1_find_120 : decode cX1_find 120 = .ok (.aload_n 0, 1) := by decide +kernel
theorem dX1_find_121 : decode cX1_find 121 = .ok (.getfield 15, 3) := by decide +kernel
theorem dX1_find_124 : decode cX1_find 124 = .ok (.lconst 0, 1) := by decide +kernel
theorem dX1_find_125 : decode cX1_find 125 = .ok (.lcmp, 1) := by decide +kernel
theorem dX1_find_126 : decode cX1_find 126 = .ok (.ifCond .eq 49, 3) := by decide +kernel
theorem dX1_find_129 : decode cX1_find 129 = .ok (.aload_n 0, 1) := by decide +kernel
theorem dX1_find_130 : decode cX1_find 130 = .ok (.getfield 36, 3) := by decide +kernel
theorem dX1_find_133 : decode cX1_find 133 = .ok (.lconst 0, 1) := by decide +kernel
theorem dX1_find_134 : decode cX1_find 134 = .ok (.lcmp, 1) := by decide +kernel
theorem dX1_find_135 : decode cX1_find 135 = .ok (.ifCond .lt 40, 3) := by decide +kernel
theorem dX1_find_138 : decode cX1_find 138 = .ok (.aload_n 0, 1) := by decide +kernel
theorem dX1_find_139 : decode cX1_find 139 = .ok (.getfield 36, 3) := by decide +kernel
theorem dX1_find_142 : decode cX1_find 142 = .ok (.aload_n 0, 1) := by decide +kernel
theorem dX1_find_143 : decode cX1_find 143 = .ok (.getfield 15, 3) := by decide +kernel
theorem dX1_find_146 : decode cX1_find 146 = .ok (.lcmp, 1) := by decide +kernel
theorem dX1_find_147 : decode cX1_find 147 = .ok (.ifCond .gt 28, 3) := by decide +kernel
theorem dX1_find_150 : decode cX1_find 150 = .ok (.aload_n 0, 1) := by decide +kernel
theorem dX1_find_151 : decode cX1_find 151 = .ok (.getfield 39, 3) := by decide +kernel
theorem dX1_find_154 : decode cX1_find 154 = .ok (.lconst 0, 1) := by decide +kernel
theorem dX1_find_155 : decode cX1_find 155 = .ok (.lcmp, 1) := by decide +kernel
theorem dX1_find_156 : decode cX1_find 156 = .ok (.ifCond .lt 19, 3) := by decide +kernel
theorem dX1_find_159 : decode cX1_find 159 = .ok (.aload_n 0, 1) := by decide +kernel
theorem dX1_find_160 : decode cX1_find 160 = .ok (.getfield 39, 3) := by decide +kernel
theorem dX1_find_163 : decode cX1_find 163 = .ok (.aload_n 0, 1) := by decide +kernel
theorem dX1_find_164 : decode cX1_find 164 = .ok (.getfield 15, 3) := by decide +kernel
theorem dX1_find_167 : decode cX1_find 167 = .ok (.lcmp, 1) := by decide +kernel
theorem dX1_find_168 : decode cX1_find 168 = .ok (.ifCond .gt 7, 3) := by decide +kernel
theorem dX1_find_171 : decode cX1_find 171 = .ok (.iconst 1, 1) := by decide +kernel
theorem dX1_find_172 : decode cX1_find 172 = .ok (.goto 4, 3) := by decide +kernel
theorem dX1_find_175 : decode cX1_find 175 = .ok (.iconst 0, 1) := by decide +kernel
theorem dX1_find_176 : decode cX1_find 176 = .ok (.putfield 9, 3) := by decide +kernel
theorem dX1_find_179 : decode cX1_find 179 = .ok (.return_, 1) := by decide +kernel
theorem dX1_aboveOf_0 : decode cX1_aboveOf 0 = .ok (.iload_n 1, 1) := by decide +kernel
theorem dX1_aboveOf_1 : decode cX1_aboveOf 1 = .ok (.tableswitch 171 0 7 #[47, 69, 91, 113, 135, 140, 145, 158], 47) := by decide +kernel
theorem dX1_aboveOf_48 : decode cX1_aboveOf 48 = .ok (.aload_n 2, 1) := by decide +kernel
theorem dX1_aboveOf_49 : decode cX1_aboveOf 49 = .ok (.getfield 30, 3) := by decide +kernel
theorem dX1_aboveOf_52 : decode cX1_aboveOf 52 = .ok (.i2l, 1) := by decide +kernel
theorem dX1_aboveOf_53 : decode cX1_aboveOf 53 = .ok (.aload_n 0, 1) := by decide +kernel
theorem dX1_aboveOf_54 : decode cX1_aboveOf 54 = .ok (.getfield 15, 3) := by decide +kernel
theorem dX1_aboveOf_57 : decode cX1_aboveOf 57 = .ok (.lmul, 1) := by decide +kernel
theorem dX1_aboveOf_58 : decode cX1_aboveOf 58 = .ok (.aload_n 2, 1) := by decide +kernel
theorem dX1_aboveOf_59 : decode cX1_aboveOf 59 = .ok (.getfield 19, 3) := by decide +kernel
theorem dX1_aboveOf_62 : decode cX1_aboveOf 62 = .ok (.i2l, 1) := by decide +kernel
theorem dX1_aboveOf_63 : decode cX1_aboveOf 63 = .ok (.aload_n 0, 1) := by decide +kernel
theorem dX1_aboveOf_64 : decode cX1_aboveOf 64 = .ok (.getfield 36, 3) := by decide +kernel
theorem dX1_aboveOf_67 : decode cX1_aboveOf 67 = .ok (.lmul, 1) := by decide +kernel
theorem dX1_aboveOf_68 : decode cX1_aboveOf 68 = .ok (.ladd, 1) := by decide +kernel
theorem dX1_aboveOf_69 : decode cX1_aboveOf 69 = .ok (.lreturn, 1) := by decide +kernel
theorem dX1_aboveOf_70 : decode cX1_aboveOf 70 = .ok (.aload_n 2, 1) := by decide +kernel
theorem dX1_aboveOf_71 : decode cX1_aboveOf 71 = .ok (.getfield 33, 3) := by decide +kernel
theorem dX1_aboveOf_74 : decode cX1_aboveOf 74 = .ok (.i2l, 1) := by decide +kernel
theorem dX1_aboveOf_75 : decode cX1_aboveOf 75 = .ok (.aload_n 0, 1) := by decide +kernel
theorem dX1_aboveOf_76 : decode cX1_aboveOf 76 = .ok (.getfield 15, 3) := by decide +kernel
theorem dX1_aboveOf_79 : decode cX1_aboveOf 79 = .ok (.lmul, 1) := by decide +kernel
theorem dX1_aboveOf_80 : decode cX1_aboveOf 80 = .ok (.aload_n 2, 1) := by decide +kernel
theorem dX1_aboveOf_81 : decode cX1_aboveOf 81 = .ok (.getfield 25, 3) := by decide +kernel
theorem dX1_aboveOf_84 : decode cX1_aboveOf 84 = .ok (.i2l, 1) := by decide +kernel
theorem dX1_aboveOf_85 : decode cX1_aboveOf 85 = .ok (.aload_n 0, 1) := by decide +kernel
theorem dX1_aboveOf_86 : decode cX1_aboveOf 86 = .ok (.getfield 36, 3) := by decide +kernel
theorem dX1_aboveOf_89 : decode cX1_aboveOf 89 = .ok (.lmul, 1) := by decide +kernel
theorem dX1_aboveOf_90 : decode cX1_aboveOf 90 = .ok (.ladd, 1) := by decide +kernel
theorem dX1_aboveOf_91 : decode cX1_aboveOf 91 = .ok (.lreturn, 1) := by decide +kernel
theorem dX1_aboveOf_92 : decode cX1_aboveOf 92 = .ok (.aload_n 2, 1) := by decide +kernel
theorem dX1_aboveOf_93 : decode cX1_aboveOf 93 = .ok (.getfield 42, 3) := by decide +kernel
theorem dX1_aboveOf_96 : decode cX1_aboveOf 96 = .ok (.i2l, 1) := by decide +kernel
theorem dX1_aboveOf_97 : decode cX1_aboveOf 97 = .ok (.aload_n 0, 1) := by decide +kernel
theorem dX1_aboveOf_98 : decode cX1_aboveOf 98 = .ok (.getfield 15, 3) := by decide +kernel
theorem dX1_aboveOf_101 : decode cX1_aboveOf 101 = .ok (.lmul, 1) := by decide +kernel
theorem dX1_aboveOf_102 : decode cX1_aboveOf 102 = .ok (.aload_n 2, 1) := by decide +kernel
theorem dX1_aboveOf_103 : decode cX1_aboveOf 103 = .ok (.getfield 45, 3) := by decide +kernel
theorem dX1_aboveOf_106 : decode cX1_aboveOf 106 = .ok (.i2l, 1) := by decide +kernel
theorem dX1_aboveOf_107 : decode cX1_aboveOf 107 = .ok (.aload_n 0, 1) := by decide +kernel
theorem dX1_aboveOf_108 : decode cX1_aboveOf 108 = .ok (.getfield 36, 3) := by decide +kernel
theorem dX1_aboveOf_111 : decode cX1_aboveOf 111 = .ok (.lmul, 1) := by decide +kernel
theorem dX1_aboveOf_112 : decode cX1_aboveOf 112 = .ok (.ladd, 1) := by decide +kernel
theorem dX1_aboveOf_113 : decode cX1_aboveOf 113 = .ok (.lreturn, 1) := by decide +kernel
theorem dX1_aboveOf_114 : decode cX1_aboveOf 114 = .ok (.aload_n 3, 1) := by decide +kernel
theorem dX1_aboveOf_115 : decode cX1_aboveOf 115 = .ok (.getfield 42, 3) := by decide +kernel
theorem dX1_aboveOf_118 : decode cX1_aboveOf 118 = .ok (.i2l, 1) := by decide +kernel
theorem dX1_aboveOf_119 : decode cX1_aboveOf 119 = .ok (.aload_n 0, 1) := by decide +kernel
theorem dX1_aboveOf_120 : decode cX1_aboveOf 120 = .ok (.getfield 15, 3) := by decide +kernel
theorem dX1_aboveOf_123 : decode cX1_aboveOf 123 = .ok (.lmul, 1) := by decide +kernel
theorem dX1_aboveOf_124 : decode cX1_aboveOf 124 = .ok (.aload_n 3, 1) := by decide +kernel
theorem dX1_aboveOf_125 : decode cX1_aboveOf 125 = .ok (.getfield 45, 3) := by decide +kernel
theorem dX1_aboveOf_128 : decode cX1_aboveOf 128 = .ok (.i2l, 1) := by decide +kernel
theorem dX1_aboveOf_129 : decode cX1_aboveOf 129 = .ok (.aload_n 0, 1) := by decide +kernel
theorem dX1_aboveOf_130 : decode cX1_aboveOf 130 = .ok (.getfield 39, 3) := by decide +kernel
theorem dX1_aboveOf_133 : decode cX1_aboveOf 133 = .ok (.lmul, 1) := by decide +kernel
theorem dX1_aboveOf_134 : decode cX1_aboveOf 134 = .ok (.ladd, 1) := by decide +kernel
theorem dX1_aboveOf_135 : decode cX1_aboveOf 135 = .ok (.lreturn, 1) := by decide +kernel
theorem dX1_aboveOf_136 : decode cX1_aboveOf 136 = .ok (.aload_n 0, 1) := by decide +kernel
theorem dX1_aboveOf_137 : decode cX1_aboveOf 137 = .ok (.getfield 36, 3) := by decide +kernel
theorem dX1_aboveOf_140 : decode cX1_aboveOf 140 = .ok (.lreturn, 1) := by decide +kernel
theorem dX1_aboveOf_141 : decode cX1_aboveOf 141 = .ok (.aload_n 0, 1) := by decide +kernel
theorem dX1_aboveOf_142 : decode cX1_aboveOf 142 = .ok (.getfield 39, 3) := by decide +kernel
theorem dX1_aboveOf_145 : decode cX1_aboveOf 145 = .ok (.lreturn, 1) := by decide +kernel
theorem dX1_aboveOf_146 : decode cX1_aboveOf 146 = .ok (.aload_n 2, 1) := by decide +kernel
theorem dX1_aboveOf_147 : decode cX1_aboveOf 147 = .ok (.aload_n 0, 1) := by decide +kernel
theorem dX1_aboveOf_148 : decode cX1_aboveOf 148 = .ok (.getfield 36, 3) := by decide +kernel
theorem dX1_aboveOf_151 : decode cX1_aboveOf 151 = .ok (.aload_n 0, 1) := by decide +kernel
theorem dX1_aboveOf_152 : decode cX1_aboveOf 152 = .ok (.getfield 15, 3) := by decide +kernel
theorem dX1_aboveOf_155 : decode cX1_aboveOf 155 = .ok (.invokevirtual 48, 3) := by decide +kernel
theorem dX1_aboveOf_158 : decode cX1_aboveOf 158 = .ok (.lreturn, 1) := by decide +kernel
theorem dX1_aboveOf_159 : decode cX1_aboveOf 159 = .ok (.aload_n 3, 1) := by decide +kernel
theorem dX1_aboveOf_160 : decode cX1_aboveOf 160 = .ok (.aload_n 0, 1) := by decide +kernel
theorem dX1_aboveOf_161 : decode cX1_aboveOf 161 = .ok (.getfield 39, 3) := by decide +kernel
theorem dX1_aboveOf_164 : decode cX1_aboveOf 164 = .ok (.aload_n 0, 1) := by decide +kernel
theorem dX1_aboveOf_165 : decode cX1_aboveOf 165 = .ok (.getfield 15, 3) := by decide +kernel
theorem dX1_aboveOf_168 : decode cX1_aboveOf 168 = .ok (.invokevirtual 48, 3) := by decide +kernel
theorem dX1_aboveOf_171 : decode cX1_aboveOf 171 = .ok (.lreturn, 1) := by decide +kernel
theorem dX1_aboveOf_172 : decode cX1_aboveOf 172 = .ok (.ldc2_w 52, 3) := by decide +kernel
theorem dX1_aboveOf_175 : decode cX1_aboveOf 175 = .ok (.lreturn, 1) := by decide +kernel
theorem dX1_differenceOf_0 : decode cX1_differenceOf 0 = .ok (.aload_n 1, 1) := by decide +kernel
theorem dX1_differenceOf_1 : decode cX1_differenceOf 1 = .ok (.getfield 54, 3) := by decide +kernel
theorem dX1_differenceOf_4 : decode cX1_differenceOf 4 = .ok (.ifCond .ne 10, 3) := by decide +kernel
theorem dX1_differenceOf_7 : decode cX1_differenceOf 7 = .ok (.aload_n 2, 1) := by decide +kernel
theorem dX1_differenceOf_8 : decode cX1_differenceOf 8 = .ok (.getfield 54, 3) := by decide +kernel
theorem dX1_differenceOf_11 : decode cX1_differenceOf 11 = .ok (.ifCond .eq 6, 3) := by decide +kernel
theorem dX1_differenceOf_14 : decode cX1_differenceOf 14 = .ok (.ldc 57, 2) := by decide +kernel
theorem dX1_differenceOf_16 : decode cX1_differenceOf 16 = .ok (.ireturn, 1) := by decide +kernel
theorem dX1_differenceOf_17 : decode cX1_differenceOf 17 = .ok (.aload_n 0, 1) := by decide +kernel
theorem dX1_differenceOf_18 : decode cX1_differenceOf 18 = .ok (.aload_n 1, 1) := by decide +kernel
theorem dX1_differenceOf_19 : decode cX1_differenceOf 19 = .ok (.aload_n 2, 1) := by decide +kernel
theorem dX1_differenceOf_20 : decode cX1_differenceOf 20 = .ok (.invokevirtual 58, 3) := by decide +kernel
theorem dX1_differenceOf_23 : decode cX1_differenceOf 23 = .ok (.aload_n 0, 1) := by decide +kernel
theorem dX1_differenceOf_24 : decode cX1_differenceOf 24 = .ok (.getfield 9, 3) := by decide +kernel
theorem dX1_differenceOf_27 : decode cX1_differenceOf 27 = .ok (.ifCond .eq 12, 3) := by decide +kernel
theorem dX1_differenceOf_30 : decode cX1_differenceOf 30 = .ok (.aload_n 0, 1) := by decide +kernel
theorem dX1_differenceOf_31 : decode cX1_differenceOf 31 = .ok (.getfield 15, 3) := by decide +kernel
theorem dX1_differenceOf_34 : decode cX1_differenceOf 34 = .ok (.lconst 0, 1) := by decide +kernel
theorem dX1_differenceOf_35 : decode cX1_differenceOf 35 = .ok (.lcmp, 1) := by decide +kernel
theorem dX1_differenceOf_36 : decode cX1_differenceOf 36 = .ok (.ifCond .gt 6, 3) := by decide +kernel
theorem dX1_differenceOf_39 : decode cX1_differenceOf 39 = .ok (.ldc 57, 2) := by decide +kernel
theorem dX1_differenceOf_41 : decode cX1_differenceOf 41 = .ok (.ireturn, 1) := by decide +kernel
theorem dX1_differenceOf_42 : decode cX1_differenceOf 42 = .ok (.aload_n 1, 1) := by decide +kernel
theorem dX1_differenceOf_43 : decode cX1_differenceOf 43 = .ok (.aload_n 0, 1) := by decide +kernel
theorem dX1_differenceOf_44 : decode cX1_differenceOf 44 = .ok (.getfield 36, 3) := by decide +kernel
theorem dX1_differenceOf_47 : decode cX1_differenceOf 47 = .ok (.aload_n 0, 1) := by decide +kernel
theorem dX1_differenceOf_48 : decode cX1_differenceOf 48 = .ok (.getfield 15, 3) := by decide +kernel
theorem dX1_differenceOf_51 : decode cX1_differenceOf 51 = .ok (.invokevirtual 48, 3) := by decide +kernel
theorem dX1_differenceOf_54 : decode cX1_differenceOf 54 = .ok (.lstore_n 3, 1) := by decide +kernel
theorem dX1_differenceOf_55 : decode cX1_differenceOf 55 = .ok (.aload_n 2, 1) := by decide +kernel
theorem dX1_differenceOf_56 : decode cX1_differenceOf 56 = .ok (.aload_n 0, 1) := by decide +kernel
theorem dX1_differenceOf_57 : decode cX1_differenceOf 57 = .ok (.getfield 39, 3) := by decide +kernel
theorem dX1_differenceOf_60 : decode cX1_differenceOf 60 = .ok (.aload_n 0, 1) := by decide +kernel
theorem dX1_differenceOf_61 : decode cX1_differenceOf 61 = .ok (.getfield 15, 3) := by decide +kernel
theorem dX1_differenceOf_64 : decode cX1_differenceOf 64 = .ok (.invokevirtual 48, 3) := by decide +kernel
theorem dX1_differenceOf_67 : decode cX1_differenceOf 67 = .ok (.lstore 5, 2) := by decide +kernel
theorem dX1_differenceOf_69 : decode cX1_differenceOf 69 = .ok (.lload_n 3, 1) := by decide +kernel
theorem dX1_differenceOf_70 : decode cX1_differenceOf 70 = .ok (.ldc2_w 52, 3) := by decide +kernel
theorem dX1_differenceOf_73 : decode cX1_differenceOf 73 = .ok (.lcmp, 1) := by decide +kernel
theorem dX1_differenceOf_74 : decode cX1_differenceOf 74 = .ok (.ifCond .eq 12, 3) := by decide +kernel
theorem dX1_differenceOf_77 : decode cX1_differenceOf 77 = .ok (.lload 5, 2) := by decide +kernel
theorem dX1_differenceOf_79 : decode cX1_differenceOf 79 = .ok (.ldc2_w 52, 3) := by decide +kernel
theorem dX1_differenceOf_82 : decode cX1_differenceOf 82 = .ok (.lcmp, 1) := by decide +kernel
theorem dX1_differenceOf_83 : decode cX1_differenceOf 83 = .ok (.ifCond .ne 6, 3) := by decide +kernel
theorem dX1_differenceOf_86 : decode cX1_differenceOf 86 = .ok (.ldc 57, 2) := by decide +kernel
theorem dX1_differenceOf_88 : decode cX1_differenceOf 88 = .ok (.ireturn, 1) := by decide +kernel
theorem dX1_differenceOf_89 : decode cX1_differenceOf 89 = .ok (.ldc2_w 62, 3) := by decide +kernel
theorem dX1_differenceOf_92 : decode cX1_differenceOf 92 = .ok (.lload_n 3, 1) := by decide +kernel
theorem dX1_differenceOf_93 : decode cX1_differenceOf 93 = .ok (.lload 5, 2) := by decide +kernel
theorem dX1_differenceOf_95 : decode cX1_differenceOf 95 = .ok (.lsub, 1) := by decide +kernel
theorem dX1_differenceOf_96 : decode cX1_differenceOf 96 = .ok (.lmul, 1) := by decide +kernel
theorem dX1_differenceOf_97 : decode cX1_differenceOf 97 = .ok (.aload_n 0, 1) := by decide +kernel
theorem dX1_differenceOf_98 : decode cX1_differenceOf 98 = .ok (.getfield 15, 3) := by decide +kernel
theorem dX1_differenceOf_101 : decode cX1_differenceOf 101 = .ok (.invokestatic 64, 3) := by decide +kernel
theorem dX1_differenceOf_104 : decode cX1_differenceOf 104 = .ok (.l2i, 1) := by decide +kernel
theorem dX1_differenceOf_105 : decode cX1_differenceOf 105 = .ok (.ireturn, 1) := by decide +kernel
theorem dX2_init_0 : decode cX2_init 0 = .ok (.aload_n 0, 1) := by decide +kernel
theorem dX2_init_1 : decode cX2_init 1 = .ok (.invokespecial 1, 3) := by decide +kernel
theorem dX2_init_4 : decode cX2_init 4 = .ok (.aload_n 0, 1) := by decide +kernel
theorem dX2_init_5 : decode cX2_init 5 = .ok (.lconst 0, 1) := by decide +kernel
theorem dX2_init_6 : decode cX2_init 6 = .ok (.putfield 7, 3) := by decide +kernel
theorem dX2_init_9 : decode cX2_init 9 = .ok (.aload_n 0, 1) := by decide +kernel
theorem dX2_init_10 : decode cX2_init 10 = .ok (.lconst 1, 1) := by decide +kernel
theorem dX2_init_11 : decode cX2_init 11 = .ok (.putfield 13, 3) := by decide +kernel
theorem dX2_init_14 : decode cX2_init 14 = .ok (.return_, 1) := by decide +kernel
theorem dX2_become_0 : decode cX2_become 0 = .ok (.lload_n 1, 1) := by decide +kernel
theorem dX2_become_1 : decode cX2_become 1 = .ok (.lload_n 3, 1) := by decide +kernel
theorem dX2_become_2 : decode cX2_become 2 = .ok (.invokestatic 16, 3) := by decide +kernel
theorem dX2_become_5 : decode cX2_become 5 = .ok (.lstore 5, 2) := by decide +kernel
theorem dX2_become_7 : decode cX2_become 7 = .ok (.lload_n 3, 1) := by decide +kernel
theorem dX2_become_8 : decode cX2_become 8 = .ok (.lconst 0, 1) := by decide +kernel
theorem dX2_become_9 : decode cX2_become 9 = .ok (.lcmp, 1) := by decide +kernel
theorem dX2_become_10 : decode cX2_become 10 = .ok (.ifCond .eq 10, 3) := by decide +kernel
theorem dX2_become_13 : decode cX2_become 13 = .ok (.lload 5, 2) := by decide +kernel
theorem dX2_become_15 : decode cX2_become 15 = .ok (.lconst 0, 1) := by decide +kernel
theorem dX2_become_16 : decode cX2_become 16 = .ok (.lcmp, 1) := by decide +kernel
theorem dX2_become_17 : decode cX2_become 17 = .ok (.ifCond .ne 14, 3) := by decide +kernel
theorem dX2_become_20 : decode cX2_become 20 = .ok (.aload_n 0, 1) := by decide +kernel
theorem dX2_become_21 : decode cX2_become 21 = .ok (.lconst 0, 1) := by decide +kernel
theorem dX2_become_22 : decode cX2_become 22 = .ok (.putfield 7, 3) := by decide +kernel
theorem dX2_become_25 : decode cX2_become 25 = .ok (.aload_n 0, 1) := by decide +kernel
theorem dX2_become_26 : decode cX2_become 26 = .ok (.lconst 1, 1) := by decide +kernel
theorem dX2_become_27 : decode cX2_become 27 = .ok (.putfield 13, 3) := by decide +kernel
theorem dX2_become_30 : decode cX2_become 30 = .ok (.return_, 1) := by decide +kernel
theorem dX2_become_31 : decode cX2_become 31 = .ok (.lload_n 3, 1) := by decide +kernel
theorem dX2_become_32 : decode cX2_become 32 = .ok (.lconst 0, 1) := by decide +kernel
theorem dX2_become_33 : decode cX2_become 33 = .ok (.lcmp, 1) := by decide +kernel
theorem dX2_become_34 : decode cX2_become 34 = .ok (.ifCond .ge 9, 3) := by decide +kernel
theorem dX2_become_37 : decode cX2_become 37 = .ok (.lload 5, 2) := by decide +kernel
theorem dX2_become_39 : decode cX2_become 39 = .ok (.lneg, 1) := by decide +kernel
theorem dX2_become_40 : decode cX2_become 40 = .ok (.goto 5, 3) := by decide +kernel
theorem dX2_become_43 : decode cX2_become 43 = .ok (.lload 5, 2) := by decide +kernel
theorem dX2_become_45 : decode cX2_become 45 = .ok (.lstore 7, 2) := by decide +kernel
theorem dX2_become_47 : decode cX2_become 47 = .ok (.aload_n 0, 1) := by decide +kernel
theorem dX2_become_48 : decode cX2_become 48 = .ok (.lload_n 1, 1) := by decide +kernel
theorem dX2_become_49 : decode cX2_become 49 = .ok (.lload 7, 2) := by decide +kernel
theorem dX2_become_51 : decode cX2_become 51 = .ok (.ldiv, 1) := by decide +kernel
theorem dX2_become_52 : decode cX2_become 52 = .ok (.putfield 7, 3) := by decide +kernel
theorem dX2_become_55 : decode cX2_become 55 = .ok (.aload_n 0, 1) := by decide +kernel
theorem dX2_become_56 : decode cX2_become 56 = .ok (.lload_n 3, 1) := by decide +kernel
theorem dX2_become_57 : decode cX2_become 57 = .ok (.lload 7, 2) := by decide +kernel
theorem dX2_become_59 : decode cX2_become 59 = .ok (.ldiv, 1) := by decide +kernel
theorem dX2_become_60 : decode cX2_become 60 = .ok (.putfield 13, 3) := by decide +kernel
theorem dX2_become_63 : decode cX2_become 63 = .ok (.return_, 1) := by decide +kernel
theorem dX2_partOf_0 : decode cX2_partOf 0 = .ok (.iload_n 1, 1) := by decide +kernel
theorem dX2_partOf_1 : decode cX2_partOf 1 = .ok (.ifCond .ne 10, 3) := by decide +kernel
theorem dX2_partOf_4 : decode cX2_partOf 4 = .ok (.aload_n 0, 1) := by decide +kernel
theorem dX2_partOf_5 : decode cX2_partOf 5 = .ok (.getfield 7, 3) := by decide +kernel
theorem dX2_partOf_8 : decode cX2_partOf 8 = .ok (.goto 7, 3) := by decide +kernel
theorem dX2_partOf_11 : decode cX2_partOf 11 = .ok (.aload_n 0, 1) := by decide +kernel
theorem dX2_partOf_12 : decode cX2_partOf 12 = .ok (.getfield 13, 3) := by decide +kernel
theorem dX2_partOf_15 : decode cX2_partOf 15 = .ok (.lreturn, 1) := by decide +kernel
theorem dX2_roundedDown_0 : decode cX2_roundedDown 0 = .ok (.aload_n 0, 1) := by decide +kernel
theorem dX2_roundedDown_1 : decode cX2_roundedDown 1 = .ok (.getfield 13, 3) := by decide +kernel
theorem dX2_roundedDown_4 : decode cX2_roundedDown 4 = .ok (.lconst 0, 1) := by decide +kernel
theorem dX2_roundedDown_5 : decode cX2_roundedDown 5 = .ok (.lcmp, 1) := by decide +kernel
theorem dX2_roundedDown_6 : decode cX2_roundedDown 6 = .ok (.ifCond .le 17, 3) := by decide +kernel
theorem dX2_roundedDown_9 : decode cX2_roundedDown 9 = .ok (.aload_n 0, 1) := by decide +kernel
theorem dX2_roundedDown_10 : decode cX2_roundedDown 10 = .ok (.getfield 7, 3) := by decide +kernel
theorem dX2_roundedDown_13 : decode cX2_roundedDown 13 = .ok (.aload_n 0, 1) := by decide +kernel
theorem dX2_roundedDown_14 : decode cX2_roundedDown 14 = .ok (.getfield 13, 3) := by decide +kernel
theorem dX2_roundedDown_17 : decode cX2_roundedDown 17 = .ok (.invokestatic 20, 3) := by decide +kernel
theorem dX2_roundedDown_20 : decode cX2_roundedDown 20 = .ok (.goto 4, 3) := by decide +kernel
theorem dX2_roundedDown_23 : decode cX2_roundedDown 23 = .ok (.lconst 0, 1) := by decide +kernel
theorem dX2_roundedDown_24 : decode cX2_roundedDown 24 = .ok (.lreturn, 1) := by decide +kernel
theorem dX2_greatestShared_0 : decode cX2_greatestShared 0 = .ok (.lload_n 0, 1) := by decide +kernel
theorem dX2_greatestShared_1 : decode cX2_greatestShared 1 = .ok (.lconst 0, 1) := by decide +kernel
theorem dX2_greatestShared_2 : decode cX2_greatestShared 2 = .ok (.lcmp, 1) := by decide +kernel
theorem dX2_greatestShared_3 : decode cX2_greatestShared 3 = .ok (.ifCond .ge 8, 3) := by decide +kernel
theorem dX2_greatestShared_6 : decode cX2_greatestShared 6 = .ok (.lload_n 0, 1) := by decide +kernel
theorem dX2_greatestShared_7 : decode cX2_greatestShared 7 = .ok (.lneg, 1) := by decide +kernel
theorem dX2_greatestShared_8 : decode cX2_greatestShared 8 = .ok (.goto 4, 3) := by decide +kernel
theorem dX2_greatestShared_11 : decode cX2_greatestShared 11 = .ok (.lload_n 0, 1) := by decide +kernel
theorem dX2_greatestShared_12 : decode cX2_greatestShared 12 = .ok (.lstore 4, 2) := by decide +kernel
theorem dX2_greatestShared_14 : decode cX2_greatestShared 14 = .ok (.lload_n 2, 1) := by decide +kernel
theorem dX2_greatestShared_15 : decode cX2_greatestShared 15 = .ok (.lconst 0, 1) := by decide +kernel
theorem dX2_greatestShared_16 : decode cX2_greatestShared 16 = .ok (.lcmp, 1) := by decide +kernel
theorem dX2_greatestShared_17 : decode cX2_greatestShared 17 = .ok (.ifCond .ge 8, 3) := by decide +kernel
theorem dX2_greatestShared_20 : decode cX2_greatestShared 20 = .ok (.lload_n 2, 1) := by decide +kernel
theorem dX2_greatestShared_21 : decode cX2_greatestShared 21 = .ok (.lneg, 1) := by decide +kernel
theorem dX2_greatestShared_22 : decode cX2_greatestShared 22 = .ok (.goto 4, 3) := by decide +kernel
theorem dX2_greatestShared_25 : decode cX2_greatestShared 25 = .ok (.lload_n 2, 1) := by decide +kernel
theorem dX2_greatestShared_26 : decode cX2_greatestShared 26 = .ok (.lstore 6, 2) := by decide +kernel
theorem dX2_greatestShared_28 : decode cX2_greatestShared 28 = .ok (.iconst 0, 1) := by decide +kernel
theorem dX2_greatestShared_29 : decode cX2_greatestShared 29 = .ok (.istore 8, 2) := by decide +kernel
theorem dX2_greatestShared_31 : decode cX2_greatestShared 31 = .ok (.iload 8, 2) := by decide +kernel
theorem dX2_greatestShared_33 : decode cX2_greatestShared 33 = .ok (.bipush 100, 2) := by decide +kernel
theorem dX2_greatestShared_35 : decode cX2_greatestShared 35 = .ok (.if_icmp .ge 31, 3) := by decide +kernel
theorem dX2_greatestShared_38 : decode cX2_greatestShared 38 = .ok (.lload 6, 2) := by decide +kernel
theorem dX2_greatestShared_40 : decode cX2_greatestShared 40 = .ok (.lconst 0, 1) := by decide +kernel
theorem dX2_greatestShared_41 : decode cX2_greatestShared 41 = .ok (.lcmp, 1) := by decide +kernel
theorem dX2_greatestShared_42 : decode cX2_greatestShared 42 = .ok (.ifCond .eq 24, 3) := by decide +kernel
theorem dX2_greatestShared_45 : decode cX2_greatestShared 45 = .ok (.lload 4, 2) := by decide +kernel
theorem dX2_greatestShared_47 : decode cX2_greatestShared 47 = .ok (.lload 6, 2) := by decide +kernel
theorem dX2_greatestShared_49 : decode cX2_greatestShared 49 = .ok (.lrem, 1) := by decide +kernel
theorem dX2_greatestShared_50 : decode cX2_greatestShared 50 = .ok (.lstore 9, 2) := by decide +kernel
theorem dX2_greatestShared_52 : decode cX2_greatestShared 52 = .ok (.lload 6, 2) := by decide +kernel
theorem dX2_greatestShared_54 : decode cX2_greatestShared 54 = .ok (.lstore 4, 2) := by decide +kernel
theorem dX2_greatestShared_56 : decode cX2_greatestShared 56 = .ok (.lload 9, 2) := by decide +kernel
theorem dX2_greatestShared_58 : decode cX2_greatestShared 58 = .ok (.lstore 6, 2) := by decide +kernel
theorem dX2_greatestShared_60 : decode cX2_greatestShared 60 = .ok (.iinc 8 1, 3) := by decide +kernel
theorem dX2_greatestShared_63 : decode cX2_greatestShared 63 = .ok (.goto (-32), 3) := by decide +kernel
theorem dX2_greatestShared_66 : decode cX2_greatestShared 66 = .ok (.lload 4, 2) := by decide +kernel
theorem dX2_greatestShared_68 : decode cX2_greatestShared 68 = .ok (.lreturn, 1) := by decide +kernel
theorem dX3_init_0 : decode cX3_init 0 = .ok (.aload_n 0, 1) := by decide +kernel
theorem dX3_init_1 : decode cX3_init 1 = .ok (.invokespecial 3, 3) := by decide +kernel
theorem dX3_init_4 : decode cX3_init 4 = .ok (.aload_n 0, 1) := by decide +kernel
theorem dX3_init_5 : decode cX3_init 5 = .ok (.bipush 6, 2) := by decide +kernel
theorem dX3_init_7 : decode cX3_init 7 = .ok (.newarray .int, 2) := by decide +kernel
theorem dX3_init_9 : decode cX3_init 9 = .ok (.putfield 9, 3) := by decide +kernel
theorem dX3_init_12 : decode cX3_init 12 = .ok (.aload_n 0, 1) := by decide +kernel
theorem dX3_init_13 : decode cX3_init 13 = .ok (.iconst 0, 1) := by decide +kernel
theorem dX3_init_14 : decode cX3_init 14 = .ok (.putfield 15, 3) := by decide +kernel
theorem dX3_init_17 : decode cX3_init 17 = .ok (.return_, 1) := by decide +kernel
theorem dX3_has_0 : decode cX3_has 0 = .ok (.iload_n 1, 1) := by decide +kernel
theorem dX3_has_1 : decode cX3_has 1 = .ok (.ifCond .lt 15, 3) := by decide +kernel
theorem dX3_has_4 : decode cX3_has 4 = .ok (.iload_n 1, 1) := by decide +kernel
theorem dX3_has_5 : decode cX3_has 5 = .ok (.aload_n 0, 1) := by decide +kernel
theorem dX3_has_6 : decode cX3_has 6 = .ok (.getfield 15, 3) := by decide +kernel
theorem dX3_has_9 : decode cX3_has 9 = .ok (.if_icmp .ge 7, 3) := by decide +kernel
theorem dX3_has_12 : decode cX3_has 12 = .ok (.iconst 1, 1) := by decide +kernel
theorem dX3_has_13 : decode cX3_has 13 = .ok (.goto 4, 3) := by decide +kernel
theorem dX3_has_16 : decode cX3_has 16 = .ok (.iconst 0, 1) := by decide +kernel
theorem dX3_has_17 : decode cX3_has 17 = .ok (.ireturn, 1) := by decide +kernel
theorem dX3_distance_0 : decode cX3_distance 0 = .ok (.aload_n 0, 1) := by decide +kernel
theorem dX3_distance_1 : decode cX3_distance 1 = .ok (.getfield 9, 3) := by decide +kernel
theorem dX3_distance_4 : decode cX3_distance 4 = .ok (.iload_n 1, 1) := by decide +kernel
theorem dX3_distance_5 : decode cX3_distance 5 = .ok (.iaload, 1) := by decide +kernel
theorem dX3_distance_6 : decode cX3_distance 6 = .ok (.istore_n 3, 1) := by decide +kernel
theorem dX3_distance_7 : decode cX3_distance 7 = .ok (.iload_n 3, 1) := by decide +kernel
theorem dX3_distance_8 : decode cX3_distance 8 = .ok (.ifCond .gt 5, 3) := by decide +kernel
theorem dX3_distance_11 : decode cX3_distance 11 = .ok (.lconst 0, 1) := by decide +kernel
theorem dX3_distance_12 : decode cX3_distance 12 = .ok (.lreturn, 1) := by decide +kernel
theorem dX3_distance_13 : decode cX3_distance 13 = .ok (.iload_n 2, 1) := by decide +kernel
theorem dX3_distance_14 : decode cX3_distance 14 = .ok (.iload_n 3, 1) := by decide +kernel
theorem dX3_distance_15 : decode cX3_distance 15 = .ok (.irem, 1) := by decide +kernel
theorem dX3_distance_16 : decode cX3_distance 16 = .ok (.istore 4, 2) := by decide +kernel
theorem dX3_distance_18 : decode cX3_distance 18 = .ok (.iload 4, 2) := by decide +kernel
theorem dX3_distance_20 : decode cX3_distance 20 = .ok (.iload_n 3, 1) := by decide +kernel
theorem dX3_distance_21 : decode cX3_distance 21 = .ok (.iload 4, 2) := by decide +kernel
theorem dX3_distance_23 : decode cX3_distance 23 = .ok (.isub, 1) := by decide +kernel
theorem dX3_distance_24 : decode cX3_distance 24 = .ok (.invokestatic 19, 3) := by decide +kernel
theorem dX3_distance_27 : decode cX3_distance 27 = .ok (.i2l, 1) := by decide +kernel
theorem dX3_distance_28 : decode cX3_distance 28 = .ok (.lreturn, 1) := by decide +kernel
theorem dX3_areToldApart_0 : decode cX3_areToldApart 0 = .ok (.aload_n 0, 1) := by decide +kernel
theorem dX3_areToldApart_1 : decode cX3_areToldApart 1 = .ok (.iload_n 1, 1) := by decide +kernel
theorem dX3_areToldApart_2 : decode cX3_areToldApart 2 = .ok (.iload_n 3, 1) := by decide +kernel
theorem dX3_areToldApart_3 : decode cX3_areToldApart 3 = .ok (.invokevirtual 25, 3) := by decide +kernel
theorem dX3_areToldApart_6 : decode cX3_areToldApart 6 = .ok (.aload_n 0, 1) := by decide +kernel
theorem dX3_areToldApart_7 : decode cX3_areToldApart 7 = .ok (.getfield 9, 3) := by decide +kernel
theorem dX3_areToldApart_10 : decode cX3_areToldApart 10 = .ok (.iload_n 2, 1) := by decide +kernel
theorem dX3_areToldApart_11 : decode cX3_areToldApart 11 = .ok (.iaload, 1) := by decide +kernel
theorem dX3_areToldApart_12 : decode cX3_areToldApart 12 = .ok (.i2l, 1) := by decide +kernel
theorem dX3_areToldApart_13 : decode cX3_areToldApart 13 = .ok (.lmul, 1) := by decide +kernel
theorem dX3_areToldApart_14 : decode cX3_areToldApart 14 = .ok (.lstore 5, 2) := by decide +kernel
theorem dX3_areToldApart_16 : decode cX3_areToldApart 16 = .ok (.aload_n 0, 1) := by decide +kernel
theorem dX3_areToldApart_17 : decode cX3_areToldApart 17 = .ok (.iload_n 2, 1) := by decide +kernel
theorem dX3_areToldApart_18 : decode cX3_areToldApart 18 = .ok (.iload_n 3, 1) := by decide +kernel
theorem dX3_areToldApart_19 : decode cX3_areToldApart 19 = .ok (.invokevirtual 25, 3) := by decide +kernel
theorem dX3_areToldApart_22 : decode cX3_areToldApart 22 = .ok (.aload_n 0, 1) := by decide +kernel
theorem dX3_areToldApart_23 : decode cX3_areToldApart 23 = .ok (.getfield 9, 3) := by decide +kernel
theorem dX3_areToldApart_26 : decode cX3_areToldApart 26 = .ok (.iload_n 1, 1) := by decide +kernel
theorem dX3_areToldApart_27 : decode cX3_areToldApart 27 = .ok (.iaload, 1) := by decide +kernel
theorem dX3_areToldApart_28 : decode cX3_areToldApart 28 = .ok (.i2l, 1) := by decide +kernel
theorem dX3_areToldApart_29 : decode cX3_areToldApart 29 = .ok (.lmul, 1) := by decide +kernel
theorem dX3_areToldApart_30 : decode cX3_areToldApart 30 = .ok (.lstore 7, 2) := by decide +kernel
theorem dX3_areToldApart_32 : decode cX3_areToldApart 32 = .ok (.ldc2_w 29, 3) := by decide +kernel
theorem dX3_areToldApart_35 : decode cX3_areToldApart 35 = .ok (.iload 4, 2) := by decide +kernel
theorem dX3_areToldApart_37 : decode cX3_areToldApart 37 = .ok (.i2l, 1) := by decide +kernel
theorem dX3_areToldApart_38 : decode cX3_areToldApart 38 = .ok (.lmul, 1) := by decide +kernel
theorem dX3_areToldApart_39 : decode cX3_areToldApart 39 = .ok (.lstore 9, 2) := by decide +kernel
theorem dX3_areToldApart_41 : decode cX3_areToldApart 41 = .ok (.lload 9, 2) := by decide +kernel
theorem dX3_areToldApart_43 : decode cX3_areToldApart 43 = .ok (.lconst 0, 1) := by decide +kernel
theorem dX3_areToldApart_44 : decode cX3_areToldApart 44 = .ok (.lcmp, 1) := by decide +kernel
theorem dX3_areToldApart_45 : decode cX3_areToldApart 45 = .ok (.ifCond .gt 5, 3) := by decide +kernel
theorem dX3_areToldApart_48 : decode cX3_areToldApart 48 = .ok (.iconst 0, 1) := by decide +kernel
theorem dX3_areToldApart_49 : decode cX3_areToldApart 49 = .ok (.ireturn, 1) := by decide +kernel
theorem dX3_areToldApart_50 : decode cX3_areToldApart 50 = .ok (.aload_n 0, 1) := by decide +kernel
theorem dX3_areToldApart_51 : decode cX3_areToldApart 51 = .ok (.getfield 9, 3) := by decide +kernel
theorem dX3_areToldApart_54 : decode cX3_areToldApart 54 = .ok (.iload_n 1, 1) := by decide +kernel
theorem dX3_areToldApart_55 : decode cX3_areToldApart 55 = .ok (.iaload, 1) := by decide +kernel
theorem dX3_areToldApart_56 : decode cX3_areToldApart 56 = .ok (.i2l, 1) := by decide +kernel
theorem dX3_areToldApart_57 : decode cX3_areToldApart 57 = .ok (.aload_n 0, 1) := by decide +kernel
theorem dX3_areToldApart_58 : decode cX3_areToldApart 58 = .ok (.getfield 9, 3) := by decide +kernel
theorem dX3_areToldApart_61 : decode cX3_areToldApart 61 = .ok (.iload_n 2, 1) := by decide +kernel
theorem dX3_areToldApart_62 : decode cX3_areToldApart 62 = .ok (.iaload, 1) := by decide +kernel
theorem dX3_areToldApart_63 : decode cX3_areToldApart 63 = .ok (.i2l, 1) := by decide +kernel
theorem dX3_areToldApart_64 : decode cX3_areToldApart 64 = .ok (.lmul, 1) := by decide +kernel
theorem dX3_areToldApart_65 : decode cX3_areToldApart 65 = .ok (.iload_n 3, 1) := by decide +kernel
theorem dX3_areToldApart_66 : decode cX3_areToldApart 66 = .ok (.i2l, 1) := by decide +kernel
theorem dX3_areToldApart_67 : decode cX3_areToldApart 67 = .ok (.lmul, 1) := by decide +kernel
theorem dX3_areToldApart_68 : decode cX3_areToldApart 68 = .ok (.lstore 11, 2) := by decide +kernel
theorem dX3_areToldApart_70 : decode cX3_areToldApart 70 = .ok (.lload 5, 2) := by decide +kernel
theorem dX3_areToldApart_72 : decode cX3_areToldApart 72 = .ok (.lload 7, 2) := by decide +kernel
theorem dX3_areToldApart_74 : decode cX3_areToldApart 74 = .ok (.lsub, 1) := by decide +kernel
theorem dX3_areToldApart_75 : decode cX3_areToldApart 75 = .ok (.invokestatic 31, 3) := by decide +kernel
theorem dX3_areToldApart_78 : decode cX3_areToldApart 78 = .ok (.lload 11, 2) := by decide +kernel
theorem dX3_areToldApart_80 : decode cX3_areToldApart 80 = .ok (.lneg, 1) := by decide +kernel
theorem dX3_areToldApart_81 : decode cX3_areToldApart 81 = .ok (.lload 9, 2) := by decide +kernel
theorem dX3_areToldApart_83 : decode cX3_areToldApart 83 = .ok (.invokestatic 35, 3) := by decide +kernel
theorem dX3_areToldApart_86 : decode cX3_areToldApart 86 = .ok (.lneg, 1) := by decide +kernel
theorem dX3_areToldApart_87 : decode cX3_areToldApart 87 = .ok (.lcmp, 1) := by decide +kernel
theorem dX3_areToldApart_88 : decode cX3_areToldApart 88 = .ok (.ifCond .lt 7, 3) := by decide +kernel
theorem dX3_areToldApart_91 : decode cX3_areToldApart 91 = .ok (.iconst 1, 1) := by decide +kernel
theorem dX3_areToldApart_92 : decode cX3_areToldApart 92 = .ok (.goto 4, 3) := by decide +kernel
theorem dX3_areToldApart_95 : decode cX3_areToldApart 95 = .ok (.iconst 0, 1) := by decide +kernel
theorem dX3_areToldApart_96 : decode cX3_areToldApart 96 = .ok (.ireturn, 1) := by decide +kernel
theorem dX4_init_0 : decode cX4_init 0 = .ok (.aload_n 0, 1) := by decide +kernel
theorem dX4_init_1 : decode cX4_init 1 = .ok (.invokespecial 3, 3) := by decide +kernel
theorem dX4_init_4 : decode cX4_init 4 = .ok (.aload_n 0, 1) := by decide +kernel
theorem dX4_init_5 : decode cX4_init 5 = .ok (.bipush 9, 2) := by decide +kernel
theorem dX4_init_7 : decode cX4_init 7 = .ok (.newarray .int, 2) := by decide +kernel
theorem dX4_init_9 : decode cX4_init 9 = .ok (.putfield 9, 3) := by decide +kernel
theorem dX4_init_12 : decode cX4_init 12 = .ok (.iconst 0, 1) := by decide +kernel
theorem dX4_init_13 : decode cX4_init 13 = .ok (.istore_n 1, 1) := by decide +kernel
theorem dX4_init_14 : decode cX4_init 14 = .ok (.iload_n 1, 1) := by decide +kernel
theorem dX4_init_15 : decode cX4_init 15 = .ok (.bipush 9, 2) := by decide +kernel
theorem dX4_init_17 : decode cX4_init 17 = .ok (.if_icmp .ge 17, 3) := by decide +kernel
theorem dX4_init_20 : decode cX4_init 20 = .ok (.aload_n 0, 1) := by decide +kernel
theorem dX4_init_21 : decode cX4_init 21 = .ok (.getfield 9, 3) := by decide +kernel
theorem dX4_init_24 : decode cX4_init 24 = .ok (.iload_n 1, 1) := by decide +kernel
theorem dX4_init_25 : decode cX4_init 25 = .ok (.ldc 15, 2) := by decide +kernel
theorem dX4_init_27 : decode cX4_init 27 = .ok (.iastore, 1) := by decide +kernel
theorem dX4_init_28 : decode cX4_init 28 = .ok (.iinc 1 1, 3) := by decide +kernel
theorem dX4_init_31 : decode cX4_init 31 = .ok (.goto (-17), 3) := by decide +kernel
theorem dX4_init_34 : decode cX4_init 34 = .ok (.return_, 1) := by decide +kernel
theorem dX4_runFrom_0 : decode cX4_runFrom 0 = .ok (.aload_n 0, 1) := by decide +kernel
theorem dX4_runFrom_1 : decode cX4_runFrom 1 = .ok (.iload_n 1, 1) := by decide +kernel
theorem dX4_runFrom_2 : decode cX4_runFrom 2 = .ok (.putfield 16, 3) := by decide +kernel
theorem dX4_runFrom_5 : decode cX4_runFrom 5 = .ok (.aload_n 0, 1) := by decide +kernel
theorem dX4_runFrom_6 : decode cX4_runFrom 6 = .ok (.iload_n 2, 1) := by decide +kernel
theorem dX4_runFrom_7 : decode cX4_runFrom 7 = .ok (.putfield 20, 3) := by decide +kernel
theorem dX4_runFrom_10 : decode cX4_runFrom 10 = .ok (.aload_n 0, 1) := by decide +kernel
theorem dX4_runFrom_11 : decode cX4_runFrom 11 = .ok (.iload_n 3, 1) := by decide +kernel
theorem dX4_runFrom_12 : decode cX4_runFrom 12 = .ok (.putfield 23, 3) := by decide +kernel
theorem dX4_runFrom_15 : decode cX4_runFrom 15 = .ok (.return_, 1) := by decide +kernel
theorem dX4_runTo_0 : decode cX4_runTo 0 = .ok (.aload_n 0, 1) := by decide +kernel
theorem dX4_runTo_1 : decode cX4_runTo 1 = .ok (.iload_n 1, 1) := by decide +kernel
theorem dX4_runTo_2 : decode cX4_runTo 2 = .ok (.aload_n 0, 1) := by decide +kernel
theorem dX4_runTo_3 : decode cX4_runTo 3 = .ok (.getfield 16, 3) := by decide +kernel
theorem dX4_runTo_6 : decode cX4_runTo 6 = .ok (.isub, 1) := by decide +kernel
theorem dX4_runTo_7 : decode cX4_runTo 7 = .ok (.putfield 26, 3) := by decide +kernel
theorem dX4_runTo_10 : decode cX4_runTo 10 = .ok (.aload_n 0, 1) := by decide +kernel
theorem dX4_runTo_11 : decode cX4_runTo 11 = .ok (.iload_n 2, 1) := by decide +kernel
theorem dX4_runTo_12 : decode cX4_runTo 12 = .ok (.aload_n 0, 1) := by decide +kernel
theorem dX4_runTo_13 : decode cX4_runTo 13 = .ok (.getfield 20, 3) := by decide +kernel
theorem dX4_runTo_16 : decode cX4_runTo 16 = .ok (.isub, 1) := by decide +kernel
theorem dX4_runTo_17 : decode cX4_runTo 17 = .ok (.putfield 29, 3) := by decide +kernel
theorem dX4_runTo_20 : decode cX4_runTo 20 = .ok (.aload_n 0, 1) := by decide +kernel
theorem dX4_runTo_21 : decode cX4_runTo 21 = .ok (.iload_n 3, 1) := by decide +kernel
theorem dX4_runTo_22 : decode cX4_runTo 22 = .ok (.aload_n 0, 1) := by decide +kernel
theorem dX4_runTo_23 : decode cX4_runTo 23 = .ok (.getfield 23, 3) := by decide +kernel
theorem dX4_runTo_26 : decode cX4_runTo 26 = .ok (.isub, 1) := by decide +kernel
theorem dX4_runTo_27 : decode cX4_runTo 27 = .ok (.putfield 32, 3) := by decide +kernel
theorem dX4_runTo_30 : decode cX4_runTo 30 = .ok (.return_, 1) := by decide +kernel
theorem dX4_heightTimesBelow_0 : decode cX4_heightTimesBelow 0 = .ok (.lload_n 3, 1) := by decide +kernel
theorem dX4_heightTimesBelow_1 : decode cX4_heightTimesBelow 1 = .ok (.lconst 0, 1) := by decide +kernel
theorem dX4_heightTimesBelow_2 : decode cX4_heightTimesBelow 2 = .ok (.lcmp, 1) := by decide +kernel
theorem dX4_heightTimesBelow_3 : decode cX4_heightTimesBelow 3 = .ok (.ifCond .le 15, 3) := by decide +kernel
theorem dX4_heightTimesBelow_6 : decode cX4_heightTimesBelow 6 = .ok (.lload_n 1, 1) := by decide +kernel
theorem dX4_heightTimesBelow_7 : decode cX4_heightTimesBelow 7 = .ok (.lconst 0, 1) := by decide +kernel
theorem dX4_heightTimesBelow_8 : decode cX4_heightTimesBelow 8 = .ok (.lcmp, 1) := by decide +kernel
theorem dX4_heightTimesBelow_9 : decode cX4_heightTimesBelow 9 = .ok (.ifCond .lt 9, 3) := by decide +kernel
theorem dX4_heightTimesBelow_12 : decode cX4_heightTimesBelow 12 = .ok (.lload_n 1, 1) := by decide +kernel
theorem dX4_heightTimesBelow_13 : decode cX4_heightTimesBelow 13 = .ok (.lload_n 3, 1) := by decide +kernel
theorem dX4_heightTimesBelow_14 : decode cX4_heightTimesBelow 14 = .ok (.lcmp, 1) := by decide +kernel
theorem dX4_heightTimesBelow_15 : decode cX4_heightTimesBelow 15 = .ok (.ifCond .le 7, 3) := by decide +kernel
theorem dX4_heightTimesBelow_18 : decode cX4_heightTimesBelow 18 = .ok (.ldc2_w 35, 3) := by decide +kernel
theorem dX4_heightTimesBelow_21 : decode cX4_heightTimesBelow 21 = .ok (.lreturn, 1) := by decide +kernel
theorem dX4_heightTimesBelow_22 : decode cX4_heightTimesBelow 22 = .ok (.ldc2_w 37, 3) := by decide +kernel
theorem dX4_heightTimesBelow_25 : decode cX4_heightTimesBelow 25 = .ok (.lload_n 1, 1) := by decide +kernel
theorem dX4_heightTimesBelow_26 : decode cX4_heightTimesBelow 26 = .ok (.lmul, 1) := by decide +kernel
theorem dX4_heightTimesBelow_27 : decode cX4_heightTimesBelow 27 = .ok (.lload_n 3, 1) := by decide +kernel
theorem dX4_heightTimesBelow_28 : decode cX4_heightTimesBelow 28 = .ok (.ldiv, 1) := by decide +kernel
theorem dX4_heightTimesBelow_29 : decode cX4_heightTimesBelow 29 = .ok (.l2i, 1) := by decide +kernel
theorem dX4_heightTimesBelow_30 : decode cX4_heightTimesBelow 30 = .ok (.istore 5, 2) := by decide +kernel
theorem dX4_heightTimesBelow_32 : decode cX4_heightTimesBelow 32 = .ok (.ldc2_w 37, 3) := by decide +kernel
theorem dX4_heightTimesBelow_35 : decode cX4_heightTimesBelow 35 = .ok (.lload_n 1, 1) := by decide +kernel
theorem dX4_heightTimesBelow_36 : decode cX4_heightTimesBelow 36 = .ok (.lmul, 1) := by decide +kernel
theorem dX4_heightTimesBelow_37 : decode cX4_heightTimesBelow 37 = .ok (.iload 5, 2) := by decide +kernel
theorem dX4_heightTimesBelow_39 : decode cX4_heightTimesBelow 39 = .ok (.i2l, 1) := by decide +kernel
theorem dX4_heightTimesBelow_40 : decode cX4_heightTimesBelow 40 = .ok (.lload_n 3, 1) := by decide +kernel
theorem dX4_heightTimesBelow_41 : decode cX4_heightTimesBelow 41 = .ok (.lmul, 1) := by decide +kernel
theorem dX4_heightTimesBelow_42 : decode cX4_heightTimesBelow 42 = .ok (.lsub, 1) := by decide +kernel
theorem dX4_heightTimesBelow_43 : decode cX4_heightTimesBelow 43 = .ok (.lstore 6, 2) := by decide +kernel
theorem dX4_heightTimesBelow_45 : decode cX4_heightTimesBelow 45 = .ok (.aload_n 0, 1) := by decide +kernel
theorem dX4_heightTimesBelow_46 : decode cX4_heightTimesBelow 46 = .ok (.getfield 9, 3) := by decide +kernel
theorem dX4_heightTimesBelow_49 : decode cX4_heightTimesBelow 49 = .ok (.iload 5, 2) := by decide +kernel
theorem dX4_heightTimesBelow_51 : decode cX4_heightTimesBelow 51 = .ok (.iaload, 1) := by decide +kernel
theorem dX4_heightTimesBelow_52 : decode cX4_heightTimesBelow 52 = .ok (.ldc 15, 2) := by decide +kernel
theorem dX4_heightTimesBelow_54 : decode cX4_heightTimesBelow 54 = .ok (.if_icmp .ne 7, 3) := by decide +kernel
theorem dX4_heightTimesBelow_57 : decode cX4_heightTimesBelow 57 = .ok (.ldc2_w 35, 3) := by decide +kernel
theorem dX4_heightTimesBelow_60 : decode cX4_heightTimesBelow 60 = .ok (.lreturn, 1) := by decide +kernel
theorem dX4_heightTimesBelow_61 : decode cX4_heightTimesBelow 61 = .ok (.lload 6, 2) := by decide +kernel
theorem dX4_heightTimesBelow_63 : decode cX4_heightTimesBelow 63 = .ok (.lconst 0, 1) := by decide +kernel
theorem dX4_heightTimesBelow_64 : decode cX4_heightTimesBelow 64 = .ok (.lcmp, 1) := by decide +kernel
theorem dX4_heightTimesBelow_65 : decode cX4_heightTimesBelow 65 = .ok (.ifCond .eq 10, 3) := by decide +kernel
theorem dX4_heightTimesBelow_68 : decode cX4_heightTimesBelow 68 = .ok (.iload 5, 2) := by decide +kernel
theorem dX4_heightTimesBelow_70 : decode cX4_heightTimesBelow 70 = .ok (.bipush 8, 2) := by decide +kernel
theorem dX4_heightTimesBelow_72 : decode cX4_heightTimesBelow 72 = .ok (.if_icmp .lt 14, 3) := by decide +kernel
theorem dX4_heightTimesBelow_75 : decode cX4_heightTimesBelow 75 = .ok (.aload_n 0, 1) := by decide +kernel
theorem dX4_heightTimesBelow_76 : decode cX4_heightTimesBelow 76 = .ok (.getfield 9, 3) := by decide +kernel
theorem dX4_heightTimesBelow_79 : decode cX4_heightTimesBelow 79 = .ok (.iload 5, 2) := by decide +kernel
theorem dX4_heightTimesBelow_81 : decode cX4_heightTimesBelow 81 = .ok (.iaload, 1) := by decide +kernel
theorem dX4_heightTimesBelow_82 : decode cX4_heightTimesBelow 82 = .ok (.i2l, 1) := by decide +kernel
theorem dX4_heightTimesBelow_83 : decode cX4_heightTimesBelow 83 = .ok (.lload_n 3, 1) := by decide +kernel
theorem dX4_heightTimesBelow_84 : decode cX4_heightTimesBelow 84 = .ok (.lmul, 1) := by decide +kernel
theorem dX4_heightTimesBelow_85 : decode cX4_heightTimesBelow 85 = .ok (.lreturn, 1) := by decide +kernel
theorem dX4_heightTimesBelow_86 : decode cX4_heightTimesBelow 86 = .ok (.aload_n 0, 1) := by decide +kernel
theorem dX4_heightTimesBelow_87 : decode cX4_heightTimesBelow 87 = .ok (.getfield 9, 3) := by decide +kernel
theorem dX4_heightTimesBelow_90 : decode cX4_heightTimesBelow 90 = .ok (.iload 5, 2) := by decide +kernel
theorem dX4_heightTimesBelow_92 : decode cX4_heightTimesBelow 92 = .ok (.iconst 1, 1) := by decide +kernel
theorem dX4_heightTimesBelow_93 : decode cX4_heightTimesBelow 93 = .ok (.iadd, 1) := by decide +kernel
theorem dX4_heightTimesBelow_94 : decode cX4_heightTimesBelow 94 = .ok (.iaload, 1) := by decide +kernel
theorem dX4_heightTimesBelow_95 : decode cX4_heightTimesBelow 95 = .ok (.ldc 15, 2) := by decide +kernel
theorem dX4_heightTimesBelow_97 : decode cX4_heightTimesBelow 97 = .ok (.if_icmp .ne 7, 3) := by decide +kernel
theorem dX4_heightTimesBelow_100 : decode cX4_heightTimesBelow 100 = .ok (.ldc2_w 35, 3) := by decide +kernel
theorem dX4_heightTimesBelow_103 : decode cX4_heightTimesBelow 103 = .ok (.lreturn, 1) := by decide +kernel
theorem dX4_heightTimesBelow_104 : decode cX4_heightTimesBelow 104 = .ok (.aload_n 0, 1) := by decide +kernel
theorem dX4_heightTimesBelow_105 : decode cX4_heightTimesBelow 105 = .ok (.getfield 9, 3) := by decide +kernel
theorem dX4_heightTimesBelow_108 : decode cX4_heightTimesBelow 108 = .ok (.iload 5, 2) := by decide +kernel
theorem dX4_heightTimesBelow_110 : decode cX4_heightTimesBelow 110 = .ok (.iaload, 1) := by decide +kernel
theorem dX4_heightTimesBelow_111 : decode cX4_heightTimesBelow 111 = .ok (.i2l, 1) := by decide +kernel
theorem dX4_heightTimesBelow_112 : decode cX4_heightTimesBelow 112 = .ok (.lload_n 3, 1) := by decide +kernel
theorem dX4_heightTimesBelow_113 : decode cX4_heightTimesBelow 113 = .ok (.lmul, 1) := by decide +kernel
theorem dX4_heightTimesBelow_114 : decode cX4_heightTimesBelow 114 = .ok (.aload_n 0, 1) := by decide +kernel
theorem dX4_heightTimesBelow_115 : decode cX4_heightTimesBelow 115 = .ok (.getfield 9, 3) := by decide +kernel
theorem dX4_heightTimesBelow_118 : decode cX4_heightTimesBelow 118 = .ok (.iload 5, 2) := by decide +kernel
theorem dX4_heightTimesBelow_120 : decode cX4_heightTimesBelow 120 = .ok (.iconst 1, 1) := by decide +kernel
theorem dX4_heightTimesBelow_121 : decode cX4_heightTimesBelow 121 = .ok (.iadd, 1) := by decide +kernel
theorem dX4_heightTimesBelow_122 : decode cX4_heightTimesBelow 122 = .ok (.iaload, 1) := by decide +kernel
theorem dX4_heightTimesBelow_123 : decode cX4_heightTimesBelow 123 = .ok (.aload_n 0, 1) := by decide +kernel
theorem dX4_heightTimesBelow_124 : decode cX4_heightTimesBelow 124 = .ok (.getfield 9, 3) := by decide +kernel
theorem dX4_heightTimesBelow_127 : decode cX4_heightTimesBelow 127 = .ok (.iload 5, 2) := by decide +kernel
theorem dX4_heightTimesBelow_129 : decode cX4_heightTimesBelow 129 = .ok (.iaload, 1) := by decide +kernel
theorem dX4_heightTimesBelow_130 : decode cX4_heightTimesBelow 130 = .ok (.isub, 1) := by decide +kernel
theorem dX4_heightTimesBelow_131 : decode cX4_heightTimesBelow 131 = .ok (.i2l, 1) := by decide +kernel
theorem dX4_heightTimesBelow_132 : decode cX4_heightTimesBelow 132 = .ok (.lload 6, 2) := by decide +kernel
theorem dX4_heightTimesBelow_134 : decode cX4_heightTimesBelow 134 = .ok (.lmul, 1) := by decide +kernel
theorem dX4_heightTimesBelow_135 : decode cX4_heightTimesBelow 135 = .ok (.ladd, 1) := by decide +kernel
theorem dX4_heightTimesBelow_136 : decode cX4_heightTimesBelow 136 = .ok (.lreturn, 1) := by decide +kernel
theorem dX4_readingsIn_0 : decode cX4_readingsIn 0 = .ok (.iconst 0, 1) := by decide +kernel
theorem dX4_readingsIn_1 : decode cX4_readingsIn 1 = .ok (.istore 4, 2) := by decide +kernel
theorem dX4_readingsIn_3 : decode cX4_readingsIn 3 = .ok (.iconst 0, 1) := by decide +kernel
theorem dX4_readingsIn_4 : decode cX4_readingsIn 4 = .ok (.istore 5, 2) := by decide +kernel
theorem dX4_readingsIn_6 : decode cX4_readingsIn 6 = .ok (.iload 5, 2) := by decide +kernel
theorem dX4_readingsIn_8 : decode cX4_readingsIn 8 = .ok (.bipush 9, 2) := by decide +kernel
theorem dX4_readingsIn_10 : decode cX4_readingsIn 10 = .ok (.if_icmp .ge 36, 3) := by decide +kernel
theorem dX4_readingsIn_13 : decode cX4_readingsIn 13 = .ok (.aload_n 0, 1) := by decide +kernel
theorem dX4_readingsIn_14 : decode cX4_readingsIn 14 = .ok (.getfield 9, 3) := by decide +kernel
theorem dX4_readingsIn_17 : decode cX4_readingsIn 17 = .ok (.iload 5, 2) := by decide +kernel
theorem dX4_readingsIn_19 : decode cX4_readingsIn 19 = .ok (.iaload, 1) := by decide +kernel
theorem dX4_readingsIn_20 : decode cX4_readingsIn 20 = .ok (.ldc 15, 2) := by decide +kernel
theorem dX4_readingsIn_22 : decode cX4_readingsIn 22 = .ok (.if_icmp .eq 18, 3) := by decide +kernel
theorem dX4_readingsIn_25 : decode cX4_readingsIn 25 = .ok (.aload_n 0, 1) := by decide +kernel
theorem dX4_readingsIn_26 : decode cX4_readingsIn 26 = .ok (.iload 5, 2) := by decide +kernel
theorem dX4_readingsIn_28 : decode cX4_readingsIn 28 = .ok (.iload_n 1, 1) := by decide +kernel
theorem dX4_readingsIn_29 : decode cX4_readingsIn 29 = .ok (.iload_n 2, 1) := by decide +kernel
theorem dX4_readingsIn_30 : decode cX4_readingsIn 30 = .ok (.iload_n 3, 1) := by decide +kernel
theorem dX4_readingsIn_31 : decode cX4_readingsIn 31 = .ok (.invokevirtual 39, 3) := by decide +kernel
theorem dX4_readingsIn_34 : decode cX4_readingsIn 34 = .ok (.ifCond .eq 6, 3) := by decide +kernel
theorem dX4_readingsIn_37 : decode cX4_readingsIn 37 = .ok (.iinc 4 1, 3) := by decide +kernel
theorem dX4_readingsIn_40 : decode cX4_readingsIn 40 = .ok (.iinc 5 1, 3) := by decide +kernel
theorem dX4_readingsIn_43 : decode cX4_readingsIn 43 = .ok (.goto (-37), 3) := by decide +kernel
theorem dX4_readingsIn_46 : decode cX4_readingsIn 46 = .ok (.iload 4, 2) := by decide +kernel
theorem dX4_readingsIn_48 : decode cX4_readingsIn 48 = .ok (.ireturn, 1) := by decide +kernel
theorem dX4_heightsIn_0 : decode cX4_heightsIn 0 = .ok (.lconst 0, 1) := by decide +kernel
theorem dX4_heightsIn_1 : decode cX4_heightsIn 1 = .ok (.lstore 4, 2) := by decide +kernel
theorem dX4_heightsIn_3 : decode cX4_heightsIn 3 = .ok (.iconst 0, 1) := by decide +kernel
theorem dX4_heightsIn_4 : decode cX4_heightsIn 4 = .ok (.istore 6, 2) := by decide +kernel
theorem dX4_heightsIn_6 : decode cX4_heightsIn 6 = .ok (.iload 6, 2) := by decide +kernel
theorem dX4_heightsIn_8 : decode cX4_heightsIn 8 = .ok (.bipush 9, 2) := by decide +kernel
theorem dX4_heightsIn_10 : decode cX4_heightsIn 10 = .ok (.if_icmp .ge 46, 3) := by decide +kernel
theorem dX4_heightsIn_13 : decode cX4_heightsIn 13 = .ok (.aload_n 0, 1) := by decide +kernel
theorem dX4_heightsIn_14 : decode cX4_heightsIn 14 = .ok (.getfield 9, 3) := by decide +kernel
theorem dX4_heightsIn_17 : decode cX4_heightsIn 17 = .ok (.iload 6, 2) := by decide +kernel
theorem dX4_heightsIn_19 : decode cX4_heightsIn 19 = .ok (.iaload, 1) := by decide +kernel
theorem dX4_heightsIn_20 : decode cX4_heightsIn 20 = .ok (.ldc 15, 2) := by decide +kernel
theorem dX4_heightsIn_22 : decode cX4_heightsIn 22 = .ok (.if_icmp .eq 28, 3) := by decide +kernel
theorem dX4_heightsIn_25 : decode cX4_heightsIn 25 = .ok (.aload_n 0, 1) := by decide +kernel
theorem dX4_heightsIn_26 : decode cX4_heightsIn 26 = .ok (.iload 6, 2) := by decide +kernel
theorem dX4_heightsIn_28 : decode cX4_heightsIn 28 = .ok (.iload_n 1, 1) := by decide +kernel
theorem dX4_heightsIn_29 : decode cX4_heightsIn 29 = .ok (.iload_n 2, 1) := by decide +kernel
theorem dX4_heightsIn_30 : decode cX4_heightsIn 30 = .ok (.iload_n 3, 1) := by decide +kernel
theorem dX4_heightsIn_31 : decode cX4_heightsIn 31 = .ok (.invokevirtual 39, 3) := by decide +kernel
theorem dX4_heightsIn_34 : decode cX4_heightsIn 34 = .ok (.ifCond .eq 16, 3) := by decide +kernel
theorem dX4_heightsIn_37 : decode cX4_heightsIn 37 = .ok (.lload 4, 2) := by decide +kernel
theorem dX4_heightsIn_39 : decode cX4_heightsIn 39 = .ok (.aload_n 0, 1) := by decide +kernel
theorem dX4_heightsIn_40 : decode cX4_heightsIn 40 = .ok (.getfield 9, 3) := by decide +kernel
theorem dX4_heightsIn_43 : decode cX4_heightsIn 43 = .ok (.iload 6, 2) := by decide +kernel
theorem dX4_heightsIn_45 : decode cX4_heightsIn 45 = .ok (.iaload, 1) := by decide +kernel
theorem dX4_heightsIn_46 : decode cX4_heightsIn 46 = .ok (.i2l, 1) := by decide +kernel
theorem dX4_heightsIn_47 : decode cX4_heightsIn 47 = .ok (.ladd, 1) := by decide +kernel
theorem dX4_heightsIn_48 : decode cX4_heightsIn 48 = .ok (.lstore 4, 2) := by decide +kernel
theorem dX4_heightsIn_50 : decode cX4_heightsIn 50 = .ok (.iinc 6 1, 3) := by decide +kernel
theorem dX4_heightsIn_53 : decode cX4_heightsIn 53 = .ok (.goto (-47), 3) := by decide +kernel
theorem dX4_heightsIn_56 : decode cX4_heightsIn 56 = .ok (.lload 4, 2) := by decide +kernel
theorem dX4_heightsIn_58 : decode cX4_heightsIn 58 = .ok (.lreturn, 1) := by decide +kernel
theorem dX4_isIn_0 : decode cX4_isIn 0 = .ok (.iload_n 2, 1) := by decide +kernel
theorem dX4_isIn_1 : decode cX4_isIn 1 = .ok (.ifCond .gt 5, 3) := by decide +kernel
theorem dX4_isIn_4 : decode cX4_isIn 4 = .ok (.iconst 0, 1) := by decide +kernel
theorem dX4_isIn_5 : decode cX4_isIn 5 = .ok (.ireturn, 1) := by decide +kernel
theorem dX4_isIn_6 : decode cX4_isIn 6 = .ok (.bipush 8, 2) := by decide +kernel
theorem dX4_isIn_8 : decode cX4_isIn 8 = .ok (.aload_n 0, 1) := by decide +kernel
theorem dX4_isIn_9 : decode cX4_isIn 9 = .ok (.getfield 16, 3) := by decide +kernel
theorem dX4_isIn_12 : decode cX4_isIn 12 = .ok (.imul, 1) := by decide +kernel
theorem dX4_isIn_13 : decode cX4_isIn 13 = .ok (.aload_n 0, 1) := by decide +kernel
theorem dX4_isIn_14 : decode cX4_isIn 14 = .ok (.getfield 26, 3) := by decide +kernel
theorem dX4_isIn_17 : decode cX4_isIn 17 = .ok (.iload_n 1, 1) := by decide +kernel
theorem dX4_isIn_18 : decode cX4_isIn 18 = .ok (.imul, 1) := by decide +kernel
theorem dX4_isIn_19 : decode cX4_isIn 19 = .ok (.iadd, 1) := by decide +kernel
theorem dX4_isIn_20 : decode cX4_isIn 20 = .ok (.istore 5, 2) := by decide +kernel
theorem dX4_isIn_22 : decode cX4_isIn 22 = .ok (.bipush 8, 2) := by decide +kernel
theorem dX4_isIn_24 : decode cX4_isIn 24 = .ok (.aload_n 0, 1) := by decide +kernel
theorem dX4_isIn_25 : decode cX4_isIn 25 = .ok (.getfield 20, 3) := by decide +kernel
theorem dX4_isIn_28 : decode cX4_isIn 28 = .ok (.imul, 1) := by decide +kernel
theorem dX4_isIn_29 : decode cX4_isIn 29 = .ok (.aload_n 0, 1) := by decide +kernel
theorem dX4_isIn_30 : decode cX4_isIn 30 = .ok (.getfield 29, 3) := by decide +kernel
theorem dX4_isIn_33 : decode cX4_isIn 33 = .ok (.iload_n 1, 1) := by decide +kernel
theorem dX4_isIn_34 : decode cX4_isIn 34 = .ok (.imul, 1) := by decide +kernel
theorem dX4_isIn_35 : decode cX4_isIn 35 = .ok (.iadd, 1) := by decide +kernel
theorem dX4_isIn_36 : decode cX4_isIn 36 = .ok (.istore 6, 2) := by decide +kernel
theorem dX4_isIn_38 : decode cX4_isIn 38 = .ok (.iload 5, 2) := by decide +kernel
theorem dX4_isIn_40 : decode cX4_isIn 40 = .ok (.bipush 8, 2) := by decide +kernel
theorem dX4_isIn_42 : decode cX4_isIn 42 = .ok (.iload_n 2, 1) := by decide +kernel
theorem dX4_isIn_43 : decode cX4_isIn 43 = .ok (.imul, 1) := by decide +kernel
theorem dX4_isIn_44 : decode cX4_isIn 44 = .ok (.invokestatic 43, 3) := by decide +kernel
theorem dX4_isIn_47 : decode cX4_isIn 47 = .ok (.iload_n 3, 1) := by decide +kernel
theorem dX4_isIn_48 : decode cX4_isIn 48 = .ok (.if_icmp .ne 21, 3) := by decide +kernel
theorem dX4_isIn_51 : decode cX4_isIn 51 = .ok (.iload 6, 2) := by decide +kernel
theorem dX4_isIn_53 : decode cX4_isIn 53 = .ok (.bipush 8, 2) := by decide +kernel
theorem dX4_isIn_55 : decode cX4_isIn 55 = .ok (.iload_n 2, 1) := by decide +kernel
theorem dX4_isIn_56 : decode cX4_isIn 56 = .ok (.imul, 1) := by decide +kernel
theorem dX4_isIn_57 : decode cX4_isIn 57 = .ok (.invokestatic 43, 3) := by decide +kernel
theorem dX4_isIn_60 : decode cX4_isIn 60 = .ok (.iload 4, 2) := by decide +kernel
theorem dX4_isIn_62 : decode cX4_isIn 62 = .ok (.if_icmp .ne 7, 3) := by decide +kernel
theorem dX4_isIn_65 : decode cX4_isIn 65 = .ok (.iconst 1, 1) := by decide +kernel
theorem dX4_isIn_66 : decode cX4_isIn 66 = .ok (.goto 4, 3) := by decide +kernel
theorem dX4_isIn_69 : decode cX4_isIn 69 = .ok (.iconst 0, 1) := by decide +kernel
theorem dX4_isIn_70 : decode cX4_isIn 70 = .ok (.ireturn, 1) := by decide +kernel
