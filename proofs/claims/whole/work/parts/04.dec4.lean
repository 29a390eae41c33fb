theorem dX11_needRallies_20 : decode cX11_needRallies 20 = .ok (.athrow, 1) := by decide +kernel
theorem dX11_needRallies_21 : decode cX11_needRallies 21 = .ok (.return_, 1) := by decide +kernel
theorem dX11_needWhat_0 : decode cX11_needWhat 0 = .ok (.iload_n 0, 1) := by decide +kernel
theorem dX11_needWhat_1 : decode cX11_needWhat 1 = .ok (.ifCond .lt 8, 3) := by decide +kernel
theorem dX11_needWhat_4 : decode cX11_needWhat 4 = .ok (.iload_n 0, 1) := by decide +kernel
theorem dX11_needWhat_5 : decode cX11_needWhat 5 = .ok (.iload_n 1, 1) := by decide +kernel
theorem dX11_needWhat_6 : decode cX11_needWhat 6 = .ok (.if_icmp .lt 14, 3) := by decide +kernel
theorem dX11_needWhat_9 : decode cX11_needWhat 9 = .ok (.new 329, 3) := by decide +kernel
theorem dX11_needWhat_12 : decode cX11_needWhat 12 = .ok (.dup, 1) := by decide +kernel
theorem dX11_needWhat_13 : decode cX11_needWhat 13 = .ok (.ldc_w 331, 3) := by decide +kernel
theorem dX11_needWhat_16 : decode cX11_needWhat 16 = .ok (.invokespecial 333, 3) := by decide +kernel
theorem dX11_needWhat_19 : decode cX11_needWhat 19 = .ok (.athrow, 1) := by decide +kernel
theorem dX11_needWhat_20 : decode cX11_needWhat 20 = .ok (.return_, 1) := by decide +kernel
theorem dX11_needGoingOn_0 : decode cX11_needGoingOn 0 = .ok (.aload_n 1, 1) := by decide +kernel
theorem dX11_needGoingOn_1 : decode cX11_needGoingOn 1 = .ok (.aload_n 0, 1) := by decide +kernel
theorem dX11_needGoingOn_2 : decode cX11_needGoingOn 2 = .ok (.getfield 30, 3) := by decide +kernel
theorem dX11_needGoingOn_5 : decode cX11_needGoingOn 5 = .ok (.getfield 60, 3) := by decide +kernel
theorem dX11_needGoingOn_8 : decode cX11_needGoingOn 8 = .ok (.invokevirtual 298, 3) := by decide +kernel
theorem dX11_needGoingOn_11 : decode cX11_needGoingOn 11 = .ok (.ifCond .eq 14, 3) := by decide +kernel
theorem dX11_needGoingOn_14 : decode cX11_needGoingOn 14 = .ok (.new 334, 3) := by decide +kernel
theorem dX11_needGoingOn_17 : decode cX11_needGoingOn 17 = .ok (.dup, 1) := by decide +kernel
theorem dX11_needGoingOn_18 : decode cX11_needGoingOn 18 = .ok (.ldc_w 336, 3) := by decide +kernel
theorem dX11_needGoingOn_21 : decode cX11_needGoingOn 21 = .ok (.invokespecial 338, 3) := by decide +kernel
theorem dX11_needGoingOn_24 : decode cX11_needGoingOn 24 = .ok (.athrow, 1) := by decide +kernel
theorem dX11_needGoingOn_25 : decode cX11_needGoingOn 25 = .ok (.return_, 1) := by decide +kernel
theorem dX11_needLog_0 : decode cX11_needLog 0 = .ok (.iload_n 1, 1) := by decide +kernel
theorem dX11_needLog_1 : decode cX11_needLog 1 = .ok (.iconst 2, 1) := by decide +kernel
theorem dX11_needLog_2 : decode cX11_needLog 2 = .ok (.irem, 1) := by decide +kernel
theorem dX11_needLog_3 : decode cX11_needLog 3 = .ok (.ifCond .ne 13, 3) := by decide +kernel
theorem dX11_needLog_6 : decode cX11_needLog 6 = .ok (.iload_n 1, 1) := by decide +kernel
theorem dX11_needLog_7 : decode cX11_needLog 7 = .ok (.bipush 60, 2) := by decide +kernel
theorem dX11_needLog_9 : decode cX11_needLog 9 = .ok (.if_icmp .gt 7, 3) := by decide +kernel
theorem dX11_needLog_12 : decode cX11_needLog 12 = .ok (.iconst 1, 1) := by decide +kernel
theorem dX11_needLog_13 : decode cX11_needLog 13 = .ok (.goto 4, 3) := by decide +kernel
theorem dX11_needLog_16 : decode cX11_needLog 16 = .ok (.iconst 0, 1) := by decide +kernel
theorem dX11_needLog_17 : decode cX11_needLog 17 = .ok (.istore_n 2, 1) := by decide +kernel
theorem dX11_needLog_18 : decode cX11_needLog 18 = .ok (.iconst 0, 1) := by decide +kernel
theorem dX11_needLog_19 : decode cX11_needLog 19 = .ok (.istore_n 3, 1) := by decide +kernel
theorem dX11_needLog_20 : decode cX11_needLog 20 = .ok (.iload_n 2, 1) := by decide +kernel
theorem dX11_needLog_21 : decode cX11_needLog 21 = .ok (.ifCond .eq 80, 3) := by decide +kernel
theorem dX11_needLog_24 : decode cX11_needLog 24 = .ok (.iload_n 3, 1) := by decide +kernel
theorem dX11_needLog_25 : decode cX11_needLog 25 = .ok (.iconst 1, 1) := by decide +kernel
theorem dX11_needLog_26 : decode cX11_needLog 26 = .ok (.iadd, 1) := by decide +kernel
theorem dX11_needLog_27 : decode cX11_needLog 27 = .ok (.iload_n 1, 1) := by decide +kernel
theorem dX11_needLog_28 : decode cX11_needLog 28 = .ok (.if_icmp .ge 73, 3) := by decide +kernel
theorem dX11_needLog_31 : decode cX11_needLog 31 = .ok (.aload_n 0, 1) := by decide +kernel
theorem dX11_needLog_32 : decode cX11_needLog 32 = .ok (.getfield 9, 3) := by decide +kernel
theorem dX11_needLog_35 : decode cX11_needLog 35 = .ok (.iload_n 3, 1) := by decide +kernel
theorem dX11_needLog_36 : decode cX11_needLog 36 = .ok (.baload, 1) := by decide +kernel
theorem dX11_needLog_37 : decode cX11_needLog 37 = .ok (.invokestatic 269, 3) := by decide +kernel
theorem dX11_needLog_40 : decode cX11_needLog 40 = .ok (.istore 4, 2) := by decide +kernel
theorem dX11_needLog_42 : decode cX11_needLog 42 = .ok (.iload 4, 2) := by decide +kernel
theorem dX11_needLog_44 : decode cX11_needLog 44 = .ok (.iconst 2, 1) := by decide +kernel
theorem dX11_needLog_45 : decode cX11_needLog 45 = .ok (.if_icmp .ne 8, 3) := by decide +kernel
theorem dX11_needLog_48 : decode cX11_needLog 48 = .ok (.bipush 57, 2) := by decide +kernel
theorem dX11_needLog_50 : decode cX11_needLog 50 = .ok (.goto 5, 3) := by decide +kernel
theorem dX11_needLog_53 : decode cX11_needLog 53 = .ok (.bipush 48, 2) := by decide +kernel
theorem dX11_needLog_55 : decode cX11_needLog 55 = .ok (.istore 5, 2) := by decide +kernel
theorem dX11_needLog_57 : decode cX11_needLog 57 = .ok (.iload 4, 2) := by decide +kernel
theorem dX11_needLog_59 : decode cX11_needLog 59 = .ok (.iconst (-1), 1) := by decide +kernel
theorem dX11_needLog_60 : decode cX11_needLog 60 = .ok (.if_icmp .eq 33, 3) := by decide +kernel
theorem dX11_needLog_63 : decode cX11_needLog 63 = .ok (.aload_n 0, 1) := by decide +kernel
theorem dX11_needLog_64 : decode cX11_needLog 64 = .ok (.getfield 9, 3) := by decide +kernel
theorem dX11_needLog_67 : decode cX11_needLog 67 = .ok (.iload_n 3, 1) := by decide +kernel
theorem dX11_needLog_68 : decode cX11_needLog 68 = .ok (.iconst 1, 1) := by decide +kernel
theorem dX11_needLog_69 : decode cX11_needLog 69 = .ok (.iadd, 1) := by decide +kernel
theorem dX11_needLog_70 : decode cX11_needLog 70 = .ok (.baload, 1) := by decide +kernel
theorem dX11_needLog_71 : decode cX11_needLog 71 = .ok (.bipush 48, 2) := by decide +kernel
theorem dX11_needLog_73 : decode cX11_needLog 73 = .ok (.if_icmp .lt 20, 3) := by decide +kernel
theorem dX11_needLog_76 : decode cX11_needLog 76 = .ok (.aload_n 0, 1) := by decide +kernel
theorem dX11_needLog_77 : decode cX11_needLog 77 = .ok (.getfield 9, 3) := by decide +kernel
theorem dX11_needLog_80 : decode cX11_needLog 80 = .ok (.iload_n 3, 1) := by decide +kernel
theorem dX11_needLog_81 : decode cX11_needLog 81 = .ok (.iconst 1, 1) := by decide +kernel
theorem dX11_needLog_82 : decode cX11_needLog 82 = .ok (.iadd, 1) := by decide +kernel
theorem dX11_needLog_83 : decode cX11_needLog 83 = .ok (.baload, 1) := by decide +kernel
theorem dX11_needLog_84 : decode cX11_needLog 84 = .ok (.iload 5, 2) := by decide +kernel
theorem dX11_needLog_86 : decode cX11_needLog 86 = .ok (.if_icmp .gt 7, 3) := by decide +kernel
theorem dX11_needLog_89 : decode cX11_needLog 89 = .ok (.iconst 1, 1) := by decide +kernel
theorem dX11_needLog_90 : decode cX11_needLog 90 = .ok (.goto 4, 3) := by decide +kernel
theorem dX11_needLog_93 : decode cX11_needLog 93 = .ok (.iconst 0, 1) := by decide +kernel
theorem dX11_needLog_94 : decode cX11_needLog 94 = .ok (.istore_n 2, 1) := by decide +kernel
theorem dX11_needLog_95 : decode cX11_needLog 95 = .ok (.iinc 3 2, 3) := by decide +kernel
theorem dX11_needLog_98 : decode cX11_needLog 98 = .ok (.goto (-78), 3) := by decide +kernel
theorem dX11_needLog_101 : decode cX11_needLog 101 = .ok (.iload_n 2, 1) := by decide +kernel
theorem dX11_needLog_102 : decode cX11_needLog 102 = .ok (.ifCond .ne 14, 3) := by decide +kernel
theorem dX11_needLog_105 : decode cX11_needLog 105 = .ok (.new 71, 3) := by decide +kernel
theorem dX11_needLog_108 : decode cX11_needLog 108 = .ok (.dup, 1) := by decide +kernel
theorem dX11_needLog_109 : decode cX11_needLog 109 = .ok (.ldc_w 339, 3) := by decide +kernel
theorem dX11_needLog_112 : decode cX11_needLog 112 = .ok (.invokespecial 75, 3) := by decide +kernel
theorem dX11_needLog_115 : decode cX11_needLog 115 = .ok (.athrow, 1) := by decide +kernel
theorem dX11_needLog_116 : decode cX11_needLog 116 = .ok (.return_, 1) := by decide +kernel
theorem dX11_howOf_0 : decode cX11_howOf 0 = .ok (.iload_n 0, 1) := by decide +kernel
theorem dX11_howOf_1 : decode cX11_howOf 1 = .ok (.bipush 119, 2) := by decide +kernel
theorem dX11_howOf_3 : decode cX11_howOf 3 = .ok (.if_icmp .ne 7, 3) := by decide +kernel
theorem dX11_howOf_6 : decode cX11_howOf 6 = .ok (.iconst 0, 1) := by decide +kernel
theorem dX11_howOf_7 : decode cX11_howOf 7 = .ok (.goto 24, 3) := by decide +kernel
theorem dX11_howOf_10 : decode cX11_howOf 10 = .ok (.iload_n 0, 1) := by decide +kernel
theorem dX11_howOf_11 : decode cX11_howOf 11 = .ok (.bipush 108, 2) := by decide +kernel
theorem dX11_howOf_13 : decode cX11_howOf 13 = .ok (.if_icmp .ne 7, 3) := by decide +kernel
theorem dX11_howOf_16 : decode cX11_howOf 16 = .ok (.iconst 1, 1) := by decide +kernel
theorem dX11_howOf_17 : decode cX11_howOf 17 = .ok (.goto 14, 3) := by decide +kernel
theorem dX11_howOf_20 : decode cX11_howOf 20 = .ok (.iload_n 0, 1) := by decide +kernel
theorem dX11_howOf_21 : decode cX11_howOf 21 = .ok (.bipush 100, 2) := by decide +kernel
theorem dX11_howOf_23 : decode cX11_howOf 23 = .ok (.if_icmp .ne 7, 3) := by decide +kernel
theorem dX11_howOf_26 : decode cX11_howOf 26 = .ok (.iconst 2, 1) := by decide +kernel
theorem dX11_howOf_27 : decode cX11_howOf 27 = .ok (.goto 4, 3) := by decide +kernel
theorem dX11_howOf_30 : decode cX11_howOf 30 = .ok (.iconst (-1), 1) := by decide +kernel
theorem dX11_howOf_31 : decode cX11_howOf 31 = .ok (.ireturn, 1) := by decide +kernel
theorem dX11_useUp_0 : decode cX11_useUp 0 = .ok (.aload_n 0, 1) := by decide +kernel
theorem dX11_useUp_1 : decode cX11_useUp 1 = .ok (.getfield 45, 3) := by decide +kernel
theorem dX11_useUp_4 : decode cX11_useUp 4 = .ok (.istore_n 1, 1) := by decide +kernel
theorem dX11_useUp_5 : decode cX11_useUp 5 = .ok (.aload_n 0, 1) := by decide +kernel
theorem dX11_useUp_6 : decode cX11_useUp 6 = .ok (.iconst 0, 1) := by decide +kernel
theorem dX11_useUp_7 : decode cX11_useUp 7 = .ok (.putfield 45, 3) := by decide +kernel
theorem dX11_useUp_10 : decode cX11_useUp 10 = .ok (.iload_n 1, 1) := by decide +kernel
theorem dX11_useUp_11 : decode cX11_useUp 11 = .ok (.ireturn, 1) := by decide +kernel
theorem dX11_waysOf_0 : decode cX11_waysOf 0 = .ok (.iload_n 0, 1) := by decide +kernel
theorem dX11_waysOf_1 : decode cX11_waysOf 1 = .ok (.ifCond .ne 7, 3) := by decide +kernel
theorem dX11_waysOf_4 : decode cX11_waysOf 4 = .ok (.iconst 3, 1) := by decide +kernel
theorem dX11_waysOf_5 : decode cX11_waysOf 5 = .ok (.goto 5, 3) := by decide +kernel
theorem dX11_waysOf_8 : decode cX11_waysOf 8 = .ok (.bipush 12, 2) := by decide +kernel
theorem dX11_waysOf_10 : decode cX11_waysOf 10 = .ok (.ireturn, 1) := by decide +kernel
theorem dX11_newGame_0 : decode cX11_newGame 0 = .ok (.aload_n 0, 1) := by decide +kernel
theorem dX11_newGame_1 : decode cX11_newGame 1 = .ok (.getfield 37, 3) := by decide +kernel
theorem dX11_newGame_4 : decode cX11_newGame 4 = .ok (.aload_n 0, 1) := by decide +kernel
theorem dX11_newGame_5 : decode cX11_newGame 5 = .ok (.getfield 30, 3) := by decide +kernel
theorem dX11_newGame_8 : decode cX11_newGame 8 = .ok (.getfield 138, 3) := by decide +kernel
theorem dX11_newGame_11 : decode cX11_newGame 11 = .ok (.invokevirtual 228, 3) := by decide +kernel
theorem dX11_newGame_14 : decode cX11_newGame 14 = .ok (.aload_n 0, 1) := by decide +kernel
theorem dX11_newGame_15 : decode cX11_newGame 15 = .ok (.getfield 37, 3) := by decide +kernel
theorem dX11_newGame_18 : decode cX11_newGame 18 = .ok (.aload_n 0, 1) := by decide +kernel
theorem dX11_newGame_19 : decode cX11_newGame 19 = .ok (.getfield 37, 3) := by decide +kernel
theorem dX11_newGame_22 : decode cX11_newGame 22 = .ok (.getfield 161, 3) := by decide +kernel
theorem dX11_newGame_25 : decode cX11_newGame 25 = .ok (.ineg, 1) := by decide +kernel
theorem dX11_newGame_26 : decode cX11_newGame 26 = .ok (.aload_n 0, 1) := by decide +kernel
theorem dX11_newGame_27 : decode cX11_newGame 27 = .ok (.getfield 37, 3) := by decide +kernel
theorem dX11_newGame_30 : decode cX11_newGame 30 = .ok (.getfield 164, 3) := by decide +kernel
theorem dX11_newGame_33 : decode cX11_newGame 33 = .ok (.iload_n 1, 1) := by decide +kernel
theorem dX11_newGame_34 : decode cX11_newGame 34 = .ok (.invokevirtual 147, 3) := by decide +kernel
theorem dX11_newGame_37 : decode cX11_newGame 37 = .ok (.aload_n 0, 1) := by decide +kernel
theorem dX11_newGame_38 : decode cX11_newGame 38 = .ok (.getfield 37, 3) := by decide +kernel
theorem dX11_newGame_41 : decode cX11_newGame 41 = .ok (.areturn, 1) := by decide +kernel
theorem dX11_freshOdds_0 : decode cX11_freshOdds 0 = .ok (.aload_n 0, 1) := by decide +kernel
theorem dX11_freshOdds_1 : decode cX11_freshOdds 1 = .ok (.getfield 341, 3) := by decide +kernel
theorem dX11_freshOdds_4 : decode cX11_freshOdds 4 = .ok (.ifnonnull 14, 3) := by decide +kernel
theorem dX11_freshOdds_7 : decode cX11_freshOdds 7 = .ok (.aload_n 0, 1) := by decide +kernel
theorem dX11_freshOdds_8 : decode cX11_freshOdds 8 = .ok (.new 196, 3) := by decide +kernel
theorem dX11_freshOdds_11 : decode cX11_freshOdds 11 = .ok (.dup, 1) := by decide +kernel
theorem dX11_freshOdds_12 : decode cX11_freshOdds 12 = .ok (.invokespecial 345, 3) := by decide +kernel
theorem dX11_freshOdds_15 : decode cX11_freshOdds 15 = .ok (.putfield 341, 3) := by decide +kernel
theorem dX11_freshOdds_18 : decode cX11_freshOdds 18 = .ok (.aload_n 0, 1) := by decide +kernel
theorem dX11_freshOdds_19 : decode cX11_freshOdds 19 = .ok (.getfield 341, 3) := by decide +kernel
theorem dX11_freshOdds_22 : decode cX11_freshOdds 22 = .ok (.aload_n 0, 1) := by decide +kernel
theorem dX11_freshOdds_23 : decode cX11_freshOdds 23 = .ok (.getfield 30, 3) := by decide +kernel
theorem dX11_freshOdds_26 : decode cX11_freshOdds 26 = .ok (.iload_n 1, 1) := by decide +kernel
theorem dX11_freshOdds_27 : decode cX11_freshOdds 27 = .ok (.iload_n 2, 1) := by decide +kernel
theorem dX11_freshOdds_28 : decode cX11_freshOdds 28 = .ok (.invokevirtual 346, 3) := by decide +kernel
theorem dX11_freshOdds_31 : decode cX11_freshOdds 31 = .ok (.aload_n 0, 1) := by decide +kernel
theorem dX11_freshOdds_32 : decode cX11_freshOdds 32 = .ok (.getfield 341, 3) := by decide +kernel
theorem dX11_freshOdds_35 : decode cX11_freshOdds 35 = .ok (.areturn, 1) := by decide +kernel
theorem dX12_init_0 : decode cX12_init 0 = .ok (.aload_n 0, 1) := by decide +kernel
theorem dX12_init_1 : decode cX12_init 1 = .ok (.invokespecial 1, 3) := by decide +kernel
theorem dX12_init_4 : decode cX12_init 4 = .ok (.aload_n 0, 1) := by decide +kernel
theorem dX12_init_5 : decode cX12_init 5 = .ok (.sipush 2616, 3) := by decide +kernel
theorem dX12_init_8 : decode cX12_init 8 = .ok (.newarray .int, 2) := by decide +kernel
theorem dX12_init_10 : decode cX12_init 10 = .ok (.putfield 7, 3) := by decide +kernel
theorem dX12_init_13 : decode cX12_init 13 = .ok (.aload_n 0, 1) := by decide +kernel
theorem dX12_init_14 : decode cX12_init 14 = .ok (.sipush 2616, 3) := by decide +kernel
theorem dX12_init_17 : decode cX12_init 17 = .ok (.newarray .int, 2) := by decide +kernel
theorem dX12_init_19 : decode cX12_init 19 = .ok (.putfield 13, 3) := by decide +kernel
theorem dX12_init_22 : decode cX12_init 22 = .ok (.aload_n 0, 1) := by decide +kernel
theorem dX12_init_23 : decode cX12_init 23 = .ok (.sipush 201, 3) := by decide +kernel
theorem dX12_init_26 : decode cX12_init 26 = .ok (.newarray .int, 2) := by decide +kernel
theorem dX12_init_28 : decode cX12_init 28 = .ok (.putfield 16, 3) := by decide +kernel
theorem dX12_init_31 : decode cX12_init 31 = .ok (.aload_n 0, 1) := by decide +kernel
theorem dX12_init_32 : decode cX12_init 32 = .ok (.sipush 400, 3) := by decide +kernel
theorem dX12_init_35 : decode cX12_init 35 = .ok (.newarray .int, 2) := by decide +kernel
theorem dX12_init_37 : decode cX12_init 37 = .ok (.putfield 19, 3) := by decide +kernel
theorem dX12_init_40 : decode cX12_init 40 = .ok (.aload_n 0, 1) := by decide +kernel
theorem dX12_init_41 : decode cX12_init 41 = .ok (.iconst (-1), 1) := by decide +kernel
theorem dX12_init_42 : decode cX12_init 42 = .ok (.putfield 22, 3) := by decide +kernel
theorem dX12_init_45 : decode cX12_init 45 = .ok (.aload_n 0, 1) := by decide +kernel
theorem dX12_init_46 : decode cX12_init 46 = .ok (.iconst 5, 1) := by decide +kernel
theorem dX12_init_47 : decode cX12_init 47 = .ok (.newarray .int, 2) := by decide +kernel
theorem dX12_init_49 : decode cX12_init 49 = .ok (.putfield 26, 3) := by decide +kernel
theorem dX12_init_52 : decode cX12_init 52 = .ok (.aload_n 0, 1) := by decide +kernel
theorem dX12_init_53 : decode cX12_init 53 = .ok (.bipush 9, 2) := by decide +kernel
theorem dX12_init_55 : decode cX12_init 55 = .ok (.newarray .int, 2) := by decide +kernel
theorem dX12_init_57 : decode cX12_init 57 = .ok (.putfield 29, 3) := by decide +kernel
theorem dX12_init_60 : decode cX12_init 60 = .ok (.aload_n 0, 1) := by decide +kernel
theorem dX12_init_61 : decode cX12_init 61 = .ok (.sipush 30976, 3) := by decide +kernel
theorem dX12_init_64 : decode cX12_init 64 = .ok (.newarray .int, 2) := by decide +kernel
theorem dX12_init_66 : decode cX12_init 66 = .ok (.putfield 32, 3) := by decide +kernel
theorem dX12_init_69 : decode cX12_init 69 = .ok (.aload_n 0, 1) := by decide +kernel
theorem dX12_init_70 : decode cX12_init 70 = .ok (.sipush 15488, 3) := by decide +kernel
theorem dX12_init_73 : decode cX12_init 73 = .ok (.newarray .int, 2) := by decide +kernel
theorem dX12_init_75 : decode cX12_init 75 = .ok (.putfield 35, 3) := by decide +kernel
theorem dX12_init_78 : decode cX12_init 78 = .ok (.aload_n 0, 1) := by decide +kernel
theorem dX12_init_79 : decode cX12_init 79 = .ok (.sipush 15488, 3) := by decide +kernel
theorem dX12_init_82 : decode cX12_init 82 = .ok (.newarray .int, 2) := by decide +kernel
theorem dX12_init_84 : decode cX12_init 84 = .ok (.putfield 38, 3) := by decide +kernel
theorem dX12_init_87 : decode cX12_init 87 = .ok (.aload_n 0, 1) := by decide +kernel
theorem dX12_init_88 : decode cX12_init 88 = .ok (.sipush 15488, 3) := by decide +kernel
theorem dX12_init_91 : decode cX12_init 91 = .ok (.newarray .int, 2) := by decide +kernel
theorem dX12_init_93 : decode cX12_init 93 = .ok (.putfield 41, 3) := by decide +kernel
theorem dX12_init_96 : decode cX12_init 96 = .ok (.aload_n 0, 1) := by decide +kernel
theorem dX12_init_97 : decode cX12_init 97 = .ok (.sipush 15488, 3) := by decide +kernel
theorem dX12_init_100 : decode cX12_init 100 = .ok (.newarray .int, 2) := by decide +kernel
theorem dX12_init_102 : decode cX12_init 102 = .ok (.putfield 44, 3) := by decide +kernel
theorem dX12_init_105 : decode cX12_init 105 = .ok (.aload_n 0, 1) := by decide +kernel
theorem dX12_init_106 : decode cX12_init 106 = .ok (.bipush 8, 2) := by decide +kernel
theorem dX12_init_108 : decode cX12_init 108 = .ok (.newarray .long, 2) := by decide +kernel
theorem dX12_init_110 : decode cX12_init 110 = .ok (.putfield 47, 3) := by decide +kernel
theorem dX12_init_113 : decode cX12_init 113 = .ok (.aload_n 0, 1) := by decide +kernel
theorem dX12_init_114 : decode cX12_init 114 = .ok (.iconst 4, 1) := by decide +kernel
theorem dX12_init_115 : decode cX12_init 115 = .ok (.newarray .long, 2) := by decide +kernel
theorem dX12_init_117 : decode cX12_init 117 = .ok (.putfield 51, 3) := by decide +kernel
theorem dX12_init_120 : decode cX12_init 120 = .ok (.aload_n 0, 1) := by decide +kernel
theorem dX12_init_121 : decode cX12_init 121 = .ok (.sipush 4000, 3) := by decide +kernel
theorem dX12_init_124 : decode cX12_init 124 = .ok (.newarray .int, 2) := by decide +kernel
theorem dX12_init_126 : decode cX12_init 126 = .ok (.putfield 54, 3) := by decide +kernel
theorem dX12_init_129 : decode cX12_init 129 = .ok (.aload_n 0, 1) := by decide +kernel
theorem dX12_init_130 : decode cX12_init 130 = .ok (.sipush 4000, 3) := by decide +kernel
theorem dX12_init_133 : decode cX12_init 133 = .ok (.newarray .int, 2) := by decide +kernel
theorem dX12_init_135 : decode cX12_init 135 = .ok (.putfield 57, 3) := by decide +kernel
theorem dX12_init_138 : decode cX12_init 138 = .ok (.aload_n 0, 1) := by decide +kernel
theorem dX12_init_139 : decode cX12_init 139 = .ok (.ldc 60, 2) := by decide +kernel
theorem dX12_init_141 : decode cX12_init 141 = .ok (.newarray .long, 2) := by decide +kernel
theorem dX12_init_143 : decode cX12_init 143 = .ok (.putfield 61, 3) := by decide +kernel
theorem dX12_init_146 : decode cX12_init 146 = .ok (.aload_n 0, 1) := by decide +kernel
theorem dX12_init_147 : decode cX12_init 147 = .ok (.ldc 60, 2) := by decide +kernel
theorem dX12_init_149 : decode cX12_init 149 = .ok (.newarray .long, 2) := by decide +kernel
theorem dX12_init_151 : decode cX12_init 151 = .ok (.putfield 64, 3) := by decide +kernel
theorem dX12_init_154 : decode cX12_init 154 = .ok (.iconst 0, 1) := by decide +kernel
theorem dX12_init_155 : decode cX12_init 155 = .ok (.istore_n 1, 1) := by decide +kernel
theorem dX12_init_156 : decode cX12_init 156 = .ok (.iload_n 1, 1) := by decide +kernel
theorem dX12_init_157 : decode cX12_init 157 = .ok (.bipush 16, 2) := by decide +kernel
theorem dX12_init_159 : decode cX12_init 159 = .ok (.if_icmp .ge 37, 3) := by decide +kernel
theorem dX12_init_162 : decode cX12_init 162 = .ok (.aload_n 0, 1) := by decide +kernel
theorem dX12_init_163 : decode cX12_init 163 = .ok (.getfield 7, 3) := by decide +kernel
theorem dX12_init_166 : decode cX12_init 166 = .ok (.iconst 0, 1) := by decide +kernel
theorem dX12_init_167 : decode cX12_init 167 = .ok (.bipush 12, 2) := by decide +kernel
theorem dX12_init_169 : decode cX12_init 169 = .ok (.iload_n 1, 1) := by decide +kernel
theorem dX12_init_170 : decode cX12_init 170 = .ok (.imul, 1) := by decide +kernel
theorem dX12_init_171 : decode cX12_init 171 = .ok (.iadd, 1) := by decide +kernel
theorem dX12_init_172 : decode cX12_init 172 = .ok (.bipush 50, 2) := by decide +kernel
theorem dX12_init_174 : decode cX12_init 174 = .ok (.iastore, 1) := by decide +kernel
theorem dX12_init_175 : decode cX12_init 175 = .ok (.aload_n 0, 1) := by decide +kernel
theorem dX12_init_176 : decode cX12_init 176 = .ok (.getfield 7, 3) := by decide +kernel
theorem dX12_init_179 : decode cX12_init 179 = .ok (.iconst 0, 1) := by decide +kernel
theorem dX12_init_180 : decode cX12_init 180 = .ok (.bipush 12, 2) := by decide +kernel
theorem dX12_init_182 : decode cX12_init 182 = .ok (.iload_n 1, 1) := by decide +kernel
theorem dX12_init_183 : decode cX12_init 183 = .ok (.imul, 1) := by decide +kernel
theorem dX12_init_184 : decode cX12_init 184 = .ok (.iadd, 1) := by decide +kernel
theorem dX12_init_185 : decode cX12_init 185 = .ok (.iconst 1, 1) := by decide +kernel
theorem dX12_init_186 : decode cX12_init 186 = .ok (.iadd, 1) := by decide +kernel
theorem dX12_init_187 : decode cX12_init 187 = .ok (.bipush 50, 2) := by decide +kernel
theorem dX12_init_189 : decode cX12_init 189 = .ok (.iastore, 1) := by decide +kernel
theorem dX12_init_190 : decode cX12_init 190 = .ok (.iinc 1 1, 3) := by decide +kernel
theorem dX12_init_193 : decode cX12_init 193 = .ok (.goto (-37), 3) := by decide +kernel
theorem dX12_init_196 : decode cX12_init 196 = .ok (.aload_n 0, 1) := by decide +kernel
theorem dX12_init_197 : decode cX12_init 197 = .ok (.getfield 7, 3) := by decide +kernel
theorem dX12_init_200 : decode cX12_init 200 = .ok (.sipush 194, 3) := by decide +kernel
theorem dX12_init_203 : decode cX12_init 203 = .ok (.iconst 1, 1) := by decide +kernel
theorem dX12_init_204 : decode cX12_init 204 = .ok (.iastore, 1) := by decide +kernel
theorem dX12_init_205 : decode cX12_init 205 = .ok (.aload_n 0, 1) := by decide +kernel
theorem dX12_init_206 : decode cX12_init 206 = .ok (.getfield 7, 3) := by decide +kernel
theorem dX12_init_209 : decode cX12_init 209 = .ok (.sipush 199, 3) := by decide +kernel
theorem dX12_init_212 : decode cX12_init 212 = .ok (.iconst (-1), 1) := by decide +kernel
theorem dX12_init_213 : decode cX12_init 213 = .ok (.iastore, 1) := by decide +kernel
theorem dX12_init_214 : decode cX12_init 214 = .ok (.aload_n 0, 1) := by decide +kernel
theorem dX12_init_215 : decode cX12_init 215 = .ok (.getfield 7, 3) := by decide +kernel
theorem dX12_init_218 : decode cX12_init 218 = .ok (.sipush 200, 3) := by decide +kernel
theorem dX12_init_221 : decode cX12_init 221 = .ok (.iconst (-1), 1) := by decide +kernel
theorem dX12_init_222 : decode cX12_init 222 = .ok (.iastore, 1) := by decide +kernel
theorem dX12_init_223 : decode cX12_init 223 = .ok (.return_, 1) := by decide +kernel
theorem dX12_thrown_0 : decode cX12_thrown 0 = .ok (.aload_n 0, 1) := by decide +kernel
theorem dX12_thrown_1 : decode cX12_thrown 1 = .ok (.getfield 67, 3) := by decide +kernel
theorem dX12_thrown_4 : decode cX12_thrown 4 = .ok (.ireturn, 1) := by decide +kernel
theorem dX12_isIn_0 : decode cX12_isIn 0 = .ok (.iload_n 0, 1) := by decide +kernel
theorem dX12_isIn_1 : decode cX12_isIn 1 = .ok (.iload_n 1, 1) := by decide +kernel
theorem dX12_isIn_2 : decode cX12_isIn 2 = .ok (.if_icmp .lt 12, 3) := by decide +kernel
theorem dX12_isIn_5 : decode cX12_isIn 5 = .ok (.iload_n 0, 1) := by decide +kernel
theorem dX12_isIn_6 : decode cX12_isIn 6 = .ok (.iload_n 2, 1) := by decide +kernel
theorem dX12_isIn_7 : decode cX12_isIn 7 = .ok (.if_icmp .gt 7, 3) := by decide +kernel
theorem dX12_isIn_10 : decode cX12_isIn 10 = .ok (.iconst 1, 1) := by decide +kernel
theorem dX12_isIn_11 : decode cX12_isIn 11 = .ok (.goto 4, 3) := by decide +kernel
theorem dX12_isIn_14 : decode cX12_isIn 14 = .ok (.iconst 0, 1) := by decide +kernel
theorem dX12_isIn_15 : decode cX12_isIn 15 = .ok (.ireturn, 1) := by decide +kernel
theorem dX12_isPlayer_0 : decode cX12_isPlayer 0 = .ok (.iload_n 0, 1) := by decide +kernel
theorem dX12_isPlayer_1 : decode cX12_isPlayer 1 = .ok (.iconst 0, 1) := by decide +kernel
theorem dX12_isPlayer_2 : decode cX12_isPlayer 2 = .ok (.iconst 1, 1) := by decide +kernel
theorem dX12_isPlayer_3 : decode cX12_isPlayer 3 = .ok (.invokestatic 70, 3) := by decide +kernel
theorem dX12_isPlayer_6 : decode cX12_isPlayer 6 = .ok (.ireturn, 1) := by decide +kernel
theorem dX12_feed_0 : decode cX12_feed 0 = .ok (.aload_n 0, 1) := by decide +kernel
theorem dX12_feed_1 : decode cX12_feed 1 = .ok (.iconst 0, 1) := by decide +kernel
theorem dX12_feed_2 : decode cX12_feed 2 = .ok (.putfield 67, 3) := by decide +kernel
theorem dX12_feed_5 : decode cX12_feed 5 = .ok (.aload_n 0, 1) := by decide +kernel
theorem dX12_feed_6 : decode cX12_feed 6 = .ok (.getfield 74, 3) := by decide +kernel
theorem dX12_feed_9 : decode cX12_feed 9 = .ok (.bipush 20, 2) := by decide +kernel
theorem dX12_feed_11 : decode cX12_feed 11 = .ok (.iadd, 1) := by decide +kernel
theorem dX12_feed_12 : decode cX12_feed 12 = .ok (.sipush 400, 3) := by decide +kernel
theorem dX12_feed_15 : decode cX12_feed 15 = .ok (.if_icmp .le 5, 3) := by decide +kernel
theorem dX12_feed_18 : decode cX12_feed 18 = .ok (.iconst (-1), 1) := by decide +kernel
theorem dX12_feed_19 : decode cX12_feed 19 = .ok (.ireturn, 1) := by decide +kernel
theorem dX12_feed_20 : decode cX12_feed 20 = .ok (.iconst 0, 1) := by decide +kernel
theorem dX12_feed_21 : decode cX12_feed 21 = .ok (.istore 6, 2) := by decide +kernel
theorem dX12_feed_23 : decode cX12_feed 23 = .ok (.iload 6, 2) := by decide +kernel
theorem dX12_feed_25 : decode cX12_feed 25 = .ok (.bipush 20, 2) := by decide +kernel
theorem dX12_feed_27 : decode cX12_feed 27 = .ok (.if_icmp .ge 93, 3) := by decide +kernel
theorem dX12_feed_30 : decode cX12_feed 30 = .ok (.iload 6, 2) := by decide +kernel
theorem dX12_feed_32 : decode cX12_feed 32 = .ok (.iconst 4, 1) := by decide +kernel
theorem dX12_feed_33 : decode cX12_feed 33 = .ok (.if_icmp .ge 7, 3) := by decide +kernel
theorem dX12_feed_36 : decode cX12_feed 36 = .ok (.iload_n 1, 1) := by decide +kernel
theorem dX12_feed_37 : decode cX12_feed 37 = .ok (.goto 39, 3) := by decide +kernel
theorem dX12_feed_40 : decode cX12_feed 40 = .ok (.iload 6, 2) := by decide +kernel
theorem dX12_feed_42 : decode cX12_feed 42 = .ok (.bipush 8, 2) := by decide +kernel
theorem dX12_feed_44 : decode cX12_feed 44 = .ok (.if_icmp .ge 7, 3) := by decide +kernel
theorem dX12_feed_47 : decode cX12_feed 47 = .ok (.iload_n 2, 1) := by decide +kernel
theorem dX12_feed_48 : decode cX12_feed 48 = .ok (.goto 28, 3) := by decide +kernel
theorem dX12_feed_51 : decode cX12_feed 51 = .ok (.iload 6, 2) := by decide +kernel
theorem dX12_feed_53 : decode cX12_feed 53 = .ok (.bipush 12, 2) := by decide +kernel
theorem dX12_feed_55 : decode cX12_feed 55 = .ok (.if_icmp .ge 7, 3) := by decide +kernel
theorem dX12_feed_58 : decode cX12_feed 58 = .ok (.iload_n 3, 1) := by decide +kernel
theorem dX12_feed_59 : decode cX12_feed 59 = .ok (.goto 17, 3) := by decide +kernel
theorem dX12_feed_62 : decode cX12_feed 62 = .ok (.iload 6, 2) := by decide +kernel
theorem dX12_feed_64 : decode cX12_feed 64 = .ok (.bipush 16, 2) := by decide +kernel
theorem dX12_feed_66 : decode cX12_feed 66 = .ok (.if_icmp .ge 8, 3) := by decide +kernel
theorem dX12_feed_69 : decode cX12_feed 69 = .ok (.iload 4, 2) := by decide +kernel
theorem dX12_feed_71 : decode cX12_feed 71 = .ok (.goto 5, 3) := by decide +kernel
theorem dX12_feed_74 : decode cX12_feed 74 = .ok (.iload 5, 2) := by decide +kernel
theorem dX12_feed_76 : decode cX12_feed 76 = .ok (.istore 7, 2) := by decide +kernel
theorem dX12_feed_78 : decode cX12_feed 78 = .ok (.aload_n 0, 1) := by decide +kernel
theorem dX12_feed_79 : decode cX12_feed 79 = .ok (.getfield 19, 3) := by decide +kernel
theorem dX12_feed_82 : decode cX12_feed 82 = .ok (.aload_n 0, 1) := by decide +kernel
theorem dX12_feed_83 : decode cX12_feed 83 = .ok (.getfield 74, 3) := by decide +kernel
theorem dX12_feed_86 : decode cX12_feed 86 = .ok (.iload 7, 2) := by decide +kernel
theorem dX12_feed_88 : decode cX12_feed 88 = .ok (.bipush 24, 2) := by decide +kernel
theorem dX12_feed_90 : decode cX12_feed 90 = .ok (.bipush 8, 2) := by decide +kernel
theorem dX12_feed_92 : decode cX12_feed 92 = .ok (.iload 6, 2) := by decide +kernel
theorem dX12_feed_94 : decode cX12_feed 94 = .ok (.iconst 4, 1) := by decide +kernel
theorem dX12_feed_95 : decode cX12_feed 95 = .ok (.irem, 1) := by decide +kernel
theorem dX12_feed_96 : decode cX12_feed 96 = .ok (.imul, 1) := by decide +kernel
theorem dX12_feed_97 : decode cX12_feed 97 = .ok (.isub, 1) := by decide +kernel
theorem dX12_feed_98 : decode cX12_feed 98 = .ok (.iushr, 1) := by decide +kernel
theorem dX12_feed_99 : decode cX12_feed 99 = .ok (.sipush 255, 3) := by decide +kernel
theorem dX12_feed_102 : decode cX12_feed 102 = .ok (.iand, 1) := by decide +kernel
theorem dX12_feed_103 : decode cX12_feed 103 = .ok (.iastore, 1) := by decide +kernel
theorem dX12_feed_104 : decode cX12_feed 104 = .ok (.aload_n 0, 1) := by decide +kernel
theorem dX12_feed_105 : decode cX12_feed 105 = .ok (.dup, 1) := by decide +kernel
theorem dX12_feed_106 : decode cX12_feed 106 = .ok (.getfield 74, 3) := by decide +kernel
theorem dX12_feed_109 : decode cX12_feed 109 = .ok (.iconst 1, 1) := by decide +kernel
theorem dX12_feed_110 : decode cX12_feed 110 = .ok (.iadd, 1) := by decide +kernel
theorem dX12_feed_111 : decode cX12_feed 111 = .ok (.putfield 74, 3) := by decide +kernel
theorem dX12_feed_114 : decode cX12_feed 114 = .ok (.iinc 6 1, 3) := by decide +kernel
theorem dX12_feed_117 : decode cX12_feed 117 = .ok (.goto (-94), 3) := by decide +kernel
theorem dX12_feed_120 : decode cX12_feed 120 = .ok (.aload_n 0, 1) := by decide +kernel
theorem dX12_feed_121 : decode cX12_feed 121 = .ok (.getfield 74, 3) := by decide +kernel
theorem dX12_feed_124 : decode cX12_feed 124 = .ok (.ireturn, 1) := by decide +kernel
theorem dX12_end_0 : decode cX12_end 0 = .ok (.aload_n 0, 1) := by decide +kernel
theorem dX12_end_1 : decode cX12_end 1 = .ok (.iconst 0, 1) := by decide +kernel
theorem dX12_end_2 : decode cX12_end 2 = .ok (.putfield 67, 3) := by decide +kernel
theorem dX12_end_5 : decode cX12_end 5 = .ok (.iload_n 1, 1) := by decide +kernel
theorem dX12_end_6 : decode cX12_end 6 = .ok (.iconst 0, 1) := by decide +kernel
theorem dX12_end_7 : decode cX12_end 7 = .ok (.aload_n 0, 1) := by decide +kernel
theorem dX12_end_8 : decode cX12_end 8 = .ok (.getfield 74, 3) := by decide +kernel
theorem dX12_end_11 : decode cX12_end 11 = .ok (.invokestatic 70, 3) := by decide +kernel
theorem dX12_end_14 : decode cX12_end 14 = .ok (.ifCond .ne 5, 3) := by decide +kernel
theorem dX12_end_17 : decode cX12_end 17 = .ok (.iconst 0, 1) := by decide +kernel
theorem dX12_end_18 : decode cX12_end 18 = .ok (.ireturn, 1) := by decide +kernel
theorem dX12_end_19 : decode cX12_end 19 = .ok (.aload_n 0, 1) := by decide +kernel
theorem dX12_end_20 : decode cX12_end 20 = .ok (.iload_n 1, 1) := by decide +kernel
theorem dX12_end_21 : decode cX12_end 21 = .ok (.putfield 74, 3) := by decide +kernel
theorem dX12_end_24 : decode cX12_end 24 = .ok (.iconst 1, 1) := by decide +kernel
theorem dX12_end_25 : decode cX12_end 25 = .ok (.ireturn, 1) := by decide +kernel
theorem dX12_letter_0 : decode cX12_letter 0 = .ok (.aload_n 0, 1) := by decide +kernel
theorem dX12_letter_1 : decode cX12_letter 1 = .ok (.getfield 77, 3) := by decide +kernel
theorem dX12_letter_4 : decode cX12_letter 4 = .ok (.iconst (-1), 1) := by decide +kernel
theorem dX12_letter_5 : decode cX12_letter 5 = .ok (.if_icmp .ne 12, 3) := by decide +kernel
theorem dX12_letter_8 : decode cX12_letter 8 = .ok (.aload_n 0, 1) := by decide +kernel
theorem dX12_letter_9 : decode cX12_letter 9 = .ok (.getfield 19, 3) := by decide +kernel
theorem dX12_letter_12 : decode cX12_letter 12 = .ok (.iload_n 1, 1) := by decide +kernel
theorem dX12_letter_13 : decode cX12_letter 13 = .ok (.iaload, 1) := by decide +kernel
theorem dX12_letter_14 : decode cX12_letter 14 = .ok (.goto 14, 3) := by decide +kernel
theorem dX12_letter_17 : decode cX12_letter 17 = .ok (.aload_n 0, 1) := by decide +kernel
theorem dX12_letter_18 : decode cX12_letter 18 = .ok (.getfield 7, 3) := by decide +kernel
theorem dX12_letter_21 : decode cX12_letter 21 = .ok (.aload_n 0, 1) := by decide +kernel
theorem dX12_letter_22 : decode cX12_letter 22 = .ok (.getfield 77, 3) := by decide +kernel
theorem dX12_letter_25 : decode cX12_letter 25 = .ok (.iload_n 1, 1) := by decide +kernel
theorem dX12_letter_26 : decode cX12_letter 26 = .ok (.iadd, 1) := by decide +kernel
theorem dX12_letter_27 : decode cX12_letter 27 = .ok (.iaload, 1) := by decide +kernel
theorem dX12_letter_28 : decode cX12_letter 28 = .ok (.ireturn, 1) := by decide +kernel
theorem dX12_skip_0 : decode cX12_skip 0 = .ok (.aload_n 0, 1) := by decide +kernel
theorem dX12_skip_1 : decode cX12_skip 1 = .ok (.getfield 80, 3) := by decide +kernel
theorem dX12_skip_4 : decode cX12_skip 4 = .ok (.aload_n 0, 1) := by decide +kernel
theorem dX12_skip_5 : decode cX12_skip 5 = .ok (.getfield 83, 3) := by decide +kernel
theorem dX12_skip_8 : decode cX12_skip 8 = .ok (.if_icmp .ge 29, 3) := by decide +kernel
theorem dX12_skip_11 : decode cX12_skip 11 = .ok (.aload_n 0, 1) := by decide +kernel
theorem dX12_skip_12 : decode cX12_skip 12 = .ok (.aload_n 0, 1) := by decide +kernel
theorem dX12_skip_13 : decode cX12_skip 13 = .ok (.getfield 80, 3) := by decide +kernel
theorem dX12_skip_16 : decode cX12_skip 16 = .ok (.invokevirtual 86, 3) := by decide +kernel
theorem dX12_skip_19 : decode cX12_skip 19 = .ok (.bipush 32, 2) := by decide +kernel
theorem dX12_skip_21 : decode cX12_skip 21 = .ok (.if_icmp .ne 16, 3) := by decide +kernel
theorem dX12_skip_24 : decode cX12_skip 24 = .ok (.aload_n 0, 1) := by decide +kernel
theorem dX12_skip_25 : decode cX12_skip 25 = .ok (.dup, 1) := by decide +kernel
theorem dX12_skip_26 : decode cX12_skip 26 = .ok (.getfield 80, 3) := by decide +kernel
theorem dX12_skip_29 : decode cX12_skip 29 = .ok (.iconst 1, 1) := by decide +kernel
theorem dX12_skip_30 : decode cX12_skip 30 = .ok (.iadd, 1) := by decide +kernel
theorem dX12_skip_31 : decode cX12_skip 31 = .ok (.putfield 80, 3) := by decide +kernel
theorem dX12_skip_34 : decode cX12_skip 34 = .ok (.goto (-34), 3) := by decide +kernel
theorem dX12_skip_37 : decode cX12_skip 37 = .ok (.return_, 1) := by decide +kernel
theorem dX12_isSign_0 : decode cX12_isSign 0 = .ok (.aload_n 0, 1) := by decide +kernel
theorem dX12_isSign_1 : decode cX12_isSign 1 = .ok (.invokevirtual 90, 3) := by decide +kernel
theorem dX12_isSign_4 : decode cX12_isSign 4 = .ok (.aload_n 0, 1) := by decide +kernel
theorem dX12_isSign_5 : decode cX12_isSign 5 = .ok (.getfield 80, 3) := by decide +kernel
theorem dX12_isSign_8 : decode cX12_isSign 8 = .ok (.aload_n 0, 1) := by decide +kernel
theorem dX12_isSign_9 : decode cX12_isSign 9 = .ok (.getfield 83, 3) := by decide +kernel
theorem dX12_isSign_12 : decode cX12_isSign 12 = .ok (.if_icmp .ge 19, 3) := by decide +kernel
theorem dX12_isSign_15 : decode cX12_isSign 15 = .ok (.aload_n 0, 1) := by decide +kernel
theorem dX12_isSign_16 : decode cX12_isSign 16 = .ok (.aload_n 0, 1) := by decide +kernel
theorem dX12_isSign_17 : decode cX12_isSign 17 = .ok (.getfield 80, 3) := by decide +kernel
theorem dX12_isSign_20 : decode cX12_isSign 20 = .ok (.invokevirtual 86, 3) := by decide +kernel
theorem dX12_isSign_23 : decode cX12_isSign 23 = .ok (.iload_n 1, 1) := by decide +kernel
theorem dX12_isSign_24 : decode cX12_isSign 24 = .ok (.if_icmp .ne 7, 3) := by decide +kernel
theorem dX12_isSign_27 : decode cX12_isSign 27 = .ok (.iconst 1, 1) := by decide +kernel
theorem dX12_isSign_28 : decode cX12_isSign 28 = .ok (.goto 4, 3) := by decide +kernel
theorem dX12_isSign_31 : decode cX12_isSign 31 = .ok (.iconst 0, 1) := by decide +kernel
theorem dX12_isSign_32 : decode cX12_isSign 32 = .ok (.ireturn, 1) := by decide +kernel
theorem dX12_has_0 : decode cX12_has 0 = .ok (.aload_n 0, 1) := by decide +kernel
theorem dX12_has_1 : decode cX12_has 1 = .ok (.invokevirtual 90, 3) := by decide +kernel
theorem dX12_has_4 : decode cX12_has 4 = .ok (.aload_n 0, 1) := by decide +kernel
theorem dX12_has_5 : decode cX12_has 5 = .ok (.getfield 80, 3) := by decide +kernel
theorem dX12_has_8 : decode cX12_has 8 = .ok (.istore_n 2, 1) := by decide +kernel
theorem dX12_has_9 : decode cX12_has 9 = .ok (.iload_n 2, 1) := by decide +kernel
theorem dX12_has_10 : decode cX12_has 10 = .ok (.aload_n 0, 1) := by decide +kernel
theorem dX12_has_11 : decode cX12_has 11 = .ok (.getfield 83, 3) := by decide +kernel
theorem dX12_has_14 : decode cX12_has 14 = .ok (.if_icmp .ge 24, 3) := by decide +kernel
theorem dX12_has_17 : decode cX12_has 17 = .ok (.aload_n 0, 1) := by decide +kernel
theorem dX12_has_18 : decode cX12_has 18 = .ok (.iload_n 2, 1) := by decide +kernel
theorem dX12_has_19 : decode cX12_has 19 = .ok (.invokevirtual 86, 3) := by decide +kernel
theorem dX12_has_22 : decode cX12_has 22 = .ok (.bipush 97, 2) := by decide +kernel
theorem dX12_has_24 : decode cX12_has 24 = .ok (.bipush 122, 2) := by decide +kernel
theorem dX12_has_26 : decode cX12_has 26 = .ok (.invokestatic 70, 3) := by decide +kernel
theorem dX12_has_29 : decode cX12_has 29 = .ok (.ifCond .eq 9, 3) := by decide +kernel
theorem dX12_has_32 : decode cX12_has 32 = .ok (.iinc 2 1, 3) := by decide +kernel
theorem dX12_has_35 : decode cX12_has 35 = .ok (.goto (-26), 3) := by decide +kernel
theorem dX12_has_38 : decode cX12_has 38 = .ok (.iload_n 2, 1) := by decide +kernel
theorem dX12_has_39 : decode cX12_has 39 = .ok (.aload_n 0, 1) := by decide +kernel
theorem dX12_has_40 : decode cX12_has 40 = .ok (.getfield 80, 3) := by decide +kernel
theorem dX12_has_43 : decode cX12_has 43 = .ok (.isub, 1) := by decide +kernel
theorem dX12_has_44 : decode cX12_has 44 = .ok (.aload_n 1, 1) := by decide +kernel
theorem dX12_has_45 : decode cX12_has 45 = .ok (.invokevirtual 93, 3) := by decide +kernel
theorem dX12_has_48 : decode cX12_has 48 = .ok (.if_icmp .eq 5, 3) := by decide +kernel
theorem dX12_has_51 : decode cX12_has 51 = .ok (.iconst 0, 1) := by decide +kernel
theorem dX12_has_52 : decode cX12_has 52 = .ok (.ireturn, 1) := by decide +kernel
theorem dX12_has_53 : decode cX12_has 53 = .ok (.iconst 0, 1) := by decide +kernel
theorem dX12_has_54 : decode cX12_has 54 = .ok (.istore_n 3, 1) := by decide +kernel
theorem dX12_has_55 : decode cX12_has 55 = .ok (.iload_n 3, 1) := by decide +kernel
theorem dX12_has_56 : decode cX12_has 56 = .ok (.aload_n 1, 1) := by decide +kernel
theorem dX12_has_57 : decode cX12_has 57 = .ok (.invokevirtual 93, 3) := by decide +kernel
theorem dX12_has_60 : decode cX12_has 60 = .ok (.if_icmp .ge 29, 3) := by decide +kernel
theorem dX12_has_63 : decode cX12_has 63 = .ok (.aload_n 0, 1) := by decide +kernel
theorem dX12_has_64 : decode cX12_has 64 = .ok (.aload_n 0, 1) := by decide +kernel
theorem dX12_has_65 : decode cX12_has 65 = .ok (.getfield 80, 3) := by decide +kernel
theorem dX12_has_68 : decode cX12_has 68 = .ok (.iload_n 3, 1) := by decide +kernel
theorem dX12_has_69 : decode cX12_has 69 = .ok (.iadd, 1) := by decide +kernel
theorem dX12_has_70 : decode cX12_has 70 = .ok (.invokevirtual 86, 3) := by decide +kernel
theorem dX12_has_73 : decode cX12_has 73 = .ok (.aload_n 1, 1) := by decide +kernel
theorem dX12_has_74 : decode cX12_has 74 = .ok (.iload_n 3, 1) := by decide +kernel
theorem dX12_has_75 : decode cX12_has 75 = .ok (.invokevirtual 99, 3) := by decide +kernel
theorem dX12_has_78 : decode cX12_has 78 = .ok (.if_icmp .eq 5, 3) := by decide +kernel
theorem dX12_has_81 : decode cX12_has 81 = .ok (.iconst 0, 1) := by decide +kernel
theorem dX12_has_82 : decode cX12_has 82 = .ok (.ireturn, 1) := by decide +kernel
theorem dX12_has_83 : decode cX12_has 83 = .ok (.iinc 3 1, 3) := by decide +kernel
theorem dX12_has_86 : decode cX12_has 86 = .ok (.goto (-31), 3) := by decide +kernel
theorem dX12_has_89 : decode cX12_has 89 = .ok (.aload_n 0, 1) := by decide +kernel
theorem dX12_has_90 : decode cX12_has 90 = .ok (.iload_n 2, 1) := by decide +kernel
theorem dX12_has_91 : decode cX12_has 91 = .ok (.putfield 80, 3) := by decide +kernel
theorem dX12_has_94 : decode cX12_has 94 = .ok (.iconst 1, 1) := by decide +kernel
theorem dX12_has_95 : decode cX12_has 95 = .ok (.ireturn, 1) := by decide +kernel
theorem dX12_wrong_0 : decode cX12_wrong 0 = .ok (.aload_n 0, 1) := by decide +kernel
theorem dX12_wrong_1 : decode cX12_wrong 1 = .ok (.getfield 22, 3) := by decide +kernel
theorem dX12_wrong_4 : decode cX12_wrong 4 = .ok (.iconst (-1), 1) := by decide +kernel
theorem dX12_wrong_5 : decode cX12_wrong 5 = .ok (.if_icmp .ne 8, 3) := by decide +kernel
theorem dX12_wrong_8 : decode cX12_wrong 8 = .ok (.aload_n 0, 1) := by decide +kernel
theorem dX12_wrong_9 : decode cX12_wrong 9 = .ok (.iload_n 1, 1) := by decide +kernel
theorem dX12_wrong_10 : decode cX12_wrong 10 = .ok (.putfield 22, 3) := by decide +kernel
theorem dX12_wrong_13 : decode cX12_wrong 13 = .ok (.return_, 1) := by decide +kernel
theorem dX12_figures_0 : decode cX12_figures 0 = .ok (.aload_n 0, 1) := by decide +kernel
theorem dX12_figures_1 : decode cX12_figures 1 = .ok (.getfield 22, 3) := by decide +kernel
theorem dX12_figures_4 : decode cX12_figures 4 = .ok (.iconst (-1), 1) := by decide +kernel
theorem dX12_figures_5 : decode cX12_figures 5 = .ok (.if_icmp .eq 5, 3) := by decide +kernel
theorem dX12_figures_8 : decode cX12_figures 8 = .ok (.iconst 0, 1) := by decide +kernel
theorem dX12_figures_9 : decode cX12_figures 9 = .ok (.ireturn, 1) := by decide +kernel
theorem dX12_figures_10 : decode cX12_figures 10 = .ok (.aload_n 0, 1) := by decide +kernel
theorem dX12_figures_11 : decode cX12_figures 11 = .ok (.invokevirtual 90, 3) := by decide +kernel
theorem dX12_figures_14 : decode cX12_figures 14 = .ok (.aload_n 0, 1) := by decide +kernel
theorem dX12_figures_15 : decode cX12_figures 15 = .ok (.getfield 80, 3) := by decide +kernel
theorem dX12_figures_18 : decode cX12_figures 18 = .ok (.istore_n 3, 1) := by decide +kernel
theorem dX12_figures_19 : decode cX12_figures 19 = .ok (.iconst 0, 1) := by decide +kernel
theorem dX12_figures_20 : decode cX12_figures 20 = .ok (.istore 4, 2) := by decide +kernel
theorem dX12_figures_22 : decode cX12_figures 22 = .ok (.aload_n 0, 1) := by decide +kernel
theorem dX12_figures_23 : decode cX12_figures 23 = .ok (.getfield 80, 3) := by decide +kernel
theorem dX12_figures_26 : decode cX12_figures 26 = .ok (.aload_n 0, 1) := by decide +kernel
theorem dX12_figures_27 : decode cX12_figures 27 = .ok (.getfield 83, 3) := by decide +kernel
theorem dX12_figures_30 : decode cX12_figures 30 = .ok (.if_icmp .ge 63, 3) := by decide +kernel
theorem dX12_figures_33 : decode cX12_figures 33 = .ok (.aload_n 0, 1) := by decide +kernel
theorem dX12_figures_34 : decode cX12_figures 34 = .ok (.aload_n 0, 1) := by decide +kernel
theorem dX12_figures_35 : decode cX12_figures 35 = .ok (.getfield 80, 3) := by decide +kernel
theorem dX12_figures_38 : decode cX12_figures 38 = .ok (.invokevirtual 86, 3) := by decide +kernel
theorem dX12_figures_41 : decode cX12_figures 41 = .ok (.bipush 48, 2) := by decide +kernel
theorem dX12_figures_43 : decode cX12_figures 43 = .ok (.bipush 57, 2) := by decide +kernel
theorem dX12_figures_45 : decode cX12_figures 45 = .ok (.invokestatic 70, 3) := by decide +kernel
theorem dX12_figures_48 : decode cX12_figures 48 = .ok (.ifCond .eq 45, 3) := by decide +kernel
theorem dX12_figures_51 : decode cX12_figures 51 = .ok (.aload_n 0, 1) := by decide +kernel
theorem dX12_figures_52 : decode cX12_figures 52 = .ok (.getfield 80, 3) := by decide +kernel
theorem dX12_figures_55 : decode cX12_figures 55 = .ok (.iload_n 3, 1) := by decide +kernel
theorem dX12_figures_56 : decode cX12_figures 56 = .ok (.isub, 1) := by decide +kernel
theorem dX12_figures_57 : decode cX12_figures 57 = .ok (.iconst 4, 1) := by decide +kernel
theorem dX12_figures_58 : decode cX12_figures 58 = .ok (.if_icmp .ge 35, 3) := by decide +kernel
theorem dX12_figures_61 : decode cX12_figures 61 = .ok (.bipush 10, 2) := by decide +kernel
theorem dX12_figures_63 : decode cX12_figures 63 = .ok (.iload 4, 2) := by decide +kernel
theorem dX12_figures_65 : decode cX12_figures 65 = .ok (.imul, 1) := by decide +kernel
theorem dX12_figures_66 : decode cX12_figures 66 = .ok (.aload_n 0, 1) := by decide +kernel
theorem dX12_figures_67 : decode cX12_figures 67 = .ok (.aload_n 0, 1) := by decide +kernel
theorem dX12_figures_68 : decode cX12_figures 68 = .ok (.getfield 80, 3) := by decide +kernel
theorem dX12_figures_71 : decode cX12_figures 71 = .ok (.invokevirtual 86, 3) := by decide +kernel
theorem dX12_figures_74 : decode cX12_figures 74 = .ok (.iadd, 1) := by decide +kernel
theorem dX12_figures_75 : decode cX12_figures 75 = .ok (.bipush 48, 2) := by decide +kernel
theorem dX12_figures_77 : decode cX12_figures 77 = .ok (.isub, 1) := by decide +kernel
theorem dX12_figures_78 : decode cX12_figures 78 = .ok (.istore 4, 2) := by decide +kernel
theorem dX12_figures_80 : decode cX12_figures 80 = .ok (.aload_n 0, 1) := by decide +kernel
theorem dX12_figures_81 : decode cX12_figures 81 = .ok (.dup, 1) := by decide +kernel
theorem dX12_figures_82 : decode cX12_figures 82 = .ok (.getfield 80, 3) := by decide +kernel
theorem dX12_figures_85 : decode cX12_figures 85 = .ok (.iconst 1, 1) := by decide +kernel
theorem dX12_figures_86 : decode cX12_figures 86 = .ok (.iadd, 1) := by decide +kernel
theorem dX12_figures_87 : decode cX12_figures 87 = .ok (.putfield 80, 3) := by decide +kernel
theorem dX12_figures_90 : decode cX12_figures 90 = .ok (.goto (-68), 3) := by decide +kernel
theorem dX12_figures_93 : decode cX12_figures 93 = .ok (.aload_n 0, 1) := by decide +kernel
theorem dX12_figures_94 : decode cX12_figures 94 = .ok (.getfield 80, 3) := by decide +kernel
theorem dX12_figures_97 : decode cX12_figures 97 = .ok (.iload_n 3, 1) := by decide +kernel
theorem dX12_figures_98 : decode cX12_figures 98 = .ok (.if_icmp .eq 25, 3) := by decide +kernel
theorem dX12_figures_101 : decode cX12_figures 101 = .ok (.aload_n 0, 1) := by decide +kernel
theorem dX12_figures_102 : decode cX12_figures 102 = .ok (.getfield 80, 3) := by decide +kernel
theorem dX12_figures_105 : decode cX12_figures 105 = .ok (.iload_n 3, 1) := by decide +kernel
theorem dX12_figures_106 : decode cX12_figures 106 = .ok (.isub, 1) := by decide +kernel
theorem dX12_figures_107 : decode cX12_figures 107 = .ok (.iconst 3, 1) := by decide +kernel
theorem dX12_figures_108 : decode cX12_figures 108 = .ok (.if_icmp .gt 15, 3) := by decide +kernel
theorem dX12_figures_111 : decode cX12_figures 111 = .ok (.iload 4, 2) := by decide +kernel
theorem dX12_figures_113 : decode cX12_figures 113 = .ok (.iload_n 1, 1) := by decide +kernel
theorem dX12_figures_114 : decode cX12_figures 114 = .ok (.if_icmp .lt 9, 3) := by decide +kernel
theorem dX12_figures_117 : decode cX12_figures 117 = .ok (.iload 4, 2) := by decide +kernel
theorem dX12_figures_119 : decode cX12_figures 119 = .ok (.iload_n 2, 1) := by decide +kernel
theorem dX12_figures_120 : decode cX12_figures 120 = .ok (.if_icmp .le 8, 3) := by decide +kernel
theorem dX12_figures_123 : decode cX12_figures 123 = .ok (.aload_n 0, 1) := by decide +kernel
theorem dX12_figures_124 : decode cX12_figures 124 = .ok (.iload_n 3, 1) := by decide +kernel
theorem dX12_figures_125 : decode cX12_figures 125 = .ok (.invokevirtual 103, 3) := by decide +kernel
theorem dX12_figures_128 : decode cX12_figures 128 = .ok (.iload 4, 2) := by decide +kernel
theorem dX12_figures_130 : decode cX12_figures 130 = .ok (.ireturn, 1) := by decide +kernel
theorem dX12_courtLine_0 : decode cX12_courtLine 0 = .ok (.aload_n 0, 1) := by decide +kernel
theorem dX12_courtLine_1 : decode cX12_courtLine 1 = .ok (.ldc 107, 2) := by decide +kernel
theorem dX12_courtLine_3 : decode cX12_courtLine 3 = .ok (.invokevirtual 109, 3) := by decide +kernel
theorem dX12_courtLine_6 : decode cX12_courtLine 6 = .ok (.ifCond .eq 135, 3) := by decide +kernel
theorem dX12_courtLine_9 : decode cX12_courtLine 9 = .ok (.aload_n 0, 1) := by decide +kernel
theorem dX12_courtLine_10 : decode cX12_courtLine 10 = .ok (.iconst 0, 1) := by decide +kernel
theorem dX12_courtLine_11 : decode cX12_courtLine 11 = .ok (.iconst 3, 1) := by decide +kernel
theorem dX12_courtLine_12 : decode cX12_courtLine 12 = .ok (.invokevirtual 113, 3) := by decide +kernel
theorem dX12_courtLine_15 : decode cX12_courtLine 15 = .ok (.istore_n 1, 1) := by decide +kernel
theorem dX12_courtLine_16 : decode cX12_courtLine 16 = .ok (.aload_n 0, 1) := by decide +kernel
theorem dX12_courtLine_17 : decode cX12_courtLine 17 = .ok (.iconst 0, 1) := by decide +kernel
theorem dX12_courtLine_18 : decode cX12_courtLine 18 = .ok (.iconst 3, 1) := by decide +kernel
theorem dX12_courtLine_19 : decode cX12_courtLine 19 = .ok (.invokevirtual 113, 3) := by decide +kernel
theorem dX12_courtLine_22 : decode cX12_courtLine 22 = .ok (.istore_n 2, 1) := by decide +kernel
theorem dX12_courtLine_23 : decode cX12_courtLine 23 = .ok (.aload_n 0, 1) := by decide +kernel
theorem dX12_courtLine_24 : decode cX12_courtLine 24 = .ok (.getfield 22, 3) := by decide +kernel
theorem dX12_courtLine_27 : decode cX12_courtLine 27 = .ok (.iconst (-1), 1) := by decide +kernel
theorem dX12_courtLine_28 : decode cX12_courtLine 28 = .ok (.if_icmp .eq 4, 3) := by decide +kernel
theorem dX12_courtLine_31 : decode cX12_courtLine 31 = .ok (.return_, 1) := by decide +kernel
theorem dX12_courtLine_32 : decode cX12_courtLine 32 = .ok (.aload_n 0, 1) := by decide +kernel
theorem dX12_courtLine_33 : decode cX12_courtLine 33 = .ok (.ldc 117, 2) := by decide +kernel
theorem dX12_courtLine_35 : decode cX12_courtLine 35 = .ok (.invokevirtual 109, 3) := by decide +kernel
theorem dX12_courtLine_38 : decode cX12_courtLine 38 = .ok (.ifCond .eq 7, 3) := by decide +kernel
theorem dX12_courtLine_41 : decode cX12_courtLine 41 = .ok (.iconst 0, 1) := by decide +kernel
theorem dX12_courtLine_42 : decode cX12_courtLine 42 = .ok (.goto 30, 3) := by decide +kernel
theorem dX12_courtLine_45 : decode cX12_courtLine 45 = .ok (.aload_n 0, 1) := by decide +kernel
theorem dX12_courtLine_46 : decode cX12_courtLine 46 = .ok (.ldc 119, 2) := by decide +kernel
theorem dX12_courtLine_48 : decode cX12_courtLine 48 = .ok (.invokevirtual 109, 3) := by decide +kernel
theorem dX12_courtLine_51 : decode cX12_courtLine 51 = .ok (.ifCond .eq 7, 3) := by decide +kernel
theorem dX12_courtLine_54 : decode cX12_courtLine 54 = .ok (.iconst 1, 1) := by decide +kernel
theorem dX12_courtLine_55 : decode cX12_courtLine 55 = .ok (.goto 17, 3) := by decide +kernel
theorem dX12_courtLine_58 : decode cX12_courtLine 58 = .ok (.aload_n 0, 1) := by decide +kernel
theorem dX12_courtLine_59 : decode cX12_courtLine 59 = .ok (.ldc 121, 2) := by decide +kernel
theorem dX12_courtLine_61 : decode cX12_courtLine 61 = .ok (.invokevirtual 109, 3) := by decide +kernel
theorem dX12_courtLine_64 : decode cX12_courtLine 64 = .ok (.ifCond .eq 7, 3) := by decide +kernel
theorem dX12_courtLine_67 : decode cX12_courtLine 67 = .ok (.iconst 2, 1) := by decide +kernel
theorem dX12_courtLine_68 : decode cX12_courtLine 68 = .ok (.goto 4, 3) := by decide +kernel
theorem dX12_courtLine_71 : decode cX12_courtLine 71 = .ok (.iconst (-1), 1) := by decide +kernel
theorem dX12_courtLine_72 : decode cX12_courtLine 72 = .ok (.istore_n 3, 1) := by decide +kernel
theorem dX12_courtLine_73 : decode cX12_courtLine 73 = .ok (.iload_n 3, 1) := by decide +kernel
theorem dX12_courtLine_74 : decode cX12_courtLine 74 = .ok (.iconst (-1), 1) := by decide +kernel
theorem dX12_courtLine_75 : decode cX12_courtLine 75 = .ok (.if_icmp .ne 12, 3) := by decide +kernel
theorem dX12_courtLine_78 : decode cX12_courtLine 78 = .ok (.aload_n 0, 1) := by decide +kernel
theorem dX12_courtLine_79 : decode cX12_courtLine 79 = .ok (.aload_n 0, 1) := by decide +kernel
theorem dX12_courtLine_80 : decode cX12_courtLine 80 = .ok (.getfield 80, 3) := by decide +kernel
theorem dX12_courtLine_83 : decode cX12_courtLine 83 = .ok (.invokevirtual 103, 3) := by decide +kernel
theorem dX12_courtLine_86 : decode cX12_courtLine 86 = .ok (.return_, 1) := by decide +kernel
theorem dX12_courtLine_87 : decode cX12_courtLine 87 = .ok (.iload_n 3, 1) := by decide +kernel
theorem dX12_courtLine_88 : decode cX12_courtLine 88 = .ok (.iconst 2, 1) := by decide +kernel
theorem dX12_courtLine_89 : decode cX12_courtLine 89 = .ok (.if_icmp .ne 13, 3) := by decide +kernel
theorem dX12_courtLine_92 : decode cX12_courtLine 92 = .ok (.iconst 2, 1) := by decide +kernel
theorem dX12_courtLine_93 : decode cX12_courtLine 93 = .ok (.aload_n 0, 1) := by decide +kernel
theorem dX12_courtLine_94 : decode cX12_courtLine 94 = .ok (.iconst 0, 1) := by decide +kernel
theorem dX12_courtLine_95 : decode cX12_courtLine 95 = .ok (.bipush 9, 2) := by decide +kernel
theorem dX12_courtLine_97 : decode cX12_courtLine 97 = .ok (.invokevirtual 113, 3) := by decide +kernel
theorem dX12_courtLine_100 : decode cX12_courtLine 100 = .ok (.iadd, 1) := by decide +kernel
theorem dX12_courtLine_101 : decode cX12_courtLine 101 = .ok (.istore_n 3, 1) := by decide +kernel
theorem dX12_courtLine_102 : decode cX12_courtLine 102 = .ok (.aload_n 0, 1) := by decide +kernel
theorem dX12_courtLine_103 : decode cX12_courtLine 103 = .ok (.iconst 0, 1) := by decide +kernel
theorem dX12_courtLine_104 : decode cX12_courtLine 104 = .ok (.bipush 100, 2) := by decide +kernel
theorem dX12_courtLine_106 : decode cX12_courtLine 106 = .ok (.invokevirtual 113, 3) := by decide +kernel
theorem dX12_courtLine_109 : decode cX12_courtLine 109 = .ok (.istore 4, 2) := by decide +kernel
theorem dX12_courtLine_111 : decode cX12_courtLine 111 = .ok (.aload_n 0, 1) := by decide +kernel
theorem dX12_courtLine_112 : decode cX12_courtLine 112 = .ok (.getfield 22, 3) := by decide +kernel
theorem dX12_courtLine_115 : decode cX12_courtLine 115 = .ok (.iconst (-1), 1) := by decide +kernel
theorem dX12_courtLine_116 : decode cX12_courtLine 116 = .ok (.if_icmp .ne 22, 3) := by decide +kernel
theorem dX12_courtLine_119 : decode cX12_courtLine 119 = .ok (.aload_n 0, 1) := by decide +kernel
theorem dX12_courtLine_120 : decode cX12_courtLine 120 = .ok (.getfield 7, 3) := by decide +kernel
theorem dX12_courtLine_123 : decode cX12_courtLine 123 = .ok (.iconst 0, 1) := by decide +kernel
theorem dX12_courtLine_124 : decode cX12_courtLine 124 = .ok (.bipush 12, 2) := by decide +kernel
theorem dX12_courtLine_126 : decode cX12_courtLine 126 = .ok (.iconst 4, 1) := by decide +kernel
theorem dX12_courtLine_127 : decode cX12_courtLine 127 = .ok (.iload_n 1, 1) := by decide +kernel
theorem dX12_courtLine_128 : decode cX12_courtLine 128 = .ok (.imul, 1) := by decide +kernel
theorem dX12_courtLine_129 : decode cX12_courtLine 129 = .ok (.iload_n 2, 1) := by decide +kernel
theorem dX12_courtLine_130 : decode cX12_courtLine 130 = .ok (.iadd, 1) := by decide +kernel
theorem dX12_courtLine_131 : decode cX12_courtLine 131 = .ok (.imul, 1) := by decide +kernel
theorem dX12_courtLine_132 : decode cX12_courtLine 132 = .ok (.iadd, 1) := by decide +kernel
theorem dX12_courtLine_133 : decode cX12_courtLine 133 = .ok (.iload_n 3, 1) := by decide +kernel
theorem dX12_courtLine_134 : decode cX12_courtLine 134 = .ok (.iadd, 1) := by decide +kernel
theorem dX12_courtLine_135 : decode cX12_courtLine 135 = .ok (.iload 4, 2) := by decide +kernel
theorem dX12_courtLine_137 : decode cX12_courtLine 137 = .ok (.iastore, 1) := by decide +kernel
theorem dX12_courtLine_138 : decode cX12_courtLine 138 = .ok (.goto 90, 3) := by decide +kernel
theorem dX12_courtLine_141 : decode cX12_courtLine 141 = .ok (.aload_n 0, 1) := by decide +kernel
theorem dX12_courtLine_142 : decode cX12_courtLine 142 = .ok (.ldc 123, 2) := by decide +kernel
theorem dX12_courtLine_144 : decode cX12_courtLine 144 = .ok (.invokevirtual 109, 3) := by decide +kernel
theorem dX12_courtLine_147 : decode cX12_courtLine 147 = .ok (.ifCond .eq 21, 3) := by decide +kernel
theorem dX12_courtLine_150 : decode cX12_courtLine 150 = .ok (.aload_n 0, 1) := by decide +kernel
theorem dX12_courtLine_151 : decode cX12_courtLine 151 = .ok (.getfield 7, 3) := by decide +kernel
theorem dX12_courtLine_154 : decode cX12_courtLine 154 = .ok (.sipush 194, 3) := by decide +kernel
theorem dX12_courtLine_157 : decode cX12_courtLine 157 = .ok (.aload_n 0, 1) := by decide +kernel
theorem dX12_courtLine_158 : decode cX12_courtLine 158 = .ok (.iconst 1, 1) := by decide +kernel
theorem dX12_courtLine_159 : decode cX12_courtLine 159 = .ok (.bipush 6, 2) := by decide +kernel
theorem dX12_courtLine_161 : decode cX12_courtLine 161 = .ok (.invokevirtual 113, 3) := by decide +kernel
theorem dX12_courtLine_164 : decode cX12_courtLine 164 = .ok (.iastore, 1) := by decide +kernel
theorem dX12_courtLine_165 : decode cX12_courtLine 165 = .ok (.goto 63, 3) := by decide +kernel
theorem dX12_courtLine_168 : decode cX12_courtLine 168 = .ok (.aload_n 0, 1) := by decide +kernel
theorem dX12_courtLine_169 : decode cX12_courtLine 169 = .ok (.ldc 125, 2) := by decide +kernel
theorem dX12_courtLine_171 : decode cX12_courtLine 171 = .ok (.invokevirtual 109, 3) := by decide +kernel
theorem dX12_courtLine_174 : decode cX12_courtLine 174 = .ok (.ifCond .eq 20, 3) := by decide +kernel
theorem dX12_courtLine_177 : decode cX12_courtLine 177 = .ok (.aload_n 0, 1) := by decide +kernel
theorem dX12_courtLine_178 : decode cX12_courtLine 178 = .ok (.getfield 7, 3) := by decide +kernel
theorem dX12_courtLine_181 : decode cX12_courtLine 181 = .ok (.sipush 195, 3) := by decide +kernel
theorem dX12_courtLine_184 : decode cX12_courtLine 184 = .ok (.aload_n 0, 1) := by decide +kernel
theorem dX12_courtLine_185 : decode cX12_courtLine 185 = .ok (.iconst 0, 1) := by decide +kernel
theorem dX12_courtLine_186 : decode cX12_courtLine 186 = .ok (.iconst 2, 1) := by decide +kernel
theorem dX12_courtLine_187 : decode cX12_courtLine 187 = .ok (.invokevirtual 113, 3) := by decide +kernel
theorem dX12_courtLine_190 : decode cX12_courtLine 190 = .ok (.iastore, 1) := by decide +kernel
theorem dX12_courtLine_191 : decode cX12_courtLine 191 = .ok (.goto 37, 3) := by decide +kernel
theorem dX12_courtLine_194 : decode cX12_courtLine 194 = .ok (.aload_n 0, 1) := by decide +kernel
theorem dX12_courtLine_195 : decode cX12_courtLine 195 = .ok (.ldc 127, 2) := by decide +kernel
theorem dX12_courtLine_197 : decode cX12_courtLine 197 = .ok (.invokevirtual 109, 3) := by decide +kernel
theorem dX12_courtLine_200 : decode cX12_courtLine 200 = .ok (.ifCond .eq 20, 3) := by decide +kernel
theorem dX12_courtLine_203 : decode cX12_courtLine 203 = .ok (.aload_n 0, 1) := by decide +kernel
theorem dX12_courtLine_204 : decode cX12_courtLine 204 = .ok (.getfield 7, 3) := by decide +kernel
theorem dX12_courtLine_207 : decode cX12_courtLine 207 = .ok (.sipush 196, 3) := by decide +kernel
theorem dX12_courtLine_210 : decode cX12_courtLine 210 = .ok (.aload_n 0, 1) := by decide +kernel
theorem dX12_courtLine_211 : decode cX12_courtLine 211 = .ok (.iconst 0, 1) := by decide +kernel
theorem dX12_courtLine_212 : decode cX12_courtLine 212 = .ok (.iconst 1, 1) := by decide +kernel
theorem dX12_courtLine_213 : decode cX12_courtLine 213 = .ok (.invokevirtual 113, 3) := by decide +kernel
theorem dX12_courtLine_216 : decode cX12_courtLine 216 = .ok (.iastore, 1) := by decide +kernel
theorem dX12_courtLine_217 : decode cX12_courtLine 217 = .ok (.goto 11, 3) := by decide +kernel
theorem dX12_courtLine_220 : decode cX12_courtLine 220 = .ok (.aload_n 0, 1) := by decide +kernel
theorem dX12_courtLine_221 : decode cX12_courtLine 221 = .ok (.aload_n 0, 1) := by decide +kernel
theorem dX12_courtLine_222 : decode cX12_courtLine 222 = .ok (.getfield 80, 3) := by decide +kernel
theorem dX12_courtLine_225 : decode cX12_courtLine 225 = .ok (.invokevirtual 103, 3) := by decide +kernel
theorem dX12_courtLine_228 : decode cX12_courtLine 228 = .ok (.return_, 1) := by decide +kernel
theorem dX12_lines_0 : decode cX12_lines 0 = .ok (.aload_n 0, 1) := by decide +kernel
theorem dX12_lines_1 : decode cX12_lines 1 = .ok (.iconst 0, 1) := by decide +kernel
theorem dX12_lines_2 : decode cX12_lines 2 = .ok (.putfield 80, 3) := by decide +kernel
theorem dX12_lines_5 : decode cX12_lines 5 = .ok (.aload_n 0, 1) := by decide +kernel
theorem dX12_lines_6 : decode cX12_lines 6 = .ok (.iconst 0, 1) := by decide +kernel
theorem dX12_lines_7 : decode cX12_lines 7 = .ok (.putfield 129, 3) := by decide +kernel
theorem dX12_lines_10 : decode cX12_lines 10 = .ok (.aload_n 0, 1) := by decide +kernel
theorem dX12_lines_11 : decode cX12_lines 11 = .ok (.invokevirtual 90, 3) := by decide +kernel
theorem dX12_lines_14 : decode cX12_lines 14 = .ok (.aload_n 0, 1) := by decide +kernel
theorem dX12_lines_15 : decode cX12_lines 15 = .ok (.getfield 80, 3) := by decide +kernel
theorem dX12_lines_18 : decode cX12_lines 18 = .ok (.aload_n 0, 1) := by decide +kernel
theorem dX12_lines_19 : decode cX12_lines 19 = .ok (.getfield 83, 3) := by decide +kernel
theorem dX12_lines_22 : decode cX12_lines 22 = .ok (.if_icmp .ge 7, 3) := by decide +kernel
theorem dX12_lines_25 : decode cX12_lines 25 = .ok (.iconst 1, 1) := by decide +kernel
theorem dX12_lines_26 : decode cX12_lines 26 = .ok (.goto 4, 3) := by decide +kernel
theorem dX12_lines_29 : decode cX12_lines 29 = .ok (.iconst 0, 1) := by decide +kernel
theorem dX12_lines_30 : decode cX12_lines 30 = .ok (.istore_n 2, 1) := by decide +kernel
theorem dX12_lines_31 : decode cX12_lines 31 = .ok (.iconst 0, 1) := by decide +kernel
theorem dX12_lines_32 : decode cX12_lines 32 = .ok (.istore_n 3, 1) := by decide +kernel
theorem dX12_lines_33 : decode cX12_lines 33 = .ok (.iload_n 2, 1) := by decide +kernel
theorem dX12_lines_34 : decode cX12_lines 34 = .ok (.ifCond .eq 111, 3) := by decide +kernel
theorem dX12_lines_37 : decode cX12_lines 37 = .ok (.aload_n 0, 1) := by decide +kernel
theorem dX12_lines_38 : decode cX12_lines 38 = .ok (.getfield 22, 3) := by decide +kernel
theorem dX12_lines_41 : decode cX12_lines 41 = .ok (.iconst (-1), 1) := by decide +kernel
theorem dX12_lines_42 : decode cX12_lines 42 = .ok (.if_icmp .ne 103, 3) := by decide +kernel
theorem dX12_lines_45 : decode cX12_lines 45 = .ok (.aload_n 0, 1) := by decide +kernel
theorem dX12_lines_46 : decode cX12_lines 46 = .ok (.invokevirtual 90, 3) := by decide +kernel
theorem dX12_lines_49 : decode cX12_lines 49 = .ok (.iload_n 3, 1) := by decide +kernel
theorem dX12_lines_50 : decode cX12_lines 50 = .ok (.bipush 12, 2) := by decide +kernel
theorem dX12_lines_52 : decode cX12_lines 52 = .ok (.if_icmp .ne 14, 3) := by decide +kernel
theorem dX12_lines_55 : decode cX12_lines 55 = .ok (.aload_n 0, 1) := by decide +kernel
theorem dX12_lines_56 : decode cX12_lines 56 = .ok (.aload_n 0, 1) := by decide +kernel
theorem dX12_lines_57 : decode cX12_lines 57 = .ok (.getfield 80, 3) := by decide +kernel
theorem dX12_lines_60 : decode cX12_lines 60 = .ok (.invokevirtual 103, 3) := by decide +kernel
theorem dX12_lines_63 : decode cX12_lines 63 = .ok (.goto 18, 3) := by decide +kernel
theorem dX12_lines_66 : decode cX12_lines 66 = .ok (.iload_n 1, 1) := by decide +kernel
theorem dX12_lines_67 : decode cX12_lines 67 = .ok (.ifCond .eq 10, 3) := by decide +kernel
theorem dX12_lines_70 : decode cX12_lines 70 = .ok (.aload_n 0, 1) := by decide +kernel
theorem dX12_lines_71 : decode cX12_lines 71 = .ok (.invokevirtual 132, 3) := by decide +kernel
theorem dX12_lines_74 : decode cX12_lines 74 = .ok (.goto 7, 3) := by decide +kernel
theorem dX12_lines_77 : decode cX12_lines 77 = .ok (.aload_n 0, 1) := by decide +kernel
theorem dX12_lines_78 : decode cX12_lines 78 = .ok (.invokevirtual 135, 3) := by decide +kernel
theorem dX12_lines_81 : decode cX12_lines 81 = .ok (.iinc 3 1, 3) := by decide +kernel
theorem dX12_lines_84 : decode cX12_lines 84 = .ok (.aload_n 0, 1) := by decide +kernel
theorem dX12_lines_85 : decode cX12_lines 85 = .ok (.invokevirtual 90, 3) := by decide +kernel
theorem dX12_lines_88 : decode cX12_lines 88 = .ok (.aload_n 0, 1) := by decide +kernel
theorem dX12_lines_89 : decode cX12_lines 89 = .ok (.getfield 22, 3) := by decide +kernel
theorem dX12_lines_92 : decode cX12_lines 92 = .ok (.iconst (-1), 1) := by decide +kernel
theorem dX12_lines_93 : decode cX12_lines 93 = .ok (.if_icmp .ne 14, 3) := by decide +kernel
theorem dX12_lines_96 : decode cX12_lines 96 = .ok (.aload_n 0, 1) := by decide +kernel
theorem dX12_lines_97 : decode cX12_lines 97 = .ok (.getfield 80, 3) := by decide +kernel
theorem dX12_lines_100 : decode cX12_lines 100 = .ok (.aload_n 0, 1) := by decide +kernel
theorem dX12_lines_101 : decode cX12_lines 101 = .ok (.getfield 83, 3) := by decide +kernel
theorem dX12_lines_104 : decode cX12_lines 104 = .ok (.if_icmp .ne 8, 3) := by decide +kernel
theorem dX12_lines_107 : decode cX12_lines 107 = .ok (.iconst 0, 1) := by decide +kernel
theorem dX12_lines_108 : decode cX12_lines 108 = .ok (.istore_n 2, 1) := by decide +kernel
theorem dX12_lines_109 : decode cX12_lines 109 = .ok (.goto (-76), 3) := by decide +kernel
theorem dX12_lines_112 : decode cX12_lines 112 = .ok (.aload_n 0, 1) := by decide +kernel
theorem dX12_lines_113 : decode cX12_lines 113 = .ok (.bipush 59, 2) := by decide +kernel
theorem dX12_lines_115 : decode cX12_lines 115 = .ok (.invokevirtual 138, 3) := by decide +kernel
theorem dX12_lines_118 : decode cX12_lines 118 = .ok (.ifCond .eq 16, 3) := by decide +kernel
theorem dX12_lines_121 : decode cX12_lines 121 = .ok (.aload_n 0, 1) := by decide +kernel
theorem dX12_lines_122 : decode cX12_lines 122 = .ok (.dup, 1) := by decide +kernel
theorem dX12_lines_123 : decode cX12_lines 123 = .ok (.getfield 80, 3) := by decide +kernel
theorem dX12_lines_126 : decode cX12_lines 126 = .ok (.iconst 1, 1) := by decide +kernel
theorem dX12_lines_127 : decode cX12_lines 127 = .ok (.iadd, 1) := by decide +kernel
theorem dX12_lines_128 : decode cX12_lines 128 = .ok (.putfield 80, 3) := by decide +kernel
theorem dX12_lines_131 : decode cX12_lines 131 = .ok (.goto (-98), 3) := by decide +kernel
theorem dX12_lines_134 : decode cX12_lines 134 = .ok (.aload_n 0, 1) := by decide +kernel
theorem dX12_lines_135 : decode cX12_lines 135 = .ok (.aload_n 0, 1) := by decide +kernel
theorem dX12_lines_136 : decode cX12_lines 136 = .ok (.getfield 80, 3) := by decide +kernel
theorem dX12_lines_139 : decode cX12_lines 139 = .ok (.invokevirtual 103, 3) := by decide +kernel
theorem dX12_lines_142 : decode cX12_lines 142 = .ok (.goto (-109), 3) := by decide +kernel
theorem dX12_lines_145 : decode cX12_lines 145 = .ok (.return_, 1) := by decide +kernel
theorem dX12_court_0 : decode cX12_court 0 = .ok (.iconst 0, 1) := by decide +kernel
theorem dX12_court_1 : decode cX12_court 1 = .ok (.istore_n 1, 1) := by decide +kernel
theorem dX12_court_2 : decode cX12_court 2 = .ok (.iload_n 1, 1) := by decide +kernel
theorem dX12_court_3 : decode cX12_court 3 = .ok (.sipush 201, 3) := by decide +kernel
theorem dX12_court_6 : decode cX12_court 6 = .ok (.if_icmp .ge 21, 3) := by decide +kernel
theorem dX12_court_9 : decode cX12_court 9 = .ok (.aload_n 0, 1) := by decide +kernel
theorem dX12_court_10 : decode cX12_court 10 = .ok (.getfield 16, 3) := by decide +kernel
theorem dX12_court_13 : decode cX12_court 13 = .ok (.iload_n 1, 1) := by decide +kernel
theorem dX12_court_14 : decode cX12_court 14 = .ok (.aload_n 0, 1) := by decide +kernel
theorem dX12_court_15 : decode cX12_court 15 = .ok (.getfield 7, 3) := by decide +kernel
theorem dX12_court_18 : decode cX12_court 18 = .ok (.iload_n 1, 1) := by decide +kernel
theorem dX12_court_19 : decode cX12_court 19 = .ok (.iaload, 1) := by decide +kernel
theorem dX12_court_20 : decode cX12_court 20 = .ok (.iastore, 1) := by decide +kernel
theorem dX12_court_21 : decode cX12_court 21 = .ok (.iinc 1 1, 3) := by decide +kernel
theorem dX12_court_24 : decode cX12_court 24 = .ok (.goto (-22), 3) := by decide +kernel
theorem dX12_court_27 : decode cX12_court 27 = .ok (.aload_n 0, 1) := by decide +kernel
theorem dX12_court_28 : decode cX12_court 28 = .ok (.iconst (-1), 1) := by decide +kernel
theorem dX12_court_29 : decode cX12_court 29 = .ok (.putfield 22, 3) := by decide +kernel
theorem dX12_court_32 : decode cX12_court 32 = .ok (.aload_n 0, 1) := by decide +kernel
theorem dX12_court_33 : decode cX12_court 33 = .ok (.iconst (-1), 1) := by decide +kernel
theorem dX12_court_34 : decode cX12_court 34 = .ok (.putfield 77, 3) := by decide +kernel
theorem dX12_court_37 : decode cX12_court 37 = .ok (.aload_n 0, 1) := by decide +kernel
theorem dX12_court_38 : decode cX12_court 38 = .ok (.aload_n 0, 1) := by decide +kernel
theorem dX12_court_39 : decode cX12_court 39 = .ok (.getfield 74, 3) := by decide +kernel
theorem dX12_court_42 : decode cX12_court 42 = .ok (.putfield 83, 3) := by decide +kernel
theorem dX12_court_45 : decode cX12_court 45 = .ok (.aload_n 0, 1) := by decide +kernel
theorem dX12_court_46 : decode cX12_court 46 = .ok (.iconst 0, 1) := by decide +kernel
theorem dX12_court_47 : decode cX12_court 47 = .ok (.invokevirtual 142, 3) := by decide +kernel
theorem dX12_court_50 : decode cX12_court 50 = .ok (.iconst 0, 1) := by decide +kernel
theorem dX12_court_51 : decode cX12_court 51 = .ok (.istore_n 1, 1) := by decide +kernel
theorem dX12_court_52 : decode cX12_court 52 = .ok (.iload_n 1, 1) := by decide +kernel
theorem dX12_court_53 : decode cX12_court 53 = .ok (.bipush 16, 2) := by decide +kernel
theorem dX12_court_55 : decode cX12_court 55 = .ok (.if_icmp .ge 55, 3) := by decide +kernel
theorem dX12_court_58 : decode cX12_court 58 = .ok (.iconst 0, 1) := by decide +kernel
theorem dX12_court_59 : decode cX12_court 59 = .ok (.istore_n 2, 1) := by decide +kernel
theorem dX12_court_60 : decode cX12_court 60 = .ok (.iconst 0, 1) := by decide +kernel
theorem dX12_court_61 : decode cX12_court 61 = .ok (.istore_n 3, 1) := by decide +kernel
theorem dX12_court_62 : decode cX12_court 62 = .ok (.iload_n 3, 1) := by decide +kernel
theorem dX12_court_63 : decode cX12_court 63 = .ok (.bipush 12, 2) := by decide +kernel
theorem dX12_court_65 : decode cX12_court 65 = .ok (.if_icmp .ge 25, 3) := by decide +kernel
theorem dX12_court_68 : decode cX12_court 68 = .ok (.iload_n 2, 1) := by decide +kernel
theorem dX12_court_69 : decode cX12_court 69 = .ok (.aload_n 0, 1) := by decide +kernel
theorem dX12_court_70 : decode cX12_court 70 = .ok (.getfield 7, 3) := by decide +kernel
theorem dX12_court_73 : decode cX12_court 73 = .ok (.iconst 0, 1) := by decide +kernel
theorem dX12_court_74 : decode cX12_court 74 = .ok (.bipush 12, 2) := by decide +kernel
theorem dX12_court_76 : decode cX12_court 76 = .ok (.iload_n 1, 1) := by decide +kernel
theorem dX12_court_77 : decode cX12_court 77 = .ok (.imul, 1) := by decide +kernel
theorem dX12_court_78 : decode cX12_court 78 = .ok (.iadd, 1) := by decide +kernel
theorem dX12_court_79 : decode cX12_court 79 = .ok (.iload_n 3, 1) := by decide +kernel
theorem dX12_court_80 : decode cX12_court 80 = .ok (.iadd, 1) := by decide +kernel
theorem dX12_court_81 : decode cX12_court 81 = .ok (.iaload, 1) := by decide +kernel
theorem dX12_court_82 : decode cX12_court 82 = .ok (.iadd, 1) := by decide +kernel
theorem dX12_court_83 : decode cX12_court 83 = .ok (.istore_n 2, 1) := by decide +kernel
theorem dX12_court_84 : decode cX12_court 84 = .ok (.iinc 3 1, 3) := by decide +kernel
theorem dX12_court_87 : decode cX12_court 87 = .ok (.goto (-25), 3) := by decide +kernel
theorem dX12_court_90 : decode cX12_court 90 = .ok (.iload_n 2, 1) := by decide +kernel
theorem dX12_court_91 : decode cX12_court 91 = .ok (.bipush 100, 2) := by decide +kernel
theorem dX12_court_93 : decode cX12_court 93 = .ok (.if_icmp .eq 11, 3) := by decide +kernel
theorem dX12_court_96 : decode cX12_court 96 = .ok (.aload_n 0, 1) := by decide +kernel
theorem dX12_court_97 : decode cX12_court 97 = .ok (.aload_n 0, 1) := by decide +kernel
theorem dX12_court_98 : decode cX12_court 98 = .ok (.getfield 83, 3) := by decide +kernel
theorem dX12_court_101 : decode cX12_court 101 = .ok (.invokevirtual 103, 3) := by decide +kernel
theorem dX12_court_104 : decode cX12_court 104 = .ok (.iinc 1 1, 3) := by decide +kernel
theorem dX12_court_107 : decode cX12_court 107 = .ok (.goto (-55), 3) := by decide +kernel
theorem dX12_court_110 : decode cX12_court 110 = .ok (.aload_n 0, 1) := by decide +kernel
theorem dX12_court_111 : decode cX12_court 111 = .ok (.iconst 0, 1) := by decide +kernel
theorem dX12_court_112 : decode cX12_court 112 = .ok (.putfield 74, 3) := by decide +kernel
theorem dX12_court_115 : decode cX12_court 115 = .ok (.aload_n 0, 1) := by decide +kernel
theorem dX12_court_116 : decode cX12_court 116 = .ok (.aload_n 0, 1) := by decide +kernel
theorem dX12_court_117 : decode cX12_court 117 = .ok (.getfield 22, 3) := by decide +kernel
theorem dX12_court_120 : decode cX12_court 120 = .ok (.iconst (-1), 1) := by decide +kernel
theorem dX12_court_121 : decode cX12_court 121 = .ok (.if_icmp .eq 7, 3) := by decide +kernel
theorem dX12_court_124 : decode cX12_court 124 = .ok (.iconst 1, 1) := by decide +kernel
theorem dX12_court_125 : decode cX12_court 125 = .ok (.goto 21, 3) := by decide +kernel
theorem dX12_court_128 : decode cX12_court 128 = .ok (.aload_n 0, 1) := by decide +kernel
theorem dX12_court_129 : decode cX12_court 129 = .ok (.getfield 7, 3) := by decide +kernel
theorem dX12_court_132 : decode cX12_court 132 = .ok (.sipush 192, 3) := by decide +kernel
theorem dX12_court_135 : decode cX12_court 135 = .ok (.iaload, 1) := by decide +kernel
theorem dX12_court_136 : decode cX12_court 136 = .ok (.bipush 12, 2) := by decide +kernel
theorem dX12_court_138 : decode cX12_court 138 = .ok (.if_icmp .ne 7, 3) := by decide +kernel
theorem dX12_court_141 : decode cX12_court 141 = .ok (.iconst 2, 1) := by decide +kernel
theorem dX12_court_142 : decode cX12_court 142 = .ok (.goto 4, 3) := by decide +kernel
theorem dX12_court_145 : decode cX12_court 145 = .ok (.iconst 0, 1) := by decide +kernel
theorem dX12_court_146 : decode cX12_court 146 = .ok (.putfield 67, 3) := by decide +kernel
theorem dX12_court_149 : decode cX12_court 149 = .ok (.aload_n 0, 1) := by decide +kernel
theorem dX12_court_150 : decode cX12_court 150 = .ok (.getfield 67, 3) := by decide +kernel
theorem dX12_court_153 : decode cX12_court 153 = .ok (.ifCond .le 32, 3) := by decide +kernel
theorem dX12_court_156 : decode cX12_court 156 = .ok (.iconst 0, 1) := by decide +kernel
theorem dX12_court_157 : decode cX12_court 157 = .ok (.istore_n 1, 1) := by decide +kernel
theorem dX12_court_158 : decode cX12_court 158 = .ok (.iload_n 1, 1) := by decide +kernel
theorem dX12_court_159 : decode cX12_court 159 = .ok (.sipush 201, 3) := by decide +kernel
theorem dX12_court_162 : decode cX12_court 162 = .ok (.if_icmp .ge 21, 3) := by decide +kernel
theorem dX12_court_165 : decode cX12_court 165 = .ok (.aload_n 0, 1) := by decide +kernel
theorem dX12_court_166 : decode cX12_court 166 = .ok (.getfield 7, 3) := by decide +kernel
theorem dX12_court_169 : decode cX12_court 169 = .ok (.iload_n 1, 1) := by decide +kernel
theorem dX12_court_170 : decode cX12_court 170 = .ok (.aload_n 0, 1) := by decide +kernel
theorem dX12_court_171 : decode cX12_court 171 = .ok (.getfield 16, 3) := by decide +kernel
theorem dX12_court_174 : decode cX12_court 174 = .ok (.iload_n 1, 1) := by decide +kernel
theorem dX12_court_175 : decode cX12_court 175 = .ok (.iaload, 1) := by decide +kernel
theorem dX12_court_176 : decode cX12_court 176 = .ok (.iastore, 1) := by decide +kernel
theorem dX12_court_177 : decode cX12_court 177 = .ok (.iinc 1 1, 3) := by decide +kernel
theorem dX12_court_180 : decode cX12_court 180 = .ok (.goto (-22), 3) := by decide +kernel
theorem dX12_court_183 : decode cX12_court 183 = .ok (.iconst 0, 1) := by decide +kernel
theorem dX12_court_184 : decode cX12_court 184 = .ok (.ireturn, 1) := by decide +kernel
theorem dX12_court_185 : decode cX12_court 185 = .ok (.aload_n 0, 1) := by decide +kernel
theorem dX12_court_186 : decode cX12_court 186 = .ok (.getfield 7, 3) := by decide +kernel
theorem dX12_court_189 : decode cX12_court 189 = .ok (.sipush 192, 3) := by decide +kernel
theorem dX12_court_192 : decode cX12_court 192 = .ok (.dup2, 1) := by decide +kernel
theorem dX12_court_193 : decode cX12_court 193 = .ok (.iaload, 1) := by decide +kernel
theorem dX12_court_194 : decode cX12_court 194 = .ok (.iconst 1, 1) := by decide +kernel
theorem dX12_court_195 : decode cX12_court 195 = .ok (.iadd, 1) := by decide +kernel
theorem dX12_court_196 : decode cX12_court 196 = .ok (.iastore, 1) := by decide +kernel
theorem dX12_court_197 : decode cX12_court 197 = .ok (.aload_n 0, 1) := by decide +kernel
theorem dX12_court_198 : decode cX12_court 198 = .ok (.getfield 7, 3) := by decide +kernel
theorem dX12_court_201 : decode cX12_court 201 = .ok (.sipush 192, 3) := by decide +kernel
theorem dX12_court_204 : decode cX12_court 204 = .ok (.iaload, 1) := by decide +kernel
theorem dX12_court_205 : decode cX12_court 205 = .ok (.ireturn, 1) := by decide +kernel
theorem dX12_part_0 : decode cX12_part 0 = .ok (.aload_n 0, 1) := by decide +kernel
theorem dX12_part_1 : decode cX12_part 1 = .ok (.getfield 22, 3) := by decide +kernel
theorem dX12_part_4 : decode cX12_part 4 = .ok (.iconst (-1), 1) := by decide +kernel
theorem dX12_part_5 : decode cX12_part 5 = .ok (.if_icmp .eq 5, 3) := by decide +kernel
theorem dX12_part_8 : decode cX12_part 8 = .ok (.iconst 0, 1) := by decide +kernel
theorem dX12_part_9 : decode cX12_part 9 = .ok (.ireturn, 1) := by decide +kernel
theorem dX12_part_10 : decode cX12_part 10 = .ok (.aload_n 0, 1) := by decide +kernel
theorem dX12_part_11 : decode cX12_part 11 = .ok (.invokevirtual 90, 3) := by decide +kernel
theorem dX12_part_14 : decode cX12_part 14 = .ok (.aload_n 0, 1) := by decide +kernel
theorem dX12_part_15 : decode cX12_part 15 = .ok (.getfield 80, 3) := by decide +kernel
theorem dX12_part_18 : decode cX12_part 18 = .ok (.aload_n 0, 1) := by decide +kernel
theorem dX12_part_19 : decode cX12_part 19 = .ok (.getfield 83, 3) := by decide +kernel
theorem dX12_part_22 : decode cX12_part 22 = .ok (.if_icmp .ge 30, 3) := by decide +kernel
theorem dX12_part_25 : decode cX12_part 25 = .ok (.aload_n 0, 1) := by decide +kernel
theorem dX12_part_26 : decode cX12_part 26 = .ok (.aload_n 0, 1) := by decide +kernel
theorem dX12_part_27 : decode cX12_part 27 = .ok (.getfield 80, 3) := by decide +kernel
theorem dX12_part_30 : decode cX12_part 30 = .ok (.invokevirtual 86, 3) := by decide +kernel
theorem dX12_part_33 : decode cX12_part 33 = .ok (.bipush 48, 2) := by decide +kernel
theorem dX12_part_35 : decode cX12_part 35 = .ok (.bipush 57, 2) := by decide +kernel
theorem dX12_part_37 : decode cX12_part 37 = .ok (.invokestatic 70, 3) := by decide +kernel
theorem dX12_part_40 : decode cX12_part 40 = .ok (.ifCond .eq 12, 3) := by decide +kernel
theorem dX12_part_43 : decode cX12_part 43 = .ok (.aload_n 0, 1) := by decide +kernel
theorem dX12_part_44 : decode cX12_part 44 = .ok (.iconst 0, 1) := by decide +kernel
theorem dX12_part_45 : decode cX12_part 45 = .ok (.sipush 999, 3) := by decide +kernel
theorem dX12_part_48 : decode cX12_part 48 = .ok (.invokevirtual 113, 3) := by decide +kernel
theorem dX12_part_51 : decode cX12_part 51 = .ok (.ireturn, 1) := by decide +kernel
theorem dX12_part_52 : decode cX12_part 52 = .ok (.aload_n 0, 1) := by decide +kernel
theorem dX12_part_53 : decode cX12_part 53 = .ok (.ldc 146, 2) := by decide +kernel
theorem dX12_part_55 : decode cX12_part 55 = .ok (.invokevirtual 109, 3) := by decide +kernel
theorem dX12_part_58 : decode cX12_part 58 = .ok (.ifCond .eq 7, 3) := by decide +kernel
theorem dX12_part_61 : decode cX12_part 61 = .ok (.iconst 0, 1) := by decide +kernel
theorem dX12_part_62 : decode cX12_part 62 = .ok (.goto 56, 3) := by decide +kernel
theorem dX12_part_65 : decode cX12_part 65 = .ok (.aload_n 0, 1) := by decide +kernel
theorem dX12_part_66 : decode cX12_part 66 = .ok (.ldc 148, 2) := by decide +kernel
theorem dX12_part_68 : decode cX12_part 68 = .ok (.invokevirtual 109, 3) := by decide +kernel
theorem dX12_part_71 : decode cX12_part 71 = .ok (.ifCond .eq 7, 3) := by decide +kernel
theorem dX12_part_74 : decode cX12_part 74 = .ok (.iconst 1, 1) := by decide +kernel
theorem dX12_part_75 : decode cX12_part 75 = .ok (.goto 43, 3) := by decide +kernel
theorem dX12_part_78 : decode cX12_part 78 = .ok (.aload_n 0, 1) := by decide +kernel
theorem dX12_part_79 : decode cX12_part 79 = .ok (.ldc 150, 2) := by decide +kernel
theorem dX12_part_81 : decode cX12_part 81 = .ok (.invokevirtual 109, 3) := by decide +kernel
theorem dX12_part_84 : decode cX12_part 84 = .ok (.ifCond .eq 7, 3) := by decide +kernel
theorem dX12_part_87 : decode cX12_part 87 = .ok (.iconst 2, 1) := by decide +kernel
theorem dX12_part_88 : decode cX12_part 88 = .ok (.goto 30, 3) := by decide +kernel
theorem dX12_part_91 : decode cX12_part 91 = .ok (.aload_n 0, 1) := by decide +kernel
theorem dX12_part_92 : decode cX12_part 92 = .ok (.ldc 152, 2) := by decide +kernel
theorem dX12_part_94 : decode cX12_part 94 = .ok (.invokevirtual 109, 3) := by decide +kernel
theorem dX12_part_97 : decode cX12_part 97 = .ok (.ifCond .eq 7, 3) := by decide +kernel
theorem dX12_part_100 : decode cX12_part 100 = .ok (.iconst 3, 1) := by decide +kernel
theorem dX12_part_101 : decode cX12_part 101 = .ok (.goto 17, 3) := by decide +kernel
theorem dX12_part_104 : decode cX12_part 104 = .ok (.aload_n 0, 1) := by decide +kernel
theorem dX12_part_105 : decode cX12_part 105 = .ok (.ldc 123, 2) := by decide +kernel
theorem dX12_part_107 : decode cX12_part 107 = .ok (.invokevirtual 109, 3) := by decide +kernel
theorem dX12_part_110 : decode cX12_part 110 = .ok (.ifCond .eq 7, 3) := by decide +kernel
theorem dX12_part_113 : decode cX12_part 113 = .ok (.iconst 4, 1) := by decide +kernel
theorem dX12_part_114 : decode cX12_part 114 = .ok (.goto 4, 3) := by decide +kernel
theorem dX12_part_117 : decode cX12_part 117 = .ok (.iconst (-1), 1) := by decide +kernel
theorem dX12_part_118 : decode cX12_part 118 = .ok (.istore_n 1, 1) := by decide +kernel
theorem dX12_part_119 : decode cX12_part 119 = .ok (.iload_n 1, 1) := by decide +kernel
theorem dX12_part_120 : decode cX12_part 120 = .ok (.iconst (-1), 1) := by decide +kernel
theorem dX12_part_121 : decode cX12_part 121 = .ok (.if_icmp .ne 13, 3) := by decide +kernel
theorem dX12_part_124 : decode cX12_part 124 = .ok (.aload_n 0, 1) := by decide +kernel
theorem dX12_part_125 : decode cX12_part 125 = .ok (.aload_n 0, 1) := by decide +kernel
theorem dX12_part_126 : decode cX12_part 126 = .ok (.getfield 80, 3) := by decide +kernel
theorem dX12_part_129 : decode cX12_part 129 = .ok (.invokevirtual 103, 3) := by decide +kernel
theorem dX12_part_132 : decode cX12_part 132 = .ok (.iconst 0, 1) := by decide +kernel
theorem dX12_part_133 : decode cX12_part 133 = .ok (.ireturn, 1) := by decide +kernel
theorem dX12_part_134 : decode cX12_part 134 = .ok (.aload_n 0, 1) := by decide +kernel
theorem dX12_part_135 : decode cX12_part 135 = .ok (.getfield 26, 3) := by decide +kernel
theorem dX12_part_138 : decode cX12_part 138 = .ok (.iload_n 1, 1) := by decide +kernel
theorem dX12_part_139 : decode cX12_part 139 = .ok (.iaload, 1) := by decide +kernel
theorem dX12_part_140 : decode cX12_part 140 = .ok (.ireturn, 1) := by decide +kernel
theorem dX12_sum_0 : decode cX12_sum 0 = .ok (.aload_n 0, 1) := by decide +kernel
theorem dX12_sum_1 : decode cX12_sum 1 = .ok (.invokevirtual 154, 3) := by decide +kernel
theorem dX12_sum_4 : decode cX12_sum 4 = .ok (.istore_n 1, 1) := by decide +kernel
theorem dX12_sum_5 : decode cX12_sum 5 = .ok (.aload_n 0, 1) := by decide +kernel
theorem dX12_sum_6 : decode cX12_sum 6 = .ok (.getfield 22, 3) := by decide +kernel
theorem dX12_sum_9 : decode cX12_sum 9 = .ok (.iconst (-1), 1) := by decide +kernel
theorem dX12_sum_10 : decode cX12_sum 10 = .ok (.if_icmp .ne 32, 3) := by decide +kernel
theorem dX12_sum_13 : decode cX12_sum 13 = .ok (.aload_n 0, 1) := by decide +kernel
theorem dX12_sum_14 : decode cX12_sum 14 = .ok (.bipush 43, 2) := by decide +kernel
theorem dX12_sum_16 : decode cX12_sum 16 = .ok (.invokevirtual 138, 3) := by decide +kernel
theorem dX12_sum_19 : decode cX12_sum 19 = .ok (.ifCond .eq 23, 3) := by decide +kernel
theorem dX12_sum_22 : decode cX12_sum 22 = .ok (.aload_n 0, 1) := by decide +kernel
theorem dX12_sum_23 : decode cX12_sum 23 = .ok (.dup, 1) := by decide +kernel
theorem dX12_sum_24 : decode cX12_sum 24 = .ok (.getfield 80, 3) := by decide +kernel
theorem dX12_sum_27 : decode cX12_sum 27 = .ok (.iconst 1, 1) := by decide +kernel
theorem dX12_sum_28 : decode cX12_sum 28 = .ok (.iadd, 1) := by decide +kernel
theorem dX12_sum_29 : decode cX12_sum 29 = .ok (.putfield 80, 3) := by decide +kernel
theorem dX12_sum_32 : decode cX12_sum 32 = .ok (.iload_n 1, 1) := by decide +kernel
theorem dX12_sum_33 : decode cX12_sum 33 = .ok (.aload_n 0, 1) := by decide +kernel
theorem dX12_sum_34 : decode cX12_sum 34 = .ok (.invokevirtual 154, 3) := by decide +kernel
theorem dX12_sum_37 : decode cX12_sum 37 = .ok (.iadd, 1) := by decide +kernel
theorem dX12_sum_38 : decode cX12_sum 38 = .ok (.istore_n 1, 1) := by decide +kernel
theorem dX12_sum_39 : decode cX12_sum 39 = .ok (.goto (-34), 3) := by decide +kernel
theorem dX12_sum_42 : decode cX12_sum 42 = .ok (.iload_n 1, 1) := by decide +kernel
theorem dX12_sum_43 : decode cX12_sum 43 = .ok (.ireturn, 1) := by decide +kernel
theorem dX12_plainCond_0 : decode cX12_plainCond 0 = .ok (.aload_n 0, 1) := by decide +kernel
theorem dX12_plainCond_1 : decode cX12_plainCond 1 = .ok (.ldc 157, 2) := by decide +kernel
theorem dX12_plainCond_3 : decode cX12_plainCond 3 = .ok (.invokevirtual 109, 3) := by decide +kernel
theorem dX12_plainCond_6 : decode cX12_plainCond 6 = .ok (.ifCond .eq 8, 3) := by decide +kernel
theorem dX12_plainCond_9 : decode cX12_plainCond 9 = .ok (.aload_n 0, 1) := by decide +kernel
theorem dX12_plainCond_10 : decode cX12_plainCond 10 = .ok (.getfield 159, 3) := by decide +kernel
theorem dX12_plainCond_13 : decode cX12_plainCond 13 = .ok (.ireturn, 1) := by decide +kernel
theorem dX12_plainCond_14 : decode cX12_plainCond 14 = .ok (.aload_n 0, 1) := by decide +kernel
theorem dX12_plainCond_15 : decode cX12_plainCond 15 = .ok (.ldc 163, 2) := by decide +kernel
theorem dX12_plainCond_17 : decode cX12_plainCond 17 = .ok (.invokevirtual 109, 3) := by decide +kernel
theorem dX12_plainCond_20 : decode cX12_plainCond 20 = .ok (.ifCond .eq 8, 3) := by decide +kernel
theorem dX12_plainCond_23 : decode cX12_plainCond 23 = .ok (.aload_n 0, 1) := by decide +kernel
theorem dX12_plainCond_24 : decode cX12_plainCond 24 = .ok (.getfield 165, 3) := by decide +kernel
theorem dX12_plainCond_27 : decode cX12_plainCond 27 = .ok (.ireturn, 1) := by decide +kernel
theorem dX12_plainCond_28 : decode cX12_plainCond 28 = .ok (.aload_n 0, 1) := by decide +kernel
theorem dX12_plainCond_29 : decode cX12_plainCond 29 = .ok (.invokevirtual 168, 3) := by decide +kernel
theorem dX12_plainCond_32 : decode cX12_plainCond 32 = .ok (.istore_n 1, 1) := by decide +kernel
theorem dX12_plainCond_33 : decode cX12_plainCond 33 = .ok (.aload_n 0, 1) := by decide +kernel
theorem dX12_plainCond_34 : decode cX12_plainCond 34 = .ok (.getfield 22, 3) := by decide +kernel
theorem dX12_plainCond_37 : decode cX12_plainCond 37 = .ok (.iconst (-1), 1) := by decide +kernel
theorem dX12_plainCond_38 : decode cX12_plainCond 38 = .ok (.if_icmp .eq 5, 3) := by decide +kernel
theorem dX12_plainCond_41 : decode cX12_plainCond 41 = .ok (.iconst 0, 1) := by decide +kernel
theorem dX12_plainCond_42 : decode cX12_plainCond 42 = .ok (.ireturn, 1) := by decide +kernel
theorem dX12_plainCond_43 : decode cX12_plainCond 43 = .ok (.aload_n 0, 1) := by decide +kernel
theorem dX12_plainCond_44 : decode cX12_plainCond 44 = .ok (.bipush 60, 2) := by decide +kernel
theorem dX12_plainCond_46 : decode cX12_plainCond 46 = .ok (.invokevirtual 138, 3) := by decide +kernel
theorem dX12_plainCond_49 : decode cX12_plainCond 49 = .ok (.istore_n 2, 1) := by decide +kernel
theorem dX12_plainCond_50 : decode cX12_plainCond 50 = .ok (.iload_n 2, 1) := by decide +kernel
theorem dX12_plainCond_51 : decode cX12_plainCond 51 = .ok (.ifCond .ne 22, 3) := by decide +kernel
theorem dX12_plainCond_54 : decode cX12_plainCond 54 = .ok (.aload_n 0, 1) := by decide +kernel
theorem dX12_plainCond_55 : decode cX12_plainCond 55 = .ok (.bipush 62, 2) := by decide +kernel
theorem dX12_plainCond_57 : decode cX12_plainCond 57 = .ok (.invokevirtual 138, 3) := by decide +kernel
theorem dX12_plainCond_60 : decode cX12_plainCond 60 = .ok (.ifCond .ne 13, 3) := by decide +kernel
theorem dX12_plainCond_63 : decode cX12_plainCond 63 = .ok (.aload_n 0, 1) := by decide +kernel
theorem dX12_plainCond_64 : decode cX12_plainCond 64 = .ok (.aload_n 0, 1) := by decide +kernel
theorem dX12_plainCond_65 : decode cX12_plainCond 65 = .ok (.getfield 80, 3) := by decide +kernel
theorem dX12_plainCond_68 : decode cX12_plainCond 68 = .ok (.invokevirtual 103, 3) := by decide +kernel
theorem dX12_plainCond_71 : decode cX12_plainCond 71 = .ok (.iconst 0, 1) := by decide +kernel
theorem dX12_plainCond_72 : decode cX12_plainCond 72 = .ok (.ireturn, 1) := by decide +kernel
theorem dX12_plainCond_73 : decode cX12_plainCond 73 = .ok (.aload_n 0, 1) := by decide +kernel
theorem dX12_plainCond_74 : decode cX12_plainCond 74 = .ok (.dup, 1) := by decide +kernel
theorem dX12_plainCond_75 : decode cX12_plainCond 75 = .ok (.getfield 80, 3) := by decide +kernel
theorem dX12_plainCond_78 : decode cX12_plainCond 78 = .ok (.iconst 1, 1) := by decide +kernel
theorem dX12_plainCond_79 : decode cX12_plainCond 79 = .ok (.iadd, 1) := by decide +kernel
theorem dX12_plainCond_80 : decode cX12_plainCond 80 = .ok (.putfield 80, 3) := by decide +kernel
theorem dX12_plainCond_83 : decode cX12_plainCond 83 = .ok (.aload_n 0, 1) := by decide +kernel
theorem dX12_plainCond_84 : decode cX12_plainCond 84 = .ok (.invokevirtual 168, 3) := by decide +kernel
theorem dX12_plainCond_87 : decode cX12_plainCond 87 = .ok (.istore_n 3, 1) := by decide +kernel
theorem dX12_plainCond_88 : decode cX12_plainCond 88 = .ok (.iload_n 2, 1) := by decide +kernel
theorem dX12_plainCond_89 : decode cX12_plainCond 89 = .ok (.ifCond .eq 16, 3) := by decide +kernel
theorem dX12_plainCond_92 : decode cX12_plainCond 92 = .ok (.iload_n 1, 1) := by decide +kernel
theorem dX12_plainCond_93 : decode cX12_plainCond 93 = .ok (.iload_n 3, 1) := by decide +kernel
theorem dX12_plainCond_94 : decode cX12_plainCond 94 = .ok (.if_icmp .ge 7, 3) := by decide +kernel
theorem dX12_plainCond_97 : decode cX12_plainCond 97 = .ok (.iconst 1, 1) := by decide +kernel
theorem dX12_plainCond_98 : decode cX12_plainCond 98 = .ok (.goto 17, 3) := by decide +kernel
theorem dX12_plainCond_101 : decode cX12_plainCond 101 = .ok (.iconst 0, 1) := by decide +kernel
theorem dX12_plainCond_102 : decode cX12_plainCond 102 = .ok (.goto 13, 3) := by decide +kernel
theorem dX12_plainCond_105 : decode cX12_plainCond 105 = .ok (.iload_n 1, 1) := by decide +kernel
theorem dX12_plainCond_106 : decode cX12_plainCond 106 = .ok (.iload_n 3, 1) := by decide +kernel
theorem dX12_plainCond_107 : decode cX12_plainCond 107 = .ok (.if_icmp .le 7, 3) := by decide +kernel
theorem dX12_plainCond_110 : decode cX12_plainCond 110 = .ok (.iconst 1, 1) := by decide +kernel
theorem dX12_plainCond_111 : decode cX12_plainCond 111 = .ok (.goto 4, 3) := by decide +kernel
theorem dX12_plainCond_114 : decode cX12_plainCond 114 = .ok (.iconst 0, 1) := by decide +kernel
theorem dX12_plainCond_115 : decode cX12_plainCond 115 = .ok (.ireturn, 1) := by decide +kernel
theorem dX12_atom_0 : decode cX12_atom 0 = .ok (.aload_n 0, 1) := by decide +kernel
theorem dX12_atom_1 : decode cX12_atom 1 = .ok (.getfield 22, 3) := by decide +kernel
theorem dX12_atom_4 : decode cX12_atom 4 = .ok (.iconst (-1), 1) := by decide +kernel
theorem dX12_atom_5 : decode cX12_atom 5 = .ok (.if_icmp .eq 5, 3) := by decide +kernel
theorem dX12_atom_8 : decode cX12_atom 8 = .ok (.iconst 0, 1) := by decide +kernel
theorem dX12_atom_9 : decode cX12_atom 9 = .ok (.ireturn, 1) := by decide +kernel
theorem dX12_atom_10 : decode cX12_atom 10 = .ok (.aload_n 0, 1) := by decide +kernel
theorem dX12_atom_11 : decode cX12_atom 11 = .ok (.invokevirtual 90, 3) := by decide +kernel
theorem dX12_atom_14 : decode cX12_atom 14 = .ok (.aload_n 0, 1) := by decide +kernel
theorem dX12_atom_15 : decode cX12_atom 15 = .ok (.getfield 80, 3) := by decide +kernel
theorem dX12_atom_18 : decode cX12_atom 18 = .ok (.istore_n 1, 1) := by decide +kernel
theorem dX12_atom_19 : decode cX12_atom 19 = .ok (.aload_n 0, 1) := by decide +kernel
theorem dX12_atom_20 : decode cX12_atom 20 = .ok (.ldc 171, 2) := by decide +kernel
theorem dX12_atom_22 : decode cX12_atom 22 = .ok (.invokevirtual 109, 3) := by decide +kernel
theorem dX12_atom_25 : decode cX12_atom 25 = .ok (.istore_n 2, 1) := by decide +kernel
theorem dX12_atom_26 : decode cX12_atom 26 = .ok (.iload_n 2, 1) := by decide +kernel
theorem dX12_atom_27 : decode cX12_atom 27 = .ok (.ifCond .ne 17, 3) := by decide +kernel
theorem dX12_atom_30 : decode cX12_atom 30 = .ok (.aload_n 0, 1) := by decide +kernel
theorem dX12_atom_31 : decode cX12_atom 31 = .ok (.bipush 40, 2) := by decide +kernel
theorem dX12_atom_33 : decode cX12_atom 33 = .ok (.invokevirtual 138, 3) := by decide +kernel
theorem dX12_atom_36 : decode cX12_atom 36 = .ok (.ifCond .ne 8, 3) := by decide +kernel
theorem dX12_atom_39 : decode cX12_atom 39 = .ok (.aload_n 0, 1) := by decide +kernel
theorem dX12_atom_40 : decode cX12_atom 40 = .ok (.invokevirtual 173, 3) := by decide +kernel
theorem dX12_atom_43 : decode cX12_atom 43 = .ok (.ireturn, 1) := by decide +kernel
theorem dX12_atom_44 : decode cX12_atom 44 = .ok (.aload_n 0, 1) := by decide +kernel
theorem dX12_atom_45 : decode cX12_atom 45 = .ok (.getfield 129, 3) := by decide +kernel
theorem dX12_atom_48 : decode cX12_atom 48 = .ok (.bipush 6, 2) := by decide +kernel
theorem dX12_atom_50 : decode cX12_atom 50 = .ok (.if_icmp .ne 10, 3) := by decide +kernel
theorem dX12_atom_53 : decode cX12_atom 53 = .ok (.aload_n 0, 1) := by decide +kernel
theorem dX12_atom_54 : decode cX12_atom 54 = .ok (.iload_n 1, 1) := by decide +kernel
theorem dX12_atom_55 : decode cX12_atom 55 = .ok (.invokevirtual 103, 3) := by decide +kernel
theorem dX12_atom_58 : decode cX12_atom 58 = .ok (.iconst 0, 1) := by decide +kernel
theorem dX12_atom_59 : decode cX12_atom 59 = .ok (.ireturn, 1) := by decide +kernel
theorem dX12_atom_60 : decode cX12_atom 60 = .ok (.aload_n 0, 1) := by decide +kernel
theorem dX12_atom_61 : decode cX12_atom 61 = .ok (.dup, 1) := by decide +kernel
theorem dX12_atom_62 : decode cX12_atom 62 = .ok (.getfield 129, 3) := by decide +kernel
theorem dX12_atom_65 : decode cX12_atom 65 = .ok (.iconst 1, 1) := by decide +kernel
theorem dX12_atom_66 : decode cX12_atom 66 = .ok (.iadd, 1) := by decide +kernel
theorem dX12_atom_67 : decode cX12_atom 67 = .ok (.putfield 129, 3) := by decide +kernel
theorem dX12_atom_70 : decode cX12_atom 70 = .ok (.iconst 0, 1) := by decide +kernel
theorem dX12_atom_71 : decode cX12_atom 71 = .ok (.istore_n 3, 1) := by decide +kernel
theorem dX12_atom_72 : decode cX12_atom 72 = .ok (.iload_n 2, 1) := by decide +kernel
theorem dX12_atom_73 : decode cX12_atom 73 = .ok (.ifCond .eq 19, 3) := by decide +kernel
theorem dX12_atom_76 : decode cX12_atom 76 = .ok (.aload_n 0, 1) := by decide +kernel
theorem dX12_atom_77 : decode cX12_atom 77 = .ok (.invokevirtual 177, 3) := by decide +kernel
theorem dX12_atom_80 : decode cX12_atom 80 = .ok (.ifCond .ne 7, 3) := by decide +kernel
theorem dX12_atom_83 : decode cX12_atom 83 = .ok (.iconst 1, 1) := by decide +kernel
theorem dX12_atom_84 : decode cX12_atom 84 = .ok (.goto 4, 3) := by decide +kernel
theorem dX12_atom_87 : decode cX12_atom 87 = .ok (.iconst 0, 1) := by decide +kernel
theorem dX12_atom_88 : decode cX12_atom 88 = .ok (.istore_n 3, 1) := by decide +kernel
theorem dX12_atom_89 : decode cX12_atom 89 = .ok (.goto 53, 3) := by decide +kernel
theorem dX12_atom_92 : decode cX12_atom 92 = .ok (.aload_n 0, 1) := by decide +kernel
theorem dX12_atom_93 : decode cX12_atom 93 = .ok (.dup, 1) := by decide +kernel
theorem dX12_atom_94 : decode cX12_atom 94 = .ok (.getfield 80, 3) := by decide +kernel
theorem dX12_atom_97 : decode cX12_atom 97 = .ok (.iconst 1, 1) := by decide +kernel
theorem dX12_atom_98 : decode cX12_atom 98 = .ok (.iadd, 1) := by decide +kernel
theorem dX12_atom_99 : decode cX12_atom 99 = .ok (.putfield 80, 3) := by decide +kernel
theorem dX12_atom_102 : decode cX12_atom 102 = .ok (.aload_n 0, 1) := by decide +kernel
theorem dX12_atom_103 : decode cX12_atom 103 = .ok (.invokevirtual 180, 3) := by decide +kernel
theorem dX12_atom_106 : decode cX12_atom 106 = .ok (.istore_n 3, 1) := by decide +kernel
theorem dX12_atom_107 : decode cX12_atom 107 = .ok (.aload_n 0, 1) := by decide +kernel
theorem dX12_atom_108 : decode cX12_atom 108 = .ok (.getfield 22, 3) := by decide +kernel
theorem dX12_atom_111 : decode cX12_atom 111 = .ok (.iconst (-1), 1) := by decide +kernel
theorem dX12_atom_112 : decode cX12_atom 112 = .ok (.if_icmp .ne 20, 3) := by decide +kernel
theorem dX12_atom_115 : decode cX12_atom 115 = .ok (.aload_n 0, 1) := by decide +kernel
theorem dX12_atom_116 : decode cX12_atom 116 = .ok (.bipush 41, 2) := by decide +kernel
theorem dX12_atom_118 : decode cX12_atom 118 = .ok (.invokevirtual 138, 3) := by decide +kernel
theorem dX12_atom_121 : decode cX12_atom 121 = .ok (.ifCond .ne 11, 3) := by decide +kernel
theorem dX12_atom_124 : decode cX12_atom 124 = .ok (.aload_n 0, 1) := by decide +kernel
theorem dX12_atom_125 : decode cX12_atom 125 = .ok (.aload_n 0, 1) := by decide +kernel
theorem dX12_atom_126 : decode cX12_atom 126 = .ok (.getfield 80, 3) := by decide +kernel
theorem dX12_atom_129 : decode cX12_atom 129 = .ok (.invokevirtual 103, 3) := by decide +kernel
theorem dX12_atom_132 : decode cX12_atom 132 = .ok (.aload_n 0, 1) := by decide +kernel
theorem dX12_atom_133 : decode cX12_atom 133 = .ok (.dup, 1) := by decide +kernel
theorem dX12_atom_134 : decode cX12_atom 134 = .ok (.getfield 80, 3) := by decide +kernel
theorem dX12_atom_137 : decode cX12_atom 137 = .ok (.iconst 1, 1) := by decide +kernel
theorem dX12_atom_138 : decode cX12_atom 138 = .ok (.iadd, 1) := by decide +kernel
theorem dX12_atom_139 : decode cX12_atom 139 = .ok (.putfield 80, 3) := by decide +kernel
theorem dX12_atom_142 : decode cX12_atom 142 = .ok (.aload_n 0, 1) := by decide +kernel
theorem dX12_atom_143 : decode cX12_atom 143 = .ok (.dup, 1) := by decide +kernel
theorem dX12_atom_144 : decode cX12_atom 144 = .ok (.getfield 129, 3) := by decide +kernel
theorem dX12_atom_147 : decode cX12_atom 147 = .ok (.iconst 1, 1) := by decide +kernel
theorem dX12_atom_148 : decode cX12_atom 148 = .ok (.isub, 1) := by decide +kernel
theorem dX12_atom_149 : decode cX12_atom 149 = .ok (.putfield 129, 3) := by decide +kernel
theorem dX12_atom_152 : decode cX12_atom 152 = .ok (.iload_n 3, 1) := by decide +kernel
theorem dX12_atom_153 : decode cX12_atom 153 = .ok (.ireturn, 1) := by decide +kernel
theorem dX12_every_0 : decode cX12_every 0 = .ok (.aload_n 0, 1) := by decide +kernel
theorem dX12_every_1 : decode cX12_every 1 = .ok (.invokevirtual 177, 3) := by decide +kernel
theorem dX12_every_4 : decode cX12_every 4 = .ok (.istore_n 1, 1) := by decide +kernel
theorem dX12_every_5 : decode cX12_every 5 = .ok (.aload_n 0, 1) := by decide +kernel
theorem dX12_every_6 : decode cX12_every 6 = .ok (.getfield 22, 3) := by decide +kernel
theorem dX12_every_9 : decode cX12_every 9 = .ok (.iconst (-1), 1) := by decide +kernel
theorem dX12_every_10 : decode cX12_every 10 = .ok (.if_icmp .ne 34, 3) := by decide +kernel
theorem dX12_every_13 : decode cX12_every 13 = .ok (.aload_n 0, 1) := by decide +kernel
theorem dX12_every_14 : decode cX12_every 14 = .ok (.ldc 183, 2) := by decide +kernel
theorem dX12_every_16 : decode cX12_every 16 = .ok (.invokevirtual 109, 3) := by decide +kernel
theorem dX12_every_19 : decode cX12_every 19 = .ok (.ifCond .eq 25, 3) := by decide +kernel
theorem dX12_every_22 : decode cX12_every 22 = .ok (.aload_n 0, 1) := by decide +kernel
theorem dX12_every_23 : decode cX12_every 23 = .ok (.invokevirtual 177, 3) := by decide +kernel
theorem dX12_every_26 : decode cX12_every 26 = .ok (.istore_n 2, 1) := by decide +kernel
theorem dX12_every_27 : decode cX12_every 27 = .ok (.iload_n 1, 1) := by decide +kernel
theorem dX12_every_28 : decode cX12_every 28 = .ok (.ifCond .eq 11, 3) := by decide +kernel
theorem dX12_every_31 : decode cX12_every 31 = .ok (.iload_n 2, 1) := by decide +kernel
theorem dX12_every_32 : decode cX12_every 32 = .ok (.ifCond .eq 7, 3) := by decide +kernel
theorem dX12_every_35 : decode cX12_every 35 = .ok (.iconst 1, 1) := by decide +kernel
theorem dX12_every_36 : decode cX12_every 36 = .ok (.goto 4, 3) := by decide +kernel
theorem dX12_every_39 : decode cX12_every 39 = .ok (.iconst 0, 1) := by decide +kernel
theorem dX12_every_40 : decode cX12_every 40 = .ok (.istore_n 1, 1) := by decide +kernel
theorem dX12_every_41 : decode cX12_every 41 = .ok (.goto (-36), 3) := by decide +kernel
theorem dX12_every_44 : decode cX12_every 44 = .ok (.iload_n 1, 1) := by decide +kernel
theorem dX12_every_45 : decode cX12_every 45 = .ok (.ireturn, 1) := by decide +kernel
theorem dX12_some_0 : decode cX12_some 0 = .ok (.aload_n 0, 1) := by decide +kernel
theorem dX12_some_1 : decode cX12_some 1 = .ok (.invokevirtual 185, 3) := by decide +kernel
theorem dX12_some_4 : decode cX12_some 4 = .ok (.istore_n 1, 1) := by decide +kernel
theorem dX12_some_5 : decode cX12_some 5 = .ok (.aload_n 0, 1) := by decide +kernel
theorem dX12_some_6 : decode cX12_some 6 = .ok (.getfield 22, 3) := by decide +kernel
theorem dX12_some_9 : decode cX12_some 9 = .ok (.iconst (-1), 1) := by decide +kernel
theorem dX12_some_10 : decode cX12_some 10 = .ok (.if_icmp .ne 34, 3) := by decide +kernel
theorem dX12_some_13 : decode cX12_some 13 = .ok (.aload_n 0, 1) := by decide +kernel
theorem dX12_some_14 : decode cX12_some 14 = .ok (.ldc 188, 2) := by decide +kernel
theorem dX12_some_16 : decode cX12_some 16 = .ok (.invokevirtual 109, 3) := by decide +kernel
theorem dX12_some_19 : decode cX12_some 19 = .ok (.ifCond .eq 25, 3) := by decide +kernel
theorem dX12_some_22 : decode cX12_some 22 = .ok (.aload_n 0, 1) := by decide +kernel
theorem dX12_some_23 : decode cX12_some 23 = .ok (.invokevirtual 185, 3) := by decide +kernel
theorem dX12_some_26 : decode cX12_some 26 = .ok (.istore_n 2, 1) := by decide +kernel
theorem dX12_some_27 : decode cX12_some 27 = .ok (.iload_n 1, 1) := by decide +kernel
theorem dX12_some_28 : decode cX12_some 28 = .ok (.ifCond .ne 7, 3) := by decide +kernel
theorem dX12_some_31 : decode cX12_some 31 = .ok (.iload_n 2, 1) := by decide +kernel
theorem dX12_some_32 : decode cX12_some 32 = .ok (.ifCond .eq 7, 3) := by decide +kernel
theorem dX12_some_35 : decode cX12_some 35 = .ok (.iconst 1, 1) := by decide +kernel
theorem dX12_some_36 : decode cX12_some 36 = .ok (.goto 4, 3) := by decide +kernel
theorem dX12_some_39 : decode cX12_some 39 = .ok (.iconst 0, 1) := by decide +kernel
theorem dX12_some_40 : decode cX12_some 40 = .ok (.istore_n 1, 1) := by decide +kernel
theorem dX12_some_41 : decode cX12_some 41 = .ok (.goto (-36), 3) := by decide +kernel
theorem dX12_some_44 : decode cX12_some 44 = .ok (.iload_n 1, 1) := by decide +kernel
theorem dX12_some_45 : decode cX12_some 45 = .ok (.ireturn, 1) := by decide +kernel
theorem dX12_ruleLine_0 : decode cX12_ruleLine 0 = .ok (.aload_n 0, 1) := by decide +kernel
theorem dX12_ruleLine_1 : decode cX12_ruleLine 1 = .ok (.ldc 190, 2) := by decide +kernel
theorem dX12_ruleLine_3 : decode cX12_ruleLine 3 = .ok (.invokevirtual 109, 3) := by decide +kernel
theorem dX12_ruleLine_6 : decode cX12_ruleLine 6 = .ok (.ifCond .ne 12, 3) := by decide +kernel
theorem dX12_ruleLine_9 : decode cX12_ruleLine 9 = .ok (.aload_n 0, 1) := by decide +kernel
theorem dX12_ruleLine_10 : decode cX12_ruleLine 10 = .ok (.aload_n 0, 1) := by decide +kernel
theorem dX12_ruleLine_11 : decode cX12_ruleLine 11 = .ok (.getfield 80, 3) := by decide +kernel
theorem dX12_ruleLine_14 : decode cX12_ruleLine 14 = .ok (.invokevirtual 103, 3) := by decide +kernel
theorem dX12_ruleLine_17 : decode cX12_ruleLine 17 = .ok (.return_, 1) := by decide +kernel
theorem dX12_ruleLine_18 : decode cX12_ruleLine 18 = .ok (.aload_n 0, 1) := by decide +kernel
theorem dX12_ruleLine_19 : decode cX12_ruleLine 19 = .ok (.iconst 0, 1) := by decide +kernel
theorem dX12_ruleLine_20 : decode cX12_ruleLine 20 = .ok (.iconst 3, 1) := by decide +kernel
theorem dX12_ruleLine_21 : decode cX12_ruleLine 21 = .ok (.invokevirtual 113, 3) := by decide +kernel
theorem dX12_ruleLine_24 : decode cX12_ruleLine 24 = .ok (.istore_n 1, 1) := by decide +kernel
theorem dX12_ruleLine_25 : decode cX12_ruleLine 25 = .ok (.aload_n 0, 1) := by decide +kernel
theorem dX12_ruleLine_26 : decode cX12_ruleLine 26 = .ok (.getfield 22, 3) := by decide +kernel
theorem dX12_ruleLine_29 : decode cX12_ruleLine 29 = .ok (.iconst (-1), 1) := by decide +kernel
theorem dX12_ruleLine_30 : decode cX12_ruleLine 30 = .ok (.if_icmp .eq 4, 3) := by decide +kernel
theorem dX12_ruleLine_33 : decode cX12_ruleLine 33 = .ok (.return_, 1) := by decide +kernel
theorem dX12_ruleLine_34 : decode cX12_ruleLine 34 = .ok (.aload_n 0, 1) := by decide +kernel
theorem dX12_ruleLine_35 : decode cX12_ruleLine 35 = .ok (.ldc 192, 2) := by decide +kernel
theorem dX12_ruleLine_37 : decode cX12_ruleLine 37 = .ok (.invokevirtual 109, 3) := by decide +kernel
theorem dX12_ruleLine_40 : decode cX12_ruleLine 40 = .ok (.ifCond .eq 10, 3) := by decide +kernel
theorem dX12_ruleLine_43 : decode cX12_ruleLine 43 = .ok (.aload_n 0, 1) := by decide +kernel
theorem dX12_ruleLine_44 : decode cX12_ruleLine 44 = .ok (.invokevirtual 180, 3) := by decide +kernel
theorem dX12_ruleLine_47 : decode cX12_ruleLine 47 = .ok (.ifCond .eq 7, 3) := by decide +kernel
theorem dX12_ruleLine_50 : decode cX12_ruleLine 50 = .ok (.iconst 1, 1) := by decide +kernel
theorem dX12_ruleLine_51 : decode cX12_ruleLine 51 = .ok (.goto 4, 3) := by decide +kernel
theorem dX12_ruleLine_54 : decode cX12_ruleLine 54 = .ok (.iconst 0, 1) := by decide +kernel
theorem dX12_ruleLine_55 : decode cX12_ruleLine 55 = .ok (.istore_n 2, 1) := by decide +kernel
theorem dX12_ruleLine_56 : decode cX12_ruleLine 56 = .ok (.aload_n 0, 1) := by decide +kernel
theorem dX12_ruleLine_57 : decode cX12_ruleLine 57 = .ok (.getfield 22, 3) := by decide +kernel
theorem dX12_ruleLine_60 : decode cX12_ruleLine 60 = .ok (.iconst (-1), 1) := by decide +kernel
theorem dX12_ruleLine_61 : decode cX12_ruleLine 61 = .ok (.if_icmp .ne 20, 3) := by decide +kernel
theorem dX12_ruleLine_64 : decode cX12_ruleLine 64 = .ok (.iload_n 2, 1) := by decide +kernel
theorem dX12_ruleLine_65 : decode cX12_ruleLine 65 = .ok (.ifCond .eq 16, 3) := by decide +kernel
theorem dX12_ruleLine_68 : decode cX12_ruleLine 68 = .ok (.aload_n 0, 1) := by decide +kernel
theorem dX12_ruleLine_69 : decode cX12_ruleLine 69 = .ok (.getfield 194, 3) := by decide +kernel
theorem dX12_ruleLine_72 : decode cX12_ruleLine 72 = .ok (.iconst (-1), 1) := by decide +kernel
theorem dX12_ruleLine_73 : decode cX12_ruleLine 73 = .ok (.if_icmp .ne 8, 3) := by decide +kernel
theorem dX12_ruleLine_76 : decode cX12_ruleLine 76 = .ok (.aload_n 0, 1) := by decide +kernel
theorem dX12_ruleLine_77 : decode cX12_ruleLine 77 = .ok (.iload_n 1, 1) := by decide +kernel
theorem dX12_ruleLine_78 : decode cX12_ruleLine 78 = .ok (.putfield 194, 3) := by decide +kernel
theorem dX12_ruleLine_81 : decode cX12_ruleLine 81 = .ok (.return_, 1) := by decide +kernel
theorem dX12_rule_0 : decode cX12_rule 0 = .ok (.aload_n 0, 1) := by decide +kernel
theorem dX12_rule_1 : decode cX12_rule 1 = .ok (.iconst (-1), 1) := by decide +kernel
theorem dX12_rule_2 : decode cX12_rule 2 = .ok (.putfield 22, 3) := by decide +kernel
theorem dX12_rule_5 : decode cX12_rule 5 = .ok (.aload_n 0, 1) := by decide +kernel
theorem dX12_rule_6 : decode cX12_rule 6 = .ok (.iconst (-1), 1) := by decide +kernel
theorem dX12_rule_7 : decode cX12_rule 7 = .ok (.putfield 77, 3) := by decide +kernel
theorem dX12_rule_10 : decode cX12_rule 10 = .ok (.aload_n 0, 1) := by decide +kernel
theorem dX12_rule_11 : decode cX12_rule 11 = .ok (.aload_n 0, 1) := by decide +kernel
theorem dX12_rule_12 : decode cX12_rule 12 = .ok (.getfield 74, 3) := by decide +kernel
theorem dX12_rule_15 : decode cX12_rule 15 = .ok (.putfield 83, 3) := by decide +kernel
theorem dX12_rule_18 : decode cX12_rule 18 = .ok (.aload_n 0, 1) := by decide +kernel
theorem dX12_rule_19 : decode cX12_rule 19 = .ok (.iconst (-1), 1) := by decide +kernel
theorem dX12_rule_20 : decode cX12_rule 20 = .ok (.putfield 194, 3) := by decide +kernel
theorem dX12_rule_23 : decode cX12_rule 23 = .ok (.aload_n 0, 1) := by decide +kernel
theorem dX12_rule_24 : decode cX12_rule 24 = .ok (.iconst 1, 1) := by decide +kernel
theorem dX12_rule_25 : decode cX12_rule 25 = .ok (.invokevirtual 142, 3) := by decide +kernel
theorem dX12_rule_28 : decode cX12_rule 28 = .ok (.aload_n 0, 1) := by decide +kernel
theorem dX12_rule_29 : decode cX12_rule 29 = .ok (.getfield 74, 3) := by decide +kernel
theorem dX12_rule_32 : decode cX12_rule 32 = .ok (.istore_n 1, 1) := by decide +kernel
theorem dX12_rule_33 : decode cX12_rule 33 = .ok (.aload_n 0, 1) := by decide +kernel
theorem dX12_rule_34 : decode cX12_rule 34 = .ok (.iconst 0, 1) := by decide +kernel
theorem dX12_rule_35 : decode cX12_rule 35 = .ok (.putfield 74, 3) := by decide +kernel
theorem dX12_rule_38 : decode cX12_rule 38 = .ok (.aload_n 0, 1) := by decide +kernel
theorem dX12_rule_39 : decode cX12_rule 39 = .ok (.aload_n 0, 1) := by decide +kernel
theorem dX12_rule_40 : decode cX12_rule 40 = .ok (.getfield 22, 3) := by decide +kernel
theorem dX12_rule_43 : decode cX12_rule 43 = .ok (.iconst (-1), 1) := by decide +kernel
theorem dX12_rule_44 : decode cX12_rule 44 = .ok (.if_icmp .eq 7, 3) := by decide +kernel
theorem dX12_rule_47 : decode cX12_rule 47 = .ok (.iconst 1, 1) := by decide +kernel
theorem dX12_rule_48 : decode cX12_rule 48 = .ok (.goto 21, 3) := by decide +kernel
theorem dX12_rule_51 : decode cX12_rule 51 = .ok (.aload_n 0, 1) := by decide +kernel
theorem dX12_rule_52 : decode cX12_rule 52 = .ok (.getfield 7, 3) := by decide +kernel
theorem dX12_rule_55 : decode cX12_rule 55 = .ok (.sipush 193, 3) := by decide +kernel
theorem dX12_rule_58 : decode cX12_rule 58 = .ok (.iaload, 1) := by decide +kernel
theorem dX12_rule_59 : decode cX12_rule 59 = .ok (.bipush 6, 2) := by decide +kernel
theorem dX12_rule_61 : decode cX12_rule 61 = .ok (.if_icmp .ne 7, 3) := by decide +kernel
theorem dX12_rule_64 : decode cX12_rule 64 = .ok (.iconst 2, 1) := by decide +kernel
theorem dX12_rule_65 : decode cX12_rule 65 = .ok (.goto 4, 3) := by decide +kernel
theorem dX12_rule_68 : decode cX12_rule 68 = .ok (.iconst 0, 1) := by decide +kernel
theorem dX12_rule_69 : decode cX12_rule 69 = .ok (.putfield 67, 3) := by decide +kernel
theorem dX12_rule_72 : decode cX12_rule 72 = .ok (.aload_n 0, 1) := by decide +kernel
theorem dX12_rule_73 : decode cX12_rule 73 = .ok (.getfield 67, 3) := by decide +kernel
theorem dX12_rule_76 : decode cX12_rule 76 = .ok (.ifCond .le 5, 3) := by decide +kernel
theorem dX12_rule_79 : decode cX12_rule 79 = .ok (.iconst 0, 1) := by decide +kernel
theorem dX12_rule_80 : decode cX12_rule 80 = .ok (.ireturn, 1) := by decide +kernel
theorem dX12_rule_81 : decode cX12_rule 81 = .ok (.sipush 210, 3) := by decide +kernel
theorem dX12_rule_84 : decode cX12_rule 84 = .ok (.sipush 401, 3) := by decide +kernel
theorem dX12_rule_87 : decode cX12_rule 87 = .ok (.aload_n 0, 1) := by decide +kernel
theorem dX12_rule_88 : decode cX12_rule 88 = .ok (.getfield 7, 3) := by decide +kernel
theorem dX12_rule_91 : decode cX12_rule 91 = .ok (.sipush 193, 3) := by decide +kernel
theorem dX12_rule_94 : decode cX12_rule 94 = .ok (.iaload, 1) := by decide +kernel
theorem dX12_rule_95 : decode cX12_rule 95 = .ok (.imul, 1) := by decide +kernel
theorem dX12_rule_96 : decode cX12_rule 96 = .ok (.iadd, 1) := by decide +kernel
theorem dX12_rule_97 : decode cX12_rule 97 = .ok (.istore_n 2, 1) := by decide +kernel
theorem dX12_rule_98 : decode cX12_rule 98 = .ok (.aload_n 0, 1) := by decide +kernel
theorem dX12_rule_99 : decode cX12_rule 99 = .ok (.getfield 7, 3) := by decide +kernel
theorem dX12_rule_102 : decode cX12_rule 102 = .ok (.iload_n 2, 1) := by decide +kernel
theorem dX12_rule_103 : decode cX12_rule 103 = .ok (.iload_n 1, 1) := by decide +kernel
theorem dX12_rule_104 : decode cX12_rule 104 = .ok (.iastore, 1) := by decide +kernel
theorem dX12_rule_105 : decode cX12_rule 105 = .ok (.iconst 0, 1) := by decide +kernel
theorem dX12_rule_106 : decode cX12_rule 106 = .ok (.istore_n 3, 1) := by decide +kernel
theorem dX12_rule_107 : decode cX12_rule 107 = .ok (.iload_n 3, 1) := by decide +kernel
theorem dX12_rule_108 : decode cX12_rule 108 = .ok (.iload_n 1, 1) := by decide +kernel
theorem dX12_rule_109 : decode cX12_rule 109 = .ok (.if_icmp .ge 25, 3) := by decide +kernel
theorem dX12_rule_112 : decode cX12_rule 112 = .ok (.aload_n 0, 1) := by decide +kernel
theorem dX12_rule_113 : decode cX12_rule 113 = .ok (.getfield 7, 3) := by decide +kernel
theorem dX12_rule_116 : decode cX12_rule 116 = .ok (.iload_n 2, 1) := by decide +kernel
theorem dX12_rule_117 : decode cX12_rule 117 = .ok (.iconst 1, 1) := by decide +kernel
theorem dX12_rule_118 : decode cX12_rule 118 = .ok (.iadd, 1) := by decide +kernel
theorem dX12_rule_119 : decode cX12_rule 119 = .ok (.iload_n 3, 1) := by decide +kernel
theorem dX12_rule_120 : decode cX12_rule 120 = .ok (.iadd, 1) := by decide +kernel
theorem dX12_rule_121 : decode cX12_rule 121 = .ok (.aload_n 0, 1) := by decide +kernel
theorem dX12_rule_122 : decode cX12_rule 122 = .ok (.getfield 19, 3) := by decide +kernel
theorem dX12_rule_125 : decode cX12_rule 125 = .ok (.iload_n 3, 1) := by decide +kernel
theorem dX12_rule_126 : decode cX12_rule 126 = .ok (.iaload, 1) := by decide +kernel
theorem dX12_rule_127 : decode cX12_rule 127 = .ok (.iastore, 1) := by decide +kernel
theorem dX12_rule_128 : decode cX12_rule 128 = .ok (.iinc 3 1, 3) := by decide +kernel
theorem dX12_rule_131 : decode cX12_rule 131 = .ok (.goto (-24), 3) := by decide +kernel
theorem dX12_rule_134 : decode cX12_rule 134 = .ok (.aload_n 0, 1) := by decide +kernel
theorem dX12_rule_135 : decode cX12_rule 135 = .ok (.getfield 7, 3) := by decide +kernel
theorem dX12_rule_138 : decode cX12_rule 138 = .ok (.sipush 193, 3) := by decide +kernel
theorem dX12_rule_141 : decode cX12_rule 141 = .ok (.dup2, 1) := by decide +kernel
theorem dX12_rule_142 : decode cX12_rule 142 = .ok (.iaload, 1) := by decide +kernel
theorem dX12_rule_143 : decode cX12_rule 143 = .ok (.iconst 1, 1) := by decide +kernel
theorem dX12_rule_144 : decode cX12_rule 144 = .ok (.iadd, 1) := by decide +kernel
theorem dX12_rule_145 : decode cX12_rule 145 = .ok (.iastore, 1) := by decide +kernel
theorem dX12_rule_146 : decode cX12_rule 146 = .ok (.aload_n 0, 1) := by decide +kernel
theorem dX12_rule_147 : decode cX12_rule 147 = .ok (.getfield 7, 3) := by decide +kernel
theorem dX12_rule_150 : decode cX12_rule 150 = .ok (.sipush 193, 3) := by decide +kernel
theorem dX12_rule_153 : decode cX12_rule 153 = .ok (.iaload, 1) := by decide +kernel
theorem dX12_rule_154 : decode cX12_rule 154 = .ok (.iconst 1, 1) := by decide +kernel
theorem dX12_rule_155 : decode cX12_rule 155 = .ok (.isub, 1) := by decide +kernel
theorem dX12_rule_156 : decode cX12_rule 156 = .ok (.ireturn, 1) := by decide +kernel
theorem dX12_fault_0 : decode cX12_fault 0 = .ok (.aload_n 0, 1) := by decide +kernel
theorem dX12_fault_1 : decode cX12_fault 1 = .ok (.iconst 0, 1) := by decide +kernel
theorem dX12_fault_2 : decode cX12_fault 2 = .ok (.putfield 67, 3) := by decide +kernel
theorem dX12_fault_5 : decode cX12_fault 5 = .ok (.aload_n 0, 1) := by decide +kernel
theorem dX12_fault_6 : decode cX12_fault 6 = .ok (.getfield 22, 3) := by decide +kernel
theorem dX12_fault_9 : decode cX12_fault 9 = .ok (.ireturn, 1) := by decide +kernel
theorem dX12_look_0 : decode cX12_look 0 = .ok (.aload_n 0, 1) := by decide +kernel
theorem dX12_look_1 : decode cX12_look 1 = .ok (.iload_n 1, 1) := by decide +kernel
theorem dX12_look_2 : decode cX12_look 2 = .ok (.iconst 0, 1) := by decide +kernel
theorem dX12_look_3 : decode cX12_look 3 = .ok (.iconst 3, 1) := by decide +kernel
theorem dX12_look_4 : decode cX12_look 4 = .ok (.invokestatic 70, 3) := by decide +kernel
theorem dX12_look_7 : decode cX12_look 7 = .ok (.ifCond .eq 12, 3) := by decide +kernel
theorem dX12_look_10 : decode cX12_look 10 = .ok (.iload_n 2, 1) := by decide +kernel
theorem dX12_look_11 : decode cX12_look 11 = .ok (.iconst 0, 1) := by decide +kernel
theorem dX12_look_12 : decode cX12_look 12 = .ok (.iconst 3, 1) := by decide +kernel
theorem dX12_look_13 : decode cX12_look 13 = .ok (.invokestatic 70, 3) := by decide +kernel
theorem dX12_look_16 : decode cX12_look 16 = .ok (.ifCond .ne 7, 3) := by decide +kernel
theorem dX12_look_19 : decode cX12_look 19 = .ok (.iconst 1, 1) := by decide +kernel
theorem dX12_look_20 : decode cX12_look 20 = .ok (.goto 18, 3) := by decide +kernel
theorem dX12_look_23 : decode cX12_look 23 = .ok (.iload_n 3, 1) := by decide +kernel
theorem dX12_look_24 : decode cX12_look 24 = .ok (.iconst 0, 1) := by decide +kernel
theorem dX12_look_25 : decode cX12_look 25 = .ok (.bipush 11, 2) := by decide +kernel
theorem dX12_look_27 : decode cX12_look 27 = .ok (.invokestatic 70, 3) := by decide +kernel
theorem dX12_look_30 : decode cX12_look 30 = .ok (.ifCond .ne 7, 3) := by decide +kernel
theorem dX12_look_33 : decode cX12_look 33 = .ok (.iconst 2, 1) := by decide +kernel
theorem dX12_look_34 : decode cX12_look 34 = .ok (.goto 4, 3) := by decide +kernel
theorem dX12_look_37 : decode cX12_look 37 = .ok (.iconst 0, 1) := by decide +kernel
theorem dX12_look_38 : decode cX12_look 38 = .ok (.putfield 67, 3) := by decide +kernel
theorem dX12_look_41 : decode cX12_look 41 = .ok (.aload_n 0, 1) := by decide +kernel
theorem dX12_look_42 : decode cX12_look 42 = .ok (.getfield 67, 3) := by decide +kernel
theorem dX12_look_45 : decode cX12_look 45 = .ok (.ifCond .le 5, 3) := by decide +kernel
theorem dX12_look_48 : decode cX12_look 48 = .ok (.iconst 0, 1) := by decide +kernel
theorem dX12_look_49 : decode cX12_look 49 = .ok (.ireturn, 1) := by decide +kernel
theorem dX12_look_50 : decode cX12_look 50 = .ok (.aload_n 0, 1) := by decide +kernel
theorem dX12_look_51 : decode cX12_look 51 = .ok (.getfield 7, 3) := by decide +kernel
theorem dX12_look_54 : decode cX12_look 54 = .ok (.iconst 0, 1) := by decide +kernel
theorem dX12_look_55 : decode cX12_look 55 = .ok (.bipush 12, 2) := by decide +kernel
theorem dX12_look_57 : decode cX12_look 57 = .ok (.iconst 4, 1) := by decide +kernel
theorem dX12_look_58 : decode cX12_look 58 = .ok (.iload_n 1, 1) := by decide +kernel
theorem dX12_look_59 : decode cX12_look 59 = .ok (.imul, 1) := by decide +kernel
theorem dX12_look_60 : decode cX12_look 60 = .ok (.iload_n 2, 1) := by decide +kernel
theorem dX12_look_61 : decode cX12_look 61 = .ok (.iadd, 1) := by decide +kernel
theorem dX12_look_62 : decode cX12_look 62 = .ok (.imul, 1) := by decide +kernel
theorem dX12_look_63 : decode cX12_look 63 = .ok (.iadd, 1) := by decide +kernel
theorem dX12_look_64 : decode cX12_look 64 = .ok (.iload_n 3, 1) := by decide +kernel
theorem dX12_look_65 : decode cX12_look 65 = .ok (.iadd, 1) := by decide +kernel
theorem dX12_look_66 : decode cX12_look 66 = .ok (.iaload, 1) := by decide +kernel
theorem dX12_look_67 : decode cX12_look 67 = .ok (.ireturn, 1) := by decide +kernel
theorem dX12_plays_0 : decode cX12_plays 0 = .ok (.aload_n 0, 1) := by decide +kernel
theorem dX12_plays_1 : decode cX12_plays 1 = .ok (.iload_n 1, 1) := by decide +kernel
theorem dX12_plays_2 : decode cX12_plays 2 = .ok (.invokestatic 197, 3) := by decide +kernel
theorem dX12_plays_5 : decode cX12_plays 5 = .ok (.ifCond .eq 21, 3) := by decide +kernel
theorem dX12_plays_8 : decode cX12_plays 8 = .ok (.iload_n 2, 1) := by decide +kernel
theorem dX12_plays_9 : decode cX12_plays 9 = .ok (.iconst (-1), 1) := by decide +kernel
theorem dX12_plays_10 : decode cX12_plays 10 = .ok (.aload_n 0, 1) := by decide +kernel
theorem dX12_plays_11 : decode cX12_plays 11 = .ok (.getfield 7, 3) := by decide +kernel
theorem dX12_plays_14 : decode cX12_plays 14 = .ok (.sipush 193, 3) := by decide +kernel
theorem dX12_plays_17 : decode cX12_plays 17 = .ok (.iaload, 1) := by decide +kernel
theorem dX12_plays_18 : decode cX12_plays 18 = .ok (.iconst 1, 1) := by decide +kernel
theorem dX12_plays_19 : decode cX12_plays 19 = .ok (.isub, 1) := by decide +kernel
theorem dX12_plays_20 : decode cX12_plays 20 = .ok (.invokestatic 70, 3) := by decide +kernel
theorem dX12_plays_23 : decode cX12_plays 23 = .ok (.ifCond .ne 7, 3) := by decide +kernel
theorem dX12_plays_26 : decode cX12_plays 26 = .ok (.iconst 1, 1) := by decide +kernel
theorem dX12_plays_27 : decode cX12_plays 27 = .ok (.goto 4, 3) := by decide +kernel
theorem dX12_plays_30 : decode cX12_plays 30 = .ok (.iconst 0, 1) := by decide +kernel
theorem dX12_plays_31 : decode cX12_plays 31 = .ok (.putfield 67, 3) := by decide +kernel
theorem dX12_plays_34 : decode cX12_plays 34 = .ok (.aload_n 0, 1) := by decide +kernel
theorem dX12_plays_35 : decode cX12_plays 35 = .ok (.getfield 67, 3) := by decide +kernel
theorem dX12_plays_38 : decode cX12_plays 38 = .ok (.ifCond .le 5, 3) := by decide +kernel
theorem dX12_plays_41 : decode cX12_plays 41 = .ok (.iconst 0, 1) := by decide +kernel
theorem dX12_plays_42 : decode cX12_plays 42 = .ok (.ireturn, 1) := by decide +kernel
theorem dX12_plays_43 : decode cX12_plays 43 = .ok (.aload_n 0, 1) := by decide +kernel
theorem dX12_plays_44 : decode cX12_plays 44 = .ok (.getfield 7, 3) := by decide +kernel
theorem dX12_plays_47 : decode cX12_plays 47 = .ok (.sipush 199, 3) := by decide +kernel
theorem dX12_plays_50 : decode cX12_plays 50 = .ok (.iload_n 1, 1) := by decide +kernel
theorem dX12_plays_51 : decode cX12_plays 51 = .ok (.iadd, 1) := by decide +kernel
theorem dX12_plays_52 : decode cX12_plays 52 = .ok (.iaload, 1) := by decide +kernel
theorem dX12_plays_53 : decode cX12_plays 53 = .ok (.istore_n 3, 1) := by decide +kernel
theorem dX12_plays_54 : decode cX12_plays 54 = .ok (.aload_n 0, 1) := by decide +kernel
theorem dX12_plays_55 : decode cX12_plays 55 = .ok (.getfield 7, 3) := by decide +kernel
theorem dX12_plays_58 : decode cX12_plays 58 = .ok (.sipush 199, 3) := by decide +kernel
theorem dX12_plays_61 : decode cX12_plays 61 = .ok (.iload_n 1, 1) := by decide +kernel
theorem dX12_plays_62 : decode cX12_plays 62 = .ok (.iadd, 1) := by decide +kernel
theorem dX12_plays_63 : decode cX12_plays 63 = .ok (.iload_n 2, 1) := by decide +kernel
theorem dX12_plays_64 : decode cX12_plays 64 = .ok (.iastore, 1) := by decide +kernel
theorem dX12_plays_65 : decode cX12_plays 65 = .ok (.iload_n 3, 1) := by decide +kernel
theorem dX12_plays_66 : decode cX12_plays 66 = .ok (.ireturn, 1) := by decide +kernel
theorem dX12_styleOf_0 : decode cX12_styleOf 0 = .ok (.aload_n 0, 1) := by decide +kernel
theorem dX12_styleOf_1 : decode cX12_styleOf 1 = .ok (.getfield 7, 3) := by decide +kernel
theorem dX12_styleOf_4 : decode cX12_styleOf 4 = .ok (.sipush 199, 3) := by decide +kernel
theorem dX12_styleOf_7 : decode cX12_styleOf 7 = .ok (.iload_n 1, 1) := by decide +kernel
theorem dX12_styleOf_8 : decode cX12_styleOf 8 = .ok (.iadd, 1) := by decide +kernel
theorem dX12_styleOf_9 : decode cX12_styleOf 9 = .ok (.iaload, 1) := by decide +kernel
theorem dX12_styleOf_10 : decode cX12_styleOf 10 = .ok (.iconst (-1), 1) := by decide +kernel
theorem dX12_styleOf_11 : decode cX12_styleOf 11 = .ok (.if_icmp .ne 5, 3) := by decide +kernel
theorem dX12_styleOf_14 : decode cX12_styleOf 14 = .ok (.iconst 0, 1) := by decide +kernel
theorem dX12_styleOf_15 : decode cX12_styleOf 15 = .ok (.ireturn, 1) := by decide +kernel
theorem dX12_styleOf_16 : decode cX12_styleOf 16 = .ok (.aload_n 0, 1) := by decide +kernel
theorem dX12_styleOf_17 : decode cX12_styleOf 17 = .ok (.getfield 26, 3) := by decide +kernel
theorem dX12_styleOf_20 : decode cX12_styleOf 20 = .ok (.iconst 0, 1) := by decide +kernel
theorem dX12_styleOf_21 : decode cX12_styleOf 21 = .ok (.aload_n 0, 1) := by decide +kernel
theorem dX12_styleOf_22 : decode cX12_styleOf 22 = .ok (.getfield 29, 3) := by decide +kernel
theorem dX12_styleOf_25 : decode cX12_styleOf 25 = .ok (.iload_n 1, 1) := by decide +kernel
theorem dX12_styleOf_26 : decode cX12_styleOf 26 = .ok (.iaload, 1) := by decide +kernel
theorem dX12_styleOf_27 : decode cX12_styleOf 27 = .ok (.iconst 3, 1) := by decide +kernel
theorem dX12_styleOf_28 : decode cX12_styleOf 28 = .ok (.iadd, 1) := by decide +kernel
theorem dX12_styleOf_29 : decode cX12_styleOf 29 = .ok (.iastore, 1) := by decide +kernel
theorem dX12_styleOf_30 : decode cX12_styleOf 30 = .ok (.aload_n 0, 1) := by decide +kernel
theorem dX12_styleOf_31 : decode cX12_styleOf 31 = .ok (.getfield 26, 3) := by decide +kernel
theorem dX12_styleOf_34 : decode cX12_styleOf 34 = .ok (.iconst 1, 1) := by decide +kernel
theorem dX12_styleOf_35 : decode cX12_styleOf 35 = .ok (.aload_n 0, 1) := by decide +kernel
theorem dX12_styleOf_36 : decode cX12_styleOf 36 = .ok (.getfield 29, 3) := by decide +kernel
theorem dX12_styleOf_39 : decode cX12_styleOf 39 = .ok (.iconst 1, 1) := by decide +kernel
theorem dX12_styleOf_40 : decode cX12_styleOf 40 = .ok (.iload_n 1, 1) := by decide +kernel
theorem dX12_styleOf_41 : decode cX12_styleOf 41 = .ok (.isub, 1) := by decide +kernel
theorem dX12_styleOf_42 : decode cX12_styleOf 42 = .ok (.iaload, 1) := by decide +kernel
theorem dX12_styleOf_43 : decode cX12_styleOf 43 = .ok (.iconst 3, 1) := by decide +kernel
theorem dX12_styleOf_44 : decode cX12_styleOf 44 = .ok (.iadd, 1) := by decide +kernel
theorem dX12_styleOf_45 : decode cX12_styleOf 45 = .ok (.iastore, 1) := by decide +kernel
theorem dX12_styleOf_46 : decode cX12_styleOf 46 = .ok (.aload_n 0, 1) := by decide +kernel
theorem dX12_styleOf_47 : decode cX12_styleOf 47 = .ok (.getfield 26, 3) := by decide +kernel
theorem dX12_styleOf_50 : decode cX12_styleOf 50 = .ok (.iconst 2, 1) := by decide +kernel
theorem dX12_styleOf_51 : decode cX12_styleOf 51 = .ok (.aload_n 0, 1) := by decide +kernel
theorem dX12_styleOf_52 : decode cX12_styleOf 52 = .ok (.getfield 29, 3) := by decide +kernel
theorem dX12_styleOf_55 : decode cX12_styleOf 55 = .ok (.iconst 3, 1) := by decide +kernel
theorem dX12_styleOf_56 : decode cX12_styleOf 56 = .ok (.iaload, 1) := by decide +kernel
theorem dX12_styleOf_57 : decode cX12_styleOf 57 = .ok (.ifCond .ne 8, 3) := by decide +kernel
theorem dX12_styleOf_60 : decode cX12_styleOf 60 = .ok (.bipush 10, 2) := by decide +kernel
theorem dX12_styleOf_62 : decode cX12_styleOf 62 = .ok (.goto 9, 3) := by decide +kernel
theorem dX12_styleOf_65 : decode cX12_styleOf 65 = .ok (.aload_n 0, 1) := by decide +kernel
theorem dX12_styleOf_66 : decode cX12_styleOf 66 = .ok (.getfield 29, 3) := by decide +kernel
theorem dX12_styleOf_69 : decode cX12_styleOf 69 = .ok (.iconst 4, 1) := by decide +kernel
theorem dX12_styleOf_70 : decode cX12_styleOf 70 = .ok (.iaload, 1) := by decide +kernel
theorem dX12_styleOf_71 : decode cX12_styleOf 71 = .ok (.iastore, 1) := by decide +kernel
theorem dX12_styleOf_72 : decode cX12_styleOf 72 = .ok (.aload_n 0, 1) := by decide +kernel
theorem dX12_styleOf_73 : decode cX12_styleOf 73 = .ok (.getfield 26, 3) := by decide +kernel
theorem dX12_styleOf_76 : decode cX12_styleOf 76 = .ok (.iconst 3, 1) := by decide +kernel
theorem dX12_styleOf_77 : decode cX12_styleOf 77 = .ok (.aload_n 0, 1) := by decide +kernel
theorem dX12_styleOf_78 : decode cX12_styleOf 78 = .ok (.getfield 29, 3) := by decide +kernel
theorem dX12_styleOf_81 : decode cX12_styleOf 81 = .ok (.iconst 3, 1) := by decide +kernel
theorem dX12_styleOf_82 : decode cX12_styleOf 82 = .ok (.iaload, 1) := by decide +kernel
theorem dX12_styleOf_83 : decode cX12_styleOf 83 = .ok (.iastore, 1) := by decide +kernel
theorem dX12_styleOf_84 : decode cX12_styleOf 84 = .ok (.aload_n 0, 1) := by decide +kernel
theorem dX12_styleOf_85 : decode cX12_styleOf 85 = .ok (.getfield 26, 3) := by decide +kernel
theorem dX12_styleOf_88 : decode cX12_styleOf 88 = .ok (.iconst 4, 1) := by decide +kernel
theorem dX12_styleOf_89 : decode cX12_styleOf 89 = .ok (.aload_n 0, 1) := by decide +kernel
theorem dX12_styleOf_90 : decode cX12_styleOf 90 = .ok (.getfield 29, 3) := by decide +kernel
theorem dX12_styleOf_93 : decode cX12_styleOf 93 = .ok (.bipush 7, 2) := by decide +kernel
theorem dX12_styleOf_95 : decode cX12_styleOf 95 = .ok (.iload_n 1, 1) := by decide +kernel
theorem dX12_styleOf_96 : decode cX12_styleOf 96 = .ok (.iadd, 1) := by decide +kernel
theorem dX12_styleOf_97 : decode cX12_styleOf 97 = .ok (.iaload, 1) := by decide +kernel
theorem dX12_styleOf_98 : decode cX12_styleOf 98 = .ok (.iastore, 1) := by decide +kernel
theorem dX12_styleOf_99 : decode cX12_styleOf 99 = .ok (.aload_n 0, 1) := by decide +kernel
theorem dX12_styleOf_100 : decode cX12_styleOf 100 = .ok (.aload_n 0, 1) := by decide +kernel
theorem dX12_styleOf_101 : decode cX12_styleOf 101 = .ok (.getfield 29, 3) := by decide +kernel
theorem dX12_styleOf_104 : decode cX12_styleOf 104 = .ok (.iconst 2, 1) := by decide +kernel
theorem dX12_styleOf_105 : decode cX12_styleOf 105 = .ok (.iaload, 1) := by decide +kernel
theorem dX12_styleOf_106 : decode cX12_styleOf 106 = .ok (.iload_n 1, 1) := by decide +kernel
theorem dX12_styleOf_107 : decode cX12_styleOf 107 = .ok (.if_icmp .ne 7, 3) := by decide +kernel
theorem dX12_styleOf_110 : decode cX12_styleOf 110 = .ok (.iconst 1, 1) := by decide +kernel
theorem dX12_styleOf_111 : decode cX12_styleOf 111 = .ok (.goto 4, 3) := by decide +kernel
theorem dX12_styleOf_114 : decode cX12_styleOf 114 = .ok (.iconst 0, 1) := by decide +kernel
theorem dX12_styleOf_115 : decode cX12_styleOf 115 = .ok (.putfield 159, 3) := by decide +kernel
theorem dX12_styleOf_118 : decode cX12_styleOf 118 = .ok (.aload_n 0, 1) := by decide +kernel
theorem dX12_styleOf_119 : decode cX12_styleOf 119 = .ok (.aload_n 0, 1) := by decide +kernel
theorem dX12_styleOf_120 : decode cX12_styleOf 120 = .ok (.getfield 29, 3) := by decide +kernel
theorem dX12_styleOf_123 : decode cX12_styleOf 123 = .ok (.bipush 6, 2) := by decide +kernel
theorem dX12_styleOf_125 : decode cX12_styleOf 125 = .ok (.iaload, 1) := by decide +kernel
theorem dX12_styleOf_126 : decode cX12_styleOf 126 = .ok (.iconst 1, 1) := by decide +kernel
theorem dX12_styleOf_127 : decode cX12_styleOf 127 = .ok (.if_icmp .ne 7, 3) := by decide +kernel
theorem dX12_styleOf_130 : decode cX12_styleOf 130 = .ok (.iconst 1, 1) := by decide +kernel
theorem dX12_styleOf_131 : decode cX12_styleOf 131 = .ok (.goto 4, 3) := by decide +kernel
theorem dX12_styleOf_134 : decode cX12_styleOf 134 = .ok (.iconst 0, 1) := by decide +kernel
theorem dX12_styleOf_135 : decode cX12_styleOf 135 = .ok (.putfield 165, 3) := by decide +kernel
theorem dX12_styleOf_138 : decode cX12_styleOf 138 = .ok (.aload_n 0, 1) := by decide +kernel
theorem dX12_styleOf_139 : decode cX12_styleOf 139 = .ok (.getfield 22, 3) := by decide +kernel
theorem dX12_styleOf_142 : decode cX12_styleOf 142 = .ok (.istore_n 2, 1) := by decide +kernel
theorem dX12_styleOf_143 : decode cX12_styleOf 143 = .ok (.aload_n 0, 1) := by decide +kernel
theorem dX12_styleOf_144 : decode cX12_styleOf 144 = .ok (.iconst (-1), 1) := by decide +kernel
theorem dX12_styleOf_145 : decode cX12_styleOf 145 = .ok (.putfield 22, 3) := by decide +kernel
theorem dX12_styleOf_148 : decode cX12_styleOf 148 = .ok (.aload_n 0, 1) := by decide +kernel
theorem dX12_styleOf_149 : decode cX12_styleOf 149 = .ok (.sipush 210, 3) := by decide +kernel
theorem dX12_styleOf_152 : decode cX12_styleOf 152 = .ok (.sipush 401, 3) := by decide +kernel
theorem dX12_styleOf_155 : decode cX12_styleOf 155 = .ok (.aload_n 0, 1) := by decide +kernel
theorem dX12_styleOf_156 : decode cX12_styleOf 156 = .ok (.getfield 7, 3) := by decide +kernel
theorem dX12_styleOf_159 : decode cX12_styleOf 159 = .ok (.sipush 199, 3) := by decide +kernel
theorem dX12_styleOf_162 : decode cX12_styleOf 162 = .ok (.iload_n 1, 1) := by decide +kernel
theorem dX12_styleOf_163 : decode cX12_styleOf 163 = .ok (.iadd, 1) := by decide +kernel
theorem dX12_styleOf_164 : decode cX12_styleOf 164 = .ok (.iaload, 1) := by decide +kernel
theorem dX12_styleOf_165 : decode cX12_styleOf 165 = .ok (.imul, 1) := by decide +kernel
theorem dX12_styleOf_166 : decode cX12_styleOf 166 = .ok (.iadd, 1) := by decide +kernel
theorem dX12_styleOf_167 : decode cX12_styleOf 167 = .ok (.iconst 1, 1) := by decide +kernel
theorem dX12_styleOf_168 : decode cX12_styleOf 168 = .ok (.iadd, 1) := by decide +kernel
theorem dX12_styleOf_169 : decode cX12_styleOf 169 = .ok (.putfield 77, 3) := by decide +kernel
theorem dX12_styleOf_172 : decode cX12_styleOf 172 = .ok (.aload_n 0, 1) := by decide +kernel
theorem dX12_styleOf_173 : decode cX12_styleOf 173 = .ok (.aload_n 0, 1) := by decide +kernel
theorem dX12_styleOf_174 : decode cX12_styleOf 174 = .ok (.getfield 7, 3) := by decide +kernel
theorem dX12_styleOf_177 : decode cX12_styleOf 177 = .ok (.aload_n 0, 1) := by decide +kernel
theorem dX12_styleOf_178 : decode cX12_styleOf 178 = .ok (.getfield 77, 3) := by decide +kernel
theorem dX12_styleOf_181 : decode cX12_styleOf 181 = .ok (.iconst 1, 1) := by decide +kernel
theorem dX12_styleOf_182 : decode cX12_styleOf 182 = .ok (.isub, 1) := by decide +kernel
theorem dX12_styleOf_183 : decode cX12_styleOf 183 = .ok (.iaload, 1) := by decide +kernel
theorem dX12_styleOf_184 : decode cX12_styleOf 184 = .ok (.putfield 83, 3) := by decide +kernel
theorem dX12_styleOf_187 : decode cX12_styleOf 187 = .ok (.aload_n 0, 1) := by decide +kernel
theorem dX12_styleOf_188 : decode cX12_styleOf 188 = .ok (.iconst (-1), 1) := by decide +kernel
theorem dX12_styleOf_189 : decode cX12_styleOf 189 = .ok (.putfield 194, 3) := by decide +kernel
theorem dX12_styleOf_192 : decode cX12_styleOf 192 = .ok (.aload_n 0, 1) := by decide +kernel
theorem dX12_styleOf_193 : decode cX12_styleOf 193 = .ok (.iconst 1, 1) := by decide +kernel
theorem dX12_styleOf_194 : decode cX12_styleOf 194 = .ok (.invokevirtual 142, 3) := by decide +kernel
theorem dX12_styleOf_197 : decode cX12_styleOf 197 = .ok (.aload_n 0, 1) := by decide +kernel
theorem dX12_styleOf_198 : decode cX12_styleOf 198 = .ok (.iload_n 2, 1) := by decide +kernel
theorem dX12_styleOf_199 : decode cX12_styleOf 199 = .ok (.putfield 22, 3) := by decide +kernel
theorem dX12_styleOf_202 : decode cX12_styleOf 202 = .ok (.aload_n 0, 1) := by decide +kernel
theorem dX12_styleOf_203 : decode cX12_styleOf 203 = .ok (.getfield 194, 3) := by decide +kernel
theorem dX12_styleOf_206 : decode cX12_styleOf 206 = .ok (.iconst (-1), 1) := by decide +kernel
theorem dX12_styleOf_207 : decode cX12_styleOf 207 = .ok (.if_icmp .ne 7, 3) := by decide +kernel
theorem dX12_styleOf_210 : decode cX12_styleOf 210 = .ok (.iconst 0, 1) := by decide +kernel
theorem dX12_styleOf_211 : decode cX12_styleOf 211 = .ok (.goto 7, 3) := by decide +kernel
theorem dX12_styleOf_214 : decode cX12_styleOf 214 = .ok (.aload_n 0, 1) := by decide +kernel
theorem dX12_styleOf_215 : decode cX12_styleOf 215 = .ok (.getfield 194, 3) := by decide +kernel
theorem dX12_styleOf_218 : decode cX12_styleOf 218 = .ok (.ireturn, 1) := by decide +kernel
theorem dX12_takes_0 : decode cX12_takes 0 = .ok (.iconst 0, 1) := by decide +kernel
theorem dX12_takes_1 : decode cX12_takes 1 = .ok (.istore_n 1, 1) := by decide +kernel
theorem dX12_takes_2 : decode cX12_takes 2 = .ok (.iload_n 1, 1) := by decide +kernel
theorem dX12_takes_3 : decode cX12_takes 3 = .ok (.bipush 9, 2) := by decide +kernel
theorem dX12_takes_5 : decode cX12_takes 5 = .ok (.if_icmp .ge 25, 3) := by decide +kernel
theorem dX12_takes_8 : decode cX12_takes 8 = .ok (.aload_n 0, 1) := by decide +kernel
theorem dX12_takes_9 : decode cX12_takes 9 = .ok (.getfield 29, 3) := by decide +kernel
theorem dX12_takes_12 : decode cX12_takes 12 = .ok (.iload_n 1, 1) := by decide +kernel
theorem dX12_takes_13 : decode cX12_takes 13 = .ok (.aload_n 0, 1) := by decide +kernel
theorem dX12_takes_14 : decode cX12_takes 14 = .ok (.getfield 7, 3) := by decide +kernel
theorem dX12_takes_17 : decode cX12_takes 17 = .ok (.sipush 201, 3) := by decide +kernel
theorem dX12_takes_20 : decode cX12_takes 20 = .ok (.iload_n 1, 1) := by decide +kernel
theorem dX12_takes_21 : decode cX12_takes 21 = .ok (.iadd, 1) := by decide +kernel
theorem dX12_takes_22 : decode cX12_takes 22 = .ok (.iaload, 1) := by decide +kernel
theorem dX12_takes_23 : decode cX12_takes 23 = .ok (.iastore, 1) := by decide +kernel
theorem dX12_takes_24 : decode cX12_takes 24 = .ok (.iinc 1 1, 3) := by decide +kernel
theorem dX12_takes_27 : decode cX12_takes 27 = .ok (.goto (-25), 3) := by decide +kernel
theorem dX12_takes_30 : decode cX12_takes 30 = .ok (.return_, 1) := by decide +kernel
theorem dX12_puts_0 : decode cX12_puts 0 = .ok (.iconst 0, 1) := by decide +kernel
theorem dX12_puts_1 : decode cX12_puts 1 = .ok (.istore_n 1, 1) := by decide +kernel
theorem dX12_puts_2 : decode cX12_puts 2 = .ok (.iload_n 1, 1) := by decide +kernel
theorem dX12_puts_3 : decode cX12_puts 3 = .ok (.bipush 9, 2) := by decide +kernel
theorem dX12_puts_5 : decode cX12_puts 5 = .ok (.if_icmp .ge 25, 3) := by decide +kernel
theorem dX12_puts_8 : decode cX12_puts 8 = .ok (.aload_n 0, 1) := by decide +kernel
theorem dX12_puts_9 : decode cX12_puts 9 = .ok (.getfield 7, 3) := by decide +kernel
theorem dX12_puts_12 : decode cX12_puts 12 = .ok (.sipush 201, 3) := by decide +kernel
theorem dX12_puts_15 : decode cX12_puts 15 = .ok (.iload_n 1, 1) := by decide +kernel
theorem dX12_puts_16 : decode cX12_puts 16 = .ok (.iadd, 1) := by decide +kernel
theorem dX12_puts_17 : decode cX12_puts 17 = .ok (.aload_n 0, 1) := by decide +kernel
theorem dX12_puts_18 : decode cX12_puts 18 = .ok (.getfield 29, 3) := by decide +kernel
theorem dX12_puts_21 : decode cX12_puts 21 = .ok (.iload_n 1, 1) := by decide +kernel
theorem dX12_puts_22 : decode cX12_puts 22 = .ok (.iaload, 1) := by decide +kernel
theorem dX12_puts_23 : decode cX12_puts 23 = .ok (.iastore, 1) := by decide +kernel
theorem dX12_puts_24 : decode cX12_puts 24 = .ok (.iinc 1 1, 3) := by decide +kernel
theorem dX12_puts_27 : decode cX12_puts 27 = .ok (.goto (-25), 3) := by decide +kernel
theorem dX12_puts_30 : decode cX12_puts 30 = .ok (.return_, 1) := by decide +kernel
theorem dX12_style_0 : decode cX12_style 0 = .ok (.aload_n 0, 1) := by decide +kernel
theorem dX12_style_1 : decode cX12_style 1 = .ok (.iload_n 1, 1) := by decide +kernel
theorem dX12_style_2 : decode cX12_style 2 = .ok (.invokestatic 197, 3) := by decide +kernel
theorem dX12_style_5 : decode cX12_style 5 = .ok (.ifCond .ne 7, 3) := by decide +kernel
theorem dX12_style_8 : decode cX12_style 8 = .ok (.iconst 1, 1) := by decide +kernel
theorem dX12_style_9 : decode cX12_style 9 = .ok (.goto 4, 3) := by decide +kernel
theorem dX12_style_12 : decode cX12_style 12 = .ok (.iconst 0, 1) := by decide +kernel
theorem dX12_style_13 : decode cX12_style 13 = .ok (.putfield 67, 3) := by decide +kernel
theorem dX12_style_16 : decode cX12_style 16 = .ok (.aload_n 0, 1) := by decide +kernel
theorem dX12_style_17 : decode cX12_style 17 = .ok (.getfield 67, 3) := by decide +kernel
theorem dX12_style_20 : decode cX12_style 20 = .ok (.ifCond .le 5, 3) := by decide +kernel
theorem dX12_style_23 : decode cX12_style 23 = .ok (.iconst 0, 1) := by decide +kernel
theorem dX12_style_24 : decode cX12_style 24 = .ok (.ireturn, 1) := by decide +kernel
theorem dX12_style_25 : decode cX12_style 25 = .ok (.aload_n 0, 1) := by decide +kernel
theorem dX12_style_26 : decode cX12_style 26 = .ok (.invokevirtual 200, 3) := by decide +kernel
theorem dX12_style_29 : decode cX12_style 29 = .ok (.aload_n 0, 1) := by decide +kernel
theorem dX12_style_30 : decode cX12_style 30 = .ok (.iload_n 1, 1) := by decide +kernel
theorem dX12_style_31 : decode cX12_style 31 = .ok (.invokevirtual 203, 3) := by decide +kernel
theorem dX12_style_34 : decode cX12_style 34 = .ok (.ireturn, 1) := by decide +kernel
theorem dX12_score_0 : decode cX12_score 0 = .ok (.iload_n 1, 1) := by decide +kernel
theorem dX12_score_1 : decode cX12_score 1 = .ok (.bipush (-3), 2) := by decide +kernel
theorem dX12_score_3 : decode cX12_score 3 = .ok (.iconst 3, 1) := by decide +kernel
theorem dX12_score_4 : decode cX12_score 4 = .ok (.invokestatic 70, 3) := by decide +kernel
theorem dX12_score_7 : decode cX12_score 7 = .ok (.ifCond .eq 13, 3) := by decide +kernel
theorem dX12_score_10 : decode cX12_score 10 = .ok (.iload_n 2, 1) := by decide +kernel
theorem dX12_score_11 : decode cX12_score 11 = .ok (.bipush (-3), 2) := by decide +kernel
theorem dX12_score_13 : decode cX12_score 13 = .ok (.iconst 3, 1) := by decide +kernel
theorem dX12_score_14 : decode cX12_score 14 = .ok (.invokestatic 70, 3) := by decide +kernel
theorem dX12_score_17 : decode cX12_score 17 = .ok (.ifCond .ne 23, 3) := by decide +kernel
theorem dX12_score_20 : decode cX12_score 20 = .ok (.iload_n 1, 1) := by decide +kernel
theorem dX12_score_21 : decode cX12_score 21 = .ok (.iconst 4, 1) := by decide +kernel
theorem dX12_score_22 : decode cX12_score 22 = .ok (.if_icmp .ne 8, 3) := by decide +kernel
theorem dX12_score_25 : decode cX12_score 25 = .ok (.iload_n 2, 1) := by decide +kernel
theorem dX12_score_26 : decode cX12_score 26 = .ok (.iconst 3, 1) := by decide +kernel
theorem dX12_score_27 : decode cX12_score 27 = .ok (.if_icmp .eq 13, 3) := by decide +kernel
theorem dX12_score_30 : decode cX12_score 30 = .ok (.iload_n 1, 1) := by decide +kernel
theorem dX12_score_31 : decode cX12_score 31 = .ok (.iconst 3, 1) := by decide +kernel
theorem dX12_score_32 : decode cX12_score 32 = .ok (.if_icmp .ne 12, 3) := by decide +kernel
theorem dX12_score_35 : decode cX12_score 35 = .ok (.iload_n 2, 1) := by decide +kernel
theorem dX12_score_36 : decode cX12_score 36 = .ok (.iconst 4, 1) := by decide +kernel
theorem dX12_score_37 : decode cX12_score 37 = .ok (.if_icmp .ne 7, 3) := by decide +kernel
theorem dX12_score_40 : decode cX12_score 40 = .ok (.iconst 1, 1) := by decide +kernel
theorem dX12_score_41 : decode cX12_score 41 = .ok (.goto 4, 3) := by decide +kernel
theorem dX12_score_44 : decode cX12_score 44 = .ok (.iconst 0, 1) := by decide +kernel
theorem dX12_score_45 : decode cX12_score 45 = .ok (.istore 4, 2) := by decide +kernel
theorem dX12_score_47 : decode cX12_score 47 = .ok (.aload_n 0, 1) := by decide +kernel
theorem dX12_score_48 : decode cX12_score 48 = .ok (.iload_n 3, 1) := by decide +kernel
theorem dX12_score_49 : decode cX12_score 49 = .ok (.invokestatic 197, 3) := by decide +kernel
theorem dX12_score_52 : decode cX12_score 52 = .ok (.ifCond .ne 7, 3) := by decide +kernel
theorem dX12_score_55 : decode cX12_score 55 = .ok (.iconst 1, 1) := by decide +kernel
