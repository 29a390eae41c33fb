theorem dX12_score_56 : decode cX12_score 56 = .ok (.goto 13, 3) := by decide +kernel
theorem dX12_score_59 : decode cX12_score 59 = .ok (.iload 4, 2) := by decide +kernel
theorem dX12_score_61 : decode cX12_score 61 = .ok (.ifCond .ne 7, 3) := by decide +kernel
theorem dX12_score_64 : decode cX12_score 64 = .ok (.iconst 2, 1) := by decide +kernel
theorem dX12_score_65 : decode cX12_score 65 = .ok (.goto 4, 3) := by decide +kernel
theorem dX12_score_68 : decode cX12_score 68 = .ok (.iconst 0, 1) := by decide +kernel
theorem dX12_score_69 : decode cX12_score 69 = .ok (.putfield 67, 3) := by decide +kernel
theorem dX12_score_72 : decode cX12_score 72 = .ok (.aload_n 0, 1) := by decide +kernel
theorem dX12_score_73 : decode cX12_score 73 = .ok (.getfield 67, 3) := by decide +kernel
theorem dX12_score_76 : decode cX12_score 76 = .ok (.ifCond .le 4, 3) := by decide +kernel
theorem dX12_score_79 : decode cX12_score 79 = .ok (.return_, 1) := by decide +kernel
theorem dX12_score_80 : decode cX12_score 80 = .ok (.aload_n 0, 1) := by decide +kernel
theorem dX12_score_81 : decode cX12_score 81 = .ok (.getfield 7, 3) := by decide +kernel
theorem dX12_score_84 : decode cX12_score 84 = .ok (.sipush 201, 3) := by decide +kernel
theorem dX12_score_87 : decode cX12_score 87 = .ok (.iload_n 1, 1) := by decide +kernel
theorem dX12_score_88 : decode cX12_score 88 = .ok (.iastore, 1) := by decide +kernel
theorem dX12_score_89 : decode cX12_score 89 = .ok (.aload_n 0, 1) := by decide +kernel
theorem dX12_score_90 : decode cX12_score 90 = .ok (.getfield 7, 3) := by decide +kernel
theorem dX12_score_93 : decode cX12_score 93 = .ok (.sipush 202, 3) := by decide +kernel
theorem dX12_score_96 : decode cX12_score 96 = .ok (.iload_n 2, 1) := by decide +kernel
theorem dX12_score_97 : decode cX12_score 97 = .ok (.iastore, 1) := by decide +kernel
theorem dX12_score_98 : decode cX12_score 98 = .ok (.aload_n 0, 1) := by decide +kernel
theorem dX12_score_99 : decode cX12_score 99 = .ok (.getfield 7, 3) := by decide +kernel
theorem dX12_score_102 : decode cX12_score 102 = .ok (.sipush 203, 3) := by decide +kernel
theorem dX12_score_105 : decode cX12_score 105 = .ok (.iload_n 3, 1) := by decide +kernel
theorem dX12_score_106 : decode cX12_score 106 = .ok (.iastore, 1) := by decide +kernel
theorem dX12_score_107 : decode cX12_score 107 = .ok (.aload_n 0, 1) := by decide +kernel
theorem dX12_score_108 : decode cX12_score 108 = .ok (.getfield 7, 3) := by decide +kernel
theorem dX12_score_111 : decode cX12_score 111 = .ok (.sipush 204, 3) := by decide +kernel
theorem dX12_score_114 : decode cX12_score 114 = .ok (.iconst 0, 1) := by decide +kernel
theorem dX12_score_115 : decode cX12_score 115 = .ok (.iastore, 1) := by decide +kernel
theorem dX12_score_116 : decode cX12_score 116 = .ok (.aload_n 0, 1) := by decide +kernel
theorem dX12_score_117 : decode cX12_score 117 = .ok (.getfield 7, 3) := by decide +kernel
theorem dX12_score_120 : decode cX12_score 120 = .ok (.sipush 207, 3) := by decide +kernel
theorem dX12_score_123 : decode cX12_score 123 = .ok (.iconst 0, 1) := by decide +kernel
theorem dX12_score_124 : decode cX12_score 124 = .ok (.iastore, 1) := by decide +kernel
theorem dX12_score_125 : decode cX12_score 125 = .ok (.return_, 1) := by decide +kernel
theorem dX12_games_0 : decode cX12_games 0 = .ok (.aload_n 0, 1) := by decide +kernel
theorem dX12_games_1 : decode cX12_games 1 = .ok (.iload_n 1, 1) := by decide +kernel
theorem dX12_games_2 : decode cX12_games 2 = .ok (.iconst 0, 1) := by decide +kernel
theorem dX12_games_3 : decode cX12_games 3 = .ok (.bipush 6, 2) := by decide +kernel
theorem dX12_games_5 : decode cX12_games 5 = .ok (.invokestatic 70, 3) := by decide +kernel
theorem dX12_games_8 : decode cX12_games 8 = .ok (.ifCond .eq 13, 3) := by decide +kernel
theorem dX12_games_11 : decode cX12_games 11 = .ok (.iload_n 2, 1) := by decide +kernel
theorem dX12_games_12 : decode cX12_games 12 = .ok (.iconst 0, 1) := by decide +kernel
theorem dX12_games_13 : decode cX12_games 13 = .ok (.bipush 6, 2) := by decide +kernel
theorem dX12_games_15 : decode cX12_games 15 = .ok (.invokestatic 70, 3) := by decide +kernel
theorem dX12_games_18 : decode cX12_games 18 = .ok (.ifCond .ne 7, 3) := by decide +kernel
theorem dX12_games_21 : decode cX12_games 21 = .ok (.iconst 1, 1) := by decide +kernel
theorem dX12_games_22 : decode cX12_games 22 = .ok (.goto 4, 3) := by decide +kernel
theorem dX12_games_25 : decode cX12_games 25 = .ok (.iconst 0, 1) := by decide +kernel
theorem dX12_games_26 : decode cX12_games 26 = .ok (.putfield 67, 3) := by decide +kernel
theorem dX12_games_29 : decode cX12_games 29 = .ok (.aload_n 0, 1) := by decide +kernel
theorem dX12_games_30 : decode cX12_games 30 = .ok (.getfield 67, 3) := by decide +kernel
theorem dX12_games_33 : decode cX12_games 33 = .ok (.ifCond .le 4, 3) := by decide +kernel
theorem dX12_games_36 : decode cX12_games 36 = .ok (.return_, 1) := by decide +kernel
theorem dX12_games_37 : decode cX12_games 37 = .ok (.aload_n 0, 1) := by decide +kernel
theorem dX12_games_38 : decode cX12_games 38 = .ok (.getfield 7, 3) := by decide +kernel
theorem dX12_games_41 : decode cX12_games 41 = .ok (.sipush 208, 3) := by decide +kernel
theorem dX12_games_44 : decode cX12_games 44 = .ok (.iload_n 1, 1) := by decide +kernel
theorem dX12_games_45 : decode cX12_games 45 = .ok (.iastore, 1) := by decide +kernel
theorem dX12_games_46 : decode cX12_games 46 = .ok (.aload_n 0, 1) := by decide +kernel
theorem dX12_games_47 : decode cX12_games 47 = .ok (.getfield 7, 3) := by decide +kernel
theorem dX12_games_50 : decode cX12_games 50 = .ok (.sipush 209, 3) := by decide +kernel
theorem dX12_games_53 : decode cX12_games 53 = .ok (.iload_n 2, 1) := by decide +kernel
theorem dX12_games_54 : decode cX12_games 54 = .ok (.iastore, 1) := by decide +kernel
theorem dX12_games_55 : decode cX12_games 55 = .ok (.return_, 1) := by decide +kernel
theorem dX12_begin_0 : decode cX12_begin 0 = .ok (.aload_n 0, 1) := by decide +kernel
theorem dX12_begin_1 : decode cX12_begin 1 = .ok (.iload_n 1, 1) := by decide +kernel
theorem dX12_begin_2 : decode cX12_begin 2 = .ok (.iconst 0, 1) := by decide +kernel
theorem dX12_begin_3 : decode cX12_begin 3 = .ok (.iconst 3, 1) := by decide +kernel
theorem dX12_begin_4 : decode cX12_begin 4 = .ok (.invokestatic 70, 3) := by decide +kernel
theorem dX12_begin_7 : decode cX12_begin 7 = .ok (.ifCond .eq 12, 3) := by decide +kernel
theorem dX12_begin_10 : decode cX12_begin 10 = .ok (.iload_n 2, 1) := by decide +kernel
theorem dX12_begin_11 : decode cX12_begin 11 = .ok (.iconst 0, 1) := by decide +kernel
theorem dX12_begin_12 : decode cX12_begin 12 = .ok (.iconst 3, 1) := by decide +kernel
theorem dX12_begin_13 : decode cX12_begin 13 = .ok (.invokestatic 70, 3) := by decide +kernel
theorem dX12_begin_16 : decode cX12_begin 16 = .ok (.ifCond .ne 7, 3) := by decide +kernel
theorem dX12_begin_19 : decode cX12_begin 19 = .ok (.iconst 1, 1) := by decide +kernel
theorem dX12_begin_20 : decode cX12_begin 20 = .ok (.goto 4, 3) := by decide +kernel
theorem dX12_begin_23 : decode cX12_begin 23 = .ok (.iconst 0, 1) := by decide +kernel
theorem dX12_begin_24 : decode cX12_begin 24 = .ok (.putfield 67, 3) := by decide +kernel
theorem dX12_begin_27 : decode cX12_begin 27 = .ok (.aload_n 0, 1) := by decide +kernel
theorem dX12_begin_28 : decode cX12_begin 28 = .ok (.getfield 67, 3) := by decide +kernel
theorem dX12_begin_31 : decode cX12_begin 31 = .ok (.ifCond .le 4, 3) := by decide +kernel
theorem dX12_begin_34 : decode cX12_begin 34 = .ok (.return_, 1) := by decide +kernel
theorem dX12_begin_35 : decode cX12_begin 35 = .ok (.aload_n 0, 1) := by decide +kernel
theorem dX12_begin_36 : decode cX12_begin 36 = .ok (.getfield 7, 3) := by decide +kernel
theorem dX12_begin_39 : decode cX12_begin 39 = .ok (.sipush 197, 3) := by decide +kernel
theorem dX12_begin_42 : decode cX12_begin 42 = .ok (.iload_n 1, 1) := by decide +kernel
theorem dX12_begin_43 : decode cX12_begin 43 = .ok (.iastore, 1) := by decide +kernel
theorem dX12_begin_44 : decode cX12_begin 44 = .ok (.aload_n 0, 1) := by decide +kernel
theorem dX12_begin_45 : decode cX12_begin 45 = .ok (.getfield 7, 3) := by decide +kernel
theorem dX12_begin_48 : decode cX12_begin 48 = .ok (.sipush 198, 3) := by decide +kernel
theorem dX12_begin_51 : decode cX12_begin 51 = .ok (.iload_n 2, 1) := by decide +kernel
theorem dX12_begin_52 : decode cX12_begin 52 = .ok (.iastore, 1) := by decide +kernel
theorem dX12_begin_53 : decode cX12_begin 53 = .ok (.return_, 1) := by decide +kernel
theorem dX12_wouldWin_0 : decode cX12_wouldWin 0 = .ok (.aload_n 0, 1) := by decide +kernel
theorem dX12_wouldWin_1 : decode cX12_wouldWin 1 = .ok (.getfield 29, 3) := by decide +kernel
theorem dX12_wouldWin_4 : decode cX12_wouldWin 4 = .ok (.iload_n 1, 1) := by decide +kernel
theorem dX12_wouldWin_5 : decode cX12_wouldWin 5 = .ok (.iaload, 1) := by decide +kernel
theorem dX12_wouldWin_6 : decode cX12_wouldWin 6 = .ok (.iconst 1, 1) := by decide +kernel
theorem dX12_wouldWin_7 : decode cX12_wouldWin 7 = .ok (.iadd, 1) := by decide +kernel
theorem dX12_wouldWin_8 : decode cX12_wouldWin 8 = .ok (.iconst 4, 1) := by decide +kernel
theorem dX12_wouldWin_9 : decode cX12_wouldWin 9 = .ok (.if_icmp .lt 28, 3) := by decide +kernel
theorem dX12_wouldWin_12 : decode cX12_wouldWin 12 = .ok (.aload_n 0, 1) := by decide +kernel
theorem dX12_wouldWin_13 : decode cX12_wouldWin 13 = .ok (.getfield 29, 3) := by decide +kernel
theorem dX12_wouldWin_16 : decode cX12_wouldWin 16 = .ok (.iload_n 1, 1) := by decide +kernel
theorem dX12_wouldWin_17 : decode cX12_wouldWin 17 = .ok (.iaload, 1) := by decide +kernel
theorem dX12_wouldWin_18 : decode cX12_wouldWin 18 = .ok (.iconst 1, 1) := by decide +kernel
theorem dX12_wouldWin_19 : decode cX12_wouldWin 19 = .ok (.iadd, 1) := by decide +kernel
theorem dX12_wouldWin_20 : decode cX12_wouldWin 20 = .ok (.aload_n 0, 1) := by decide +kernel
theorem dX12_wouldWin_21 : decode cX12_wouldWin 21 = .ok (.getfield 29, 3) := by decide +kernel
theorem dX12_wouldWin_24 : decode cX12_wouldWin 24 = .ok (.iconst 1, 1) := by decide +kernel
theorem dX12_wouldWin_25 : decode cX12_wouldWin 25 = .ok (.iload_n 1, 1) := by decide +kernel
theorem dX12_wouldWin_26 : decode cX12_wouldWin 26 = .ok (.isub, 1) := by decide +kernel
theorem dX12_wouldWin_27 : decode cX12_wouldWin 27 = .ok (.iaload, 1) := by decide +kernel
theorem dX12_wouldWin_28 : decode cX12_wouldWin 28 = .ok (.isub, 1) := by decide +kernel
theorem dX12_wouldWin_29 : decode cX12_wouldWin 29 = .ok (.iconst 2, 1) := by decide +kernel
theorem dX12_wouldWin_30 : decode cX12_wouldWin 30 = .ok (.if_icmp .lt 7, 3) := by decide +kernel
theorem dX12_wouldWin_33 : decode cX12_wouldWin 33 = .ok (.iconst 1, 1) := by decide +kernel
theorem dX12_wouldWin_34 : decode cX12_wouldWin 34 = .ok (.goto 4, 3) := by decide +kernel
theorem dX12_wouldWin_37 : decode cX12_wouldWin 37 = .ok (.iconst 0, 1) := by decide +kernel
theorem dX12_wouldWin_38 : decode cX12_wouldWin 38 = .ok (.ireturn, 1) := by decide +kernel
theorem dX12_isOver_0 : decode cX12_isOver 0 = .ok (.aload_n 0, 1) := by decide +kernel
theorem dX12_isOver_1 : decode cX12_isOver 1 = .ok (.getfield 29, 3) := by decide +kernel
theorem dX12_isOver_4 : decode cX12_isOver 4 = .ok (.bipush 7, 2) := by decide +kernel
theorem dX12_isOver_6 : decode cX12_isOver 6 = .ok (.iaload, 1) := by decide +kernel
theorem dX12_isOver_7 : decode cX12_isOver 7 = .ok (.aload_n 0, 1) := by decide +kernel
theorem dX12_isOver_8 : decode cX12_isOver 8 = .ok (.getfield 7, 3) := by decide +kernel
theorem dX12_isOver_11 : decode cX12_isOver 11 = .ok (.sipush 194, 3) := by decide +kernel
theorem dX12_isOver_14 : decode cX12_isOver 14 = .ok (.iaload, 1) := by decide +kernel
theorem dX12_isOver_15 : decode cX12_isOver 15 = .ok (.if_icmp .ge 21, 3) := by decide +kernel
theorem dX12_isOver_18 : decode cX12_isOver 18 = .ok (.aload_n 0, 1) := by decide +kernel
theorem dX12_isOver_19 : decode cX12_isOver 19 = .ok (.getfield 29, 3) := by decide +kernel
theorem dX12_isOver_22 : decode cX12_isOver 22 = .ok (.bipush 8, 2) := by decide +kernel
theorem dX12_isOver_24 : decode cX12_isOver 24 = .ok (.iaload, 1) := by decide +kernel
theorem dX12_isOver_25 : decode cX12_isOver 25 = .ok (.aload_n 0, 1) := by decide +kernel
theorem dX12_isOver_26 : decode cX12_isOver 26 = .ok (.getfield 7, 3) := by decide +kernel
theorem dX12_isOver_29 : decode cX12_isOver 29 = .ok (.sipush 194, 3) := by decide +kernel
theorem dX12_isOver_32 : decode cX12_isOver 32 = .ok (.iaload, 1) := by decide +kernel
theorem dX12_isOver_33 : decode cX12_isOver 33 = .ok (.if_icmp .lt 7, 3) := by decide +kernel
theorem dX12_isOver_36 : decode cX12_isOver 36 = .ok (.iconst 1, 1) := by decide +kernel
theorem dX12_isOver_37 : decode cX12_isOver 37 = .ok (.goto 4, 3) := by decide +kernel
theorem dX12_isOver_40 : decode cX12_isOver 40 = .ok (.iconst 0, 1) := by decide +kernel
theorem dX12_isOver_41 : decode cX12_isOver 41 = .ok (.ireturn, 1) := by decide +kernel
theorem dX12_told_0 : decode cX12_told 0 = .ok (.iload_n 1, 1) := by decide +kernel
theorem dX12_told_1 : decode cX12_told 1 = .ok (.iconst 3, 1) := by decide +kernel
theorem dX12_told_2 : decode cX12_told 2 = .ok (.if_icmp .ne 10, 3) := by decide +kernel
theorem dX12_told_5 : decode cX12_told 5 = .ok (.aload_n 0, 1) := by decide +kernel
theorem dX12_told_6 : decode cX12_told 6 = .ok (.getfield 29, 3) := by decide +kernel
theorem dX12_told_9 : decode cX12_told 9 = .ok (.iconst 3, 1) := by decide +kernel
theorem dX12_told_10 : decode cX12_told 10 = .ok (.iaload, 1) := by decide +kernel
theorem dX12_told_11 : decode cX12_told 11 = .ok (.ireturn, 1) := by decide +kernel
theorem dX12_told_12 : decode cX12_told 12 = .ok (.iload_n 1, 1) := by decide +kernel
theorem dX12_told_13 : decode cX12_told 13 = .ok (.iconst 4, 1) := by decide +kernel
theorem dX12_told_14 : decode cX12_told 14 = .ok (.if_icmp .ne 23, 3) := by decide +kernel
theorem dX12_told_17 : decode cX12_told 17 = .ok (.aload_n 0, 1) := by decide +kernel
theorem dX12_told_18 : decode cX12_told 18 = .ok (.getfield 29, 3) := by decide +kernel
theorem dX12_told_21 : decode cX12_told 21 = .ok (.iconst 3, 1) := by decide +kernel
theorem dX12_told_22 : decode cX12_told 22 = .ok (.iaload, 1) := by decide +kernel
theorem dX12_told_23 : decode cX12_told 23 = .ok (.ifCond .le 12, 3) := by decide +kernel
theorem dX12_told_26 : decode cX12_told 26 = .ok (.aload_n 0, 1) := by decide +kernel
theorem dX12_told_27 : decode cX12_told 27 = .ok (.getfield 29, 3) := by decide +kernel
theorem dX12_told_30 : decode cX12_told 30 = .ok (.iconst 4, 1) := by decide +kernel
theorem dX12_told_31 : decode cX12_told 31 = .ok (.iaload, 1) := by decide +kernel
theorem dX12_told_32 : decode cX12_told 32 = .ok (.goto 4, 3) := by decide +kernel
theorem dX12_told_35 : decode cX12_told 35 = .ok (.iconst (-1), 1) := by decide +kernel
theorem dX12_told_36 : decode cX12_told 36 = .ok (.ireturn, 1) := by decide +kernel
theorem dX12_told_37 : decode cX12_told 37 = .ok (.iload_n 1, 1) := by decide +kernel
theorem dX12_told_38 : decode cX12_told 38 = .ok (.iconst 5, 1) := by decide +kernel
theorem dX12_told_39 : decode cX12_told 39 = .ok (.if_icmp .ne 24, 3) := by decide +kernel
theorem dX12_told_42 : decode cX12_told 42 = .ok (.aload_n 0, 1) := by decide +kernel
theorem dX12_told_43 : decode cX12_told 43 = .ok (.getfield 29, 3) := by decide +kernel
theorem dX12_told_46 : decode cX12_told 46 = .ok (.iconst 3, 1) := by decide +kernel
theorem dX12_told_47 : decode cX12_told 47 = .ok (.iaload, 1) := by decide +kernel
theorem dX12_told_48 : decode cX12_told 48 = .ok (.iconst 1, 1) := by decide +kernel
theorem dX12_told_49 : decode cX12_told 49 = .ok (.if_icmp .le 12, 3) := by decide +kernel
theorem dX12_told_52 : decode cX12_told 52 = .ok (.aload_n 0, 1) := by decide +kernel
theorem dX12_told_53 : decode cX12_told 53 = .ok (.getfield 29, 3) := by decide +kernel
theorem dX12_told_56 : decode cX12_told 56 = .ok (.iconst 5, 1) := by decide +kernel
theorem dX12_told_57 : decode cX12_told 57 = .ok (.iaload, 1) := by decide +kernel
theorem dX12_told_58 : decode cX12_told 58 = .ok (.goto 4, 3) := by decide +kernel
theorem dX12_told_61 : decode cX12_told 61 = .ok (.iconst (-1), 1) := by decide +kernel
theorem dX12_told_62 : decode cX12_told 62 = .ok (.ireturn, 1) := by decide +kernel
theorem dX12_told_63 : decode cX12_told 63 = .ok (.iload_n 1, 1) := by decide +kernel
theorem dX12_told_64 : decode cX12_told 64 = .ok (.bipush 9, 2) := by decide +kernel
theorem dX12_told_66 : decode cX12_told 66 = .ok (.if_icmp .ne 27, 3) := by decide +kernel
theorem dX12_told_69 : decode cX12_told 69 = .ok (.aload_n 0, 1) := by decide +kernel
theorem dX12_told_70 : decode cX12_told 70 = .ok (.iconst 0, 1) := by decide +kernel
theorem dX12_told_71 : decode cX12_told 71 = .ok (.invokevirtual 206, 3) := by decide +kernel
theorem dX12_told_74 : decode cX12_told 74 = .ok (.ifCond .ne 11, 3) := by decide +kernel
theorem dX12_told_77 : decode cX12_told 77 = .ok (.aload_n 0, 1) := by decide +kernel
theorem dX12_told_78 : decode cX12_told 78 = .ok (.iconst 1, 1) := by decide +kernel
theorem dX12_told_79 : decode cX12_told 79 = .ok (.invokevirtual 206, 3) := by decide +kernel
theorem dX12_told_82 : decode cX12_told 82 = .ok (.ifCond .eq 7, 3) := by decide +kernel
theorem dX12_told_85 : decode cX12_told 85 = .ok (.iconst 1, 1) := by decide +kernel
theorem dX12_told_86 : decode cX12_told 86 = .ok (.goto 13, 3) := by decide +kernel
theorem dX12_told_89 : decode cX12_told 89 = .ok (.iconst 0, 1) := by decide +kernel
theorem dX12_told_90 : decode cX12_told 90 = .ok (.goto 9, 3) := by decide +kernel
theorem dX12_told_93 : decode cX12_told 93 = .ok (.aload_n 0, 1) := by decide +kernel
theorem dX12_told_94 : decode cX12_told 94 = .ok (.getfield 29, 3) := by decide +kernel
theorem dX12_told_97 : decode cX12_told 97 = .ok (.iload_n 1, 1) := by decide +kernel
theorem dX12_told_98 : decode cX12_told 98 = .ok (.iaload, 1) := by decide +kernel
theorem dX12_told_99 : decode cX12_told 99 = .ok (.ireturn, 1) := by decide +kernel
theorem dX12_stands_0 : decode cX12_stands 0 = .ok (.aload_n 0, 1) := by decide +kernel
theorem dX12_stands_1 : decode cX12_stands 1 = .ok (.iload_n 1, 1) := by decide +kernel
theorem dX12_stands_2 : decode cX12_stands 2 = .ok (.iconst 0, 1) := by decide +kernel
theorem dX12_stands_3 : decode cX12_stands 3 = .ok (.bipush 9, 2) := by decide +kernel
theorem dX12_stands_5 : decode cX12_stands 5 = .ok (.invokestatic 70, 3) := by decide +kernel
theorem dX12_stands_8 : decode cX12_stands 8 = .ok (.ifCond .ne 7, 3) := by decide +kernel
theorem dX12_stands_11 : decode cX12_stands 11 = .ok (.iconst 1, 1) := by decide +kernel
theorem dX12_stands_12 : decode cX12_stands 12 = .ok (.goto 4, 3) := by decide +kernel
theorem dX12_stands_15 : decode cX12_stands 15 = .ok (.iconst 0, 1) := by decide +kernel
theorem dX12_stands_16 : decode cX12_stands 16 = .ok (.putfield 67, 3) := by decide +kernel
theorem dX12_stands_19 : decode cX12_stands 19 = .ok (.aload_n 0, 1) := by decide +kernel
theorem dX12_stands_20 : decode cX12_stands 20 = .ok (.getfield 67, 3) := by decide +kernel
theorem dX12_stands_23 : decode cX12_stands 23 = .ok (.ifCond .le 5, 3) := by decide +kernel
theorem dX12_stands_26 : decode cX12_stands 26 = .ok (.iconst 0, 1) := by decide +kernel
theorem dX12_stands_27 : decode cX12_stands 27 = .ok (.ireturn, 1) := by decide +kernel
theorem dX12_stands_28 : decode cX12_stands 28 = .ok (.aload_n 0, 1) := by decide +kernel
theorem dX12_stands_29 : decode cX12_stands 29 = .ok (.invokevirtual 200, 3) := by decide +kernel
theorem dX12_stands_32 : decode cX12_stands 32 = .ok (.aload_n 0, 1) := by decide +kernel
theorem dX12_stands_33 : decode cX12_stands 33 = .ok (.iload_n 1, 1) := by decide +kernel
theorem dX12_stands_34 : decode cX12_stands 34 = .ok (.invokevirtual 209, 3) := by decide +kernel
theorem dX12_stands_37 : decode cX12_stands 37 = .ok (.ireturn, 1) := by decide +kernel
theorem dX12_point_0 : decode cX12_point 0 = .ok (.aload_n 0, 1) := by decide +kernel
theorem dX12_point_1 : decode cX12_point 1 = .ok (.iload_n 1, 1) := by decide +kernel
theorem dX12_point_2 : decode cX12_point 2 = .ok (.putfield 212, 3) := by decide +kernel
theorem dX12_point_5 : decode cX12_point 5 = .ok (.aload_n 0, 1) := by decide +kernel
theorem dX12_point_6 : decode cX12_point 6 = .ok (.getfield 29, 3) := by decide +kernel
theorem dX12_point_9 : decode cX12_point 9 = .ok (.iload_n 1, 1) := by decide +kernel
theorem dX12_point_10 : decode cX12_point 10 = .ok (.dup2, 1) := by decide +kernel
theorem dX12_point_11 : decode cX12_point 11 = .ok (.iaload, 1) := by decide +kernel
theorem dX12_point_12 : decode cX12_point 12 = .ok (.iconst 1, 1) := by decide +kernel
theorem dX12_point_13 : decode cX12_point 13 = .ok (.iadd, 1) := by decide +kernel
theorem dX12_point_14 : decode cX12_point 14 = .ok (.iastore, 1) := by decide +kernel
theorem dX12_point_15 : decode cX12_point 15 = .ok (.aload_n 0, 1) := by decide +kernel
theorem dX12_point_16 : decode cX12_point 16 = .ok (.getfield 29, 3) := by decide +kernel
theorem dX12_point_19 : decode cX12_point 19 = .ok (.iconst 0, 1) := by decide +kernel
theorem dX12_point_20 : decode cX12_point 20 = .ok (.iaload, 1) := by decide +kernel
theorem dX12_point_21 : decode cX12_point 21 = .ok (.iconst 4, 1) := by decide +kernel
theorem dX12_point_22 : decode cX12_point 22 = .ok (.if_icmp .ne 27, 3) := by decide +kernel
theorem dX12_point_25 : decode cX12_point 25 = .ok (.aload_n 0, 1) := by decide +kernel
theorem dX12_point_26 : decode cX12_point 26 = .ok (.getfield 29, 3) := by decide +kernel
theorem dX12_point_29 : decode cX12_point 29 = .ok (.iconst 1, 1) := by decide +kernel
theorem dX12_point_30 : decode cX12_point 30 = .ok (.iaload, 1) := by decide +kernel
theorem dX12_point_31 : decode cX12_point 31 = .ok (.iconst 4, 1) := by decide +kernel
theorem dX12_point_32 : decode cX12_point 32 = .ok (.if_icmp .ne 17, 3) := by decide +kernel
theorem dX12_point_35 : decode cX12_point 35 = .ok (.aload_n 0, 1) := by decide +kernel
theorem dX12_point_36 : decode cX12_point 36 = .ok (.getfield 29, 3) := by decide +kernel
theorem dX12_point_39 : decode cX12_point 39 = .ok (.iconst 0, 1) := by decide +kernel
theorem dX12_point_40 : decode cX12_point 40 = .ok (.iconst 3, 1) := by decide +kernel
theorem dX12_point_41 : decode cX12_point 41 = .ok (.iastore, 1) := by decide +kernel
theorem dX12_point_42 : decode cX12_point 42 = .ok (.aload_n 0, 1) := by decide +kernel
theorem dX12_point_43 : decode cX12_point 43 = .ok (.getfield 29, 3) := by decide +kernel
theorem dX12_point_46 : decode cX12_point 46 = .ok (.iconst 1, 1) := by decide +kernel
theorem dX12_point_47 : decode cX12_point 47 = .ok (.iconst 3, 1) := by decide +kernel
theorem dX12_point_48 : decode cX12_point 48 = .ok (.iastore, 1) := by decide +kernel
theorem dX12_point_49 : decode cX12_point 49 = .ok (.aload_n 0, 1) := by decide +kernel
theorem dX12_point_50 : decode cX12_point 50 = .ok (.getfield 29, 3) := by decide +kernel
theorem dX12_point_53 : decode cX12_point 53 = .ok (.iload_n 1, 1) := by decide +kernel
theorem dX12_point_54 : decode cX12_point 54 = .ok (.iaload, 1) := by decide +kernel
theorem dX12_point_55 : decode cX12_point 55 = .ok (.iconst 4, 1) := by decide +kernel
theorem dX12_point_56 : decode cX12_point 56 = .ok (.if_icmp .lt 22, 3) := by decide +kernel
theorem dX12_point_59 : decode cX12_point 59 = .ok (.aload_n 0, 1) := by decide +kernel
theorem dX12_point_60 : decode cX12_point 60 = .ok (.getfield 29, 3) := by decide +kernel
theorem dX12_point_63 : decode cX12_point 63 = .ok (.iload_n 1, 1) := by decide +kernel
theorem dX12_point_64 : decode cX12_point 64 = .ok (.iaload, 1) := by decide +kernel
theorem dX12_point_65 : decode cX12_point 65 = .ok (.aload_n 0, 1) := by decide +kernel
theorem dX12_point_66 : decode cX12_point 66 = .ok (.getfield 29, 3) := by decide +kernel
theorem dX12_point_69 : decode cX12_point 69 = .ok (.iconst 1, 1) := by decide +kernel
theorem dX12_point_70 : decode cX12_point 70 = .ok (.iload_n 1, 1) := by decide +kernel
theorem dX12_point_71 : decode cX12_point 71 = .ok (.isub, 1) := by decide +kernel
theorem dX12_point_72 : decode cX12_point 72 = .ok (.iaload, 1) := by decide +kernel
theorem dX12_point_73 : decode cX12_point 73 = .ok (.isub, 1) := by decide +kernel
theorem dX12_point_74 : decode cX12_point 74 = .ok (.iconst 2, 1) := by decide +kernel
theorem dX12_point_75 : decode cX12_point 75 = .ok (.if_icmp .ge 4, 3) := by decide +kernel
theorem dX12_point_78 : decode cX12_point 78 = .ok (.return_, 1) := by decide +kernel
theorem dX12_point_79 : decode cX12_point 79 = .ok (.aload_n 0, 1) := by decide +kernel
theorem dX12_point_80 : decode cX12_point 80 = .ok (.iload_n 1, 1) := by decide +kernel
theorem dX12_point_81 : decode cX12_point 81 = .ok (.putfield 215, 3) := by decide +kernel
theorem dX12_point_84 : decode cX12_point 84 = .ok (.aload_n 0, 1) := by decide +kernel
theorem dX12_point_85 : decode cX12_point 85 = .ok (.getfield 29, 3) := by decide +kernel
theorem dX12_point_88 : decode cX12_point 88 = .ok (.bipush 7, 2) := by decide +kernel
theorem dX12_point_90 : decode cX12_point 90 = .ok (.iload_n 1, 1) := by decide +kernel
theorem dX12_point_91 : decode cX12_point 91 = .ok (.iadd, 1) := by decide +kernel
theorem dX12_point_92 : decode cX12_point 92 = .ok (.dup2, 1) := by decide +kernel
theorem dX12_point_93 : decode cX12_point 93 = .ok (.iaload, 1) := by decide +kernel
theorem dX12_point_94 : decode cX12_point 94 = .ok (.iconst 1, 1) := by decide +kernel
theorem dX12_point_95 : decode cX12_point 95 = .ok (.iadd, 1) := by decide +kernel
theorem dX12_point_96 : decode cX12_point 96 = .ok (.iastore, 1) := by decide +kernel
theorem dX12_point_97 : decode cX12_point 97 = .ok (.aload_n 0, 1) := by decide +kernel
theorem dX12_point_98 : decode cX12_point 98 = .ok (.getfield 29, 3) := by decide +kernel
theorem dX12_point_101 : decode cX12_point 101 = .ok (.iconst 0, 1) := by decide +kernel
theorem dX12_point_102 : decode cX12_point 102 = .ok (.aload_n 0, 1) := by decide +kernel
theorem dX12_point_103 : decode cX12_point 103 = .ok (.getfield 7, 3) := by decide +kernel
theorem dX12_point_106 : decode cX12_point 106 = .ok (.sipush 197, 3) := by decide +kernel
theorem dX12_point_109 : decode cX12_point 109 = .ok (.iaload, 1) := by decide +kernel
theorem dX12_point_110 : decode cX12_point 110 = .ok (.ineg, 1) := by decide +kernel
theorem dX12_point_111 : decode cX12_point 111 = .ok (.iastore, 1) := by decide +kernel
theorem dX12_point_112 : decode cX12_point 112 = .ok (.aload_n 0, 1) := by decide +kernel
theorem dX12_point_113 : decode cX12_point 113 = .ok (.getfield 29, 3) := by decide +kernel
theorem dX12_point_116 : decode cX12_point 116 = .ok (.iconst 1, 1) := by decide +kernel
theorem dX12_point_117 : decode cX12_point 117 = .ok (.aload_n 0, 1) := by decide +kernel
theorem dX12_point_118 : decode cX12_point 118 = .ok (.getfield 7, 3) := by decide +kernel
theorem dX12_point_121 : decode cX12_point 121 = .ok (.sipush 198, 3) := by decide +kernel
theorem dX12_point_124 : decode cX12_point 124 = .ok (.iaload, 1) := by decide +kernel
theorem dX12_point_125 : decode cX12_point 125 = .ok (.iastore, 1) := by decide +kernel
theorem dX12_point_126 : decode cX12_point 126 = .ok (.aload_n 0, 1) := by decide +kernel
theorem dX12_point_127 : decode cX12_point 127 = .ok (.getfield 29, 3) := by decide +kernel
theorem dX12_point_130 : decode cX12_point 130 = .ok (.iconst 3, 1) := by decide +kernel
theorem dX12_point_131 : decode cX12_point 131 = .ok (.iconst 0, 1) := by decide +kernel
theorem dX12_point_132 : decode cX12_point 132 = .ok (.iastore, 1) := by decide +kernel
theorem dX12_point_133 : decode cX12_point 133 = .ok (.aload_n 0, 1) := by decide +kernel
theorem dX12_point_134 : decode cX12_point 134 = .ok (.getfield 29, 3) := by decide +kernel
theorem dX12_point_137 : decode cX12_point 137 = .ok (.bipush 6, 2) := by decide +kernel
theorem dX12_point_139 : decode cX12_point 139 = .ok (.iconst 0, 1) := by decide +kernel
theorem dX12_point_140 : decode cX12_point 140 = .ok (.iastore, 1) := by decide +kernel
theorem dX12_point_141 : decode cX12_point 141 = .ok (.return_, 1) := by decide +kernel
theorem dX12_changes_0 : decode cX12_changes 0 = .ok (.aload_n 0, 1) := by decide +kernel
theorem dX12_changes_1 : decode cX12_changes 1 = .ok (.getfield 29, 3) := by decide +kernel
theorem dX12_changes_4 : decode cX12_changes 4 = .ok (.iconst 3, 1) := by decide +kernel
theorem dX12_changes_5 : decode cX12_changes 5 = .ok (.iaload, 1) := by decide +kernel
theorem dX12_changes_6 : decode cX12_changes 6 = .ok (.ifCond .ne 4, 3) := by decide +kernel
theorem dX12_changes_9 : decode cX12_changes 9 = .ok (.return_, 1) := by decide +kernel
theorem dX12_changes_10 : decode cX12_changes 10 = .ok (.aload_n 0, 1) := by decide +kernel
theorem dX12_changes_11 : decode cX12_changes 11 = .ok (.getfield 29, 3) := by decide +kernel
theorem dX12_changes_14 : decode cX12_changes 14 = .ok (.iconst 3, 1) := by decide +kernel
theorem dX12_changes_15 : decode cX12_changes 15 = .ok (.iaload, 1) := by decide +kernel
theorem dX12_changes_16 : decode cX12_changes 16 = .ok (.iconst 2, 1) := by decide +kernel
theorem dX12_changes_17 : decode cX12_changes 17 = .ok (.if_icmp .eq 42, 3) := by decide +kernel
theorem dX12_changes_20 : decode cX12_changes 20 = .ok (.aload_n 0, 1) := by decide +kernel
theorem dX12_changes_21 : decode cX12_changes 21 = .ok (.getfield 7, 3) := by decide +kernel
theorem dX12_changes_24 : decode cX12_changes 24 = .ok (.sipush 195, 3) := by decide +kernel
theorem dX12_changes_27 : decode cX12_changes 27 = .ok (.iaload, 1) := by decide +kernel
theorem dX12_changes_28 : decode cX12_changes 28 = .ok (.iconst 1, 1) := by decide +kernel
theorem dX12_changes_29 : decode cX12_changes 29 = .ok (.if_icmp .eq 30, 3) := by decide +kernel
theorem dX12_changes_32 : decode cX12_changes 32 = .ok (.aload_n 0, 1) := by decide +kernel
theorem dX12_changes_33 : decode cX12_changes 33 = .ok (.getfield 7, 3) := by decide +kernel
theorem dX12_changes_36 : decode cX12_changes 36 = .ok (.sipush 195, 3) := by decide +kernel
theorem dX12_changes_39 : decode cX12_changes 39 = .ok (.iaload, 1) := by decide +kernel
theorem dX12_changes_40 : decode cX12_changes 40 = .ok (.ifCond .ne 23, 3) := by decide +kernel
theorem dX12_changes_43 : decode cX12_changes 43 = .ok (.aload_n 0, 1) := by decide +kernel
theorem dX12_changes_44 : decode cX12_changes 44 = .ok (.iconst 0, 1) := by decide +kernel
theorem dX12_changes_45 : decode cX12_changes 45 = .ok (.invokevirtual 206, 3) := by decide +kernel
theorem dX12_changes_48 : decode cX12_changes 48 = .ok (.ifCond .ne 11, 3) := by decide +kernel
theorem dX12_changes_51 : decode cX12_changes 51 = .ok (.aload_n 0, 1) := by decide +kernel
theorem dX12_changes_52 : decode cX12_changes 52 = .ok (.iconst 1, 1) := by decide +kernel
theorem dX12_changes_53 : decode cX12_changes 53 = .ok (.invokevirtual 206, 3) := by decide +kernel
theorem dX12_changes_56 : decode cX12_changes 56 = .ok (.ifCond .eq 7, 3) := by decide +kernel
theorem dX12_changes_59 : decode cX12_changes 59 = .ok (.iconst 1, 1) := by decide +kernel
theorem dX12_changes_60 : decode cX12_changes 60 = .ok (.goto 4, 3) := by decide +kernel
theorem dX12_changes_63 : decode cX12_changes 63 = .ok (.iconst 0, 1) := by decide +kernel
theorem dX12_changes_64 : decode cX12_changes 64 = .ok (.istore_n 1, 1) := by decide +kernel
theorem dX12_changes_65 : decode cX12_changes 65 = .ok (.iload_n 1, 1) := by decide +kernel
theorem dX12_changes_66 : decode cX12_changes 66 = .ok (.ifCond .ne 4, 3) := by decide +kernel
theorem dX12_changes_69 : decode cX12_changes 69 = .ok (.return_, 1) := by decide +kernel
theorem dX12_changes_70 : decode cX12_changes 70 = .ok (.aload_n 0, 1) := by decide +kernel
theorem dX12_changes_71 : decode cX12_changes 71 = .ok (.getfield 29, 3) := by decide +kernel
theorem dX12_changes_74 : decode cX12_changes 74 = .ok (.iconst 2, 1) := by decide +kernel
theorem dX12_changes_75 : decode cX12_changes 75 = .ok (.iconst 1, 1) := by decide +kernel
theorem dX12_changes_76 : decode cX12_changes 76 = .ok (.aload_n 0, 1) := by decide +kernel
theorem dX12_changes_77 : decode cX12_changes 77 = .ok (.getfield 29, 3) := by decide +kernel
theorem dX12_changes_80 : decode cX12_changes 80 = .ok (.iconst 2, 1) := by decide +kernel
theorem dX12_changes_81 : decode cX12_changes 81 = .ok (.iaload, 1) := by decide +kernel
theorem dX12_changes_82 : decode cX12_changes 82 = .ok (.isub, 1) := by decide +kernel
theorem dX12_changes_83 : decode cX12_changes 83 = .ok (.iastore, 1) := by decide +kernel
theorem dX12_changes_84 : decode cX12_changes 84 = .ok (.aload_n 0, 1) := by decide +kernel
theorem dX12_changes_85 : decode cX12_changes 85 = .ok (.getfield 29, 3) := by decide +kernel
theorem dX12_changes_88 : decode cX12_changes 88 = .ok (.bipush 6, 2) := by decide +kernel
theorem dX12_changes_90 : decode cX12_changes 90 = .ok (.iconst 1, 1) := by decide +kernel
theorem dX12_changes_91 : decode cX12_changes 91 = .ok (.iastore, 1) := by decide +kernel
theorem dX12_changes_92 : decode cX12_changes 92 = .ok (.return_, 1) := by decide +kernel
theorem dX12_gone_0 : decode cX12_gone 0 = .ok (.aload_n 0, 1) := by decide +kernel
theorem dX12_gone_1 : decode cX12_gone 1 = .ok (.getfield 29, 3) := by decide +kernel
theorem dX12_gone_4 : decode cX12_gone 4 = .ok (.bipush 6, 2) := by decide +kernel
theorem dX12_gone_6 : decode cX12_gone 6 = .ok (.iaload, 1) := by decide +kernel
theorem dX12_gone_7 : decode cX12_gone 7 = .ok (.ifCond .ne 4, 3) := by decide +kernel
theorem dX12_gone_10 : decode cX12_gone 10 = .ok (.return_, 1) := by decide +kernel
theorem dX12_gone_11 : decode cX12_gone 11 = .ok (.aload_n 0, 1) := by decide +kernel
theorem dX12_gone_12 : decode cX12_gone 12 = .ok (.getfield 29, 3) := by decide +kernel
theorem dX12_gone_15 : decode cX12_gone 15 = .ok (.iconst 3, 1) := by decide +kernel
theorem dX12_gone_16 : decode cX12_gone 16 = .ok (.dup2, 1) := by decide +kernel
theorem dX12_gone_17 : decode cX12_gone 17 = .ok (.iaload, 1) := by decide +kernel
theorem dX12_gone_18 : decode cX12_gone 18 = .ok (.iconst 1, 1) := by decide +kernel
theorem dX12_gone_19 : decode cX12_gone 19 = .ok (.isub, 1) := by decide +kernel
theorem dX12_gone_20 : decode cX12_gone 20 = .ok (.iastore, 1) := by decide +kernel
theorem dX12_gone_21 : decode cX12_gone 21 = .ok (.aload_n 0, 1) := by decide +kernel
theorem dX12_gone_22 : decode cX12_gone 22 = .ok (.getfield 29, 3) := by decide +kernel
theorem dX12_gone_25 : decode cX12_gone 25 = .ok (.iconst 4, 1) := by decide +kernel
theorem dX12_gone_26 : decode cX12_gone 26 = .ok (.aload_n 0, 1) := by decide +kernel
theorem dX12_gone_27 : decode cX12_gone 27 = .ok (.getfield 29, 3) := by decide +kernel
theorem dX12_gone_30 : decode cX12_gone 30 = .ok (.iconst 5, 1) := by decide +kernel
theorem dX12_gone_31 : decode cX12_gone 31 = .ok (.iaload, 1) := by decide +kernel
theorem dX12_gone_32 : decode cX12_gone 32 = .ok (.iastore, 1) := by decide +kernel
theorem dX12_gone_33 : decode cX12_gone 33 = .ok (.aload_n 0, 1) := by decide +kernel
theorem dX12_gone_34 : decode cX12_gone 34 = .ok (.getfield 29, 3) := by decide +kernel
theorem dX12_gone_37 : decode cX12_gone 37 = .ok (.bipush 6, 2) := by decide +kernel
theorem dX12_gone_39 : decode cX12_gone 39 = .ok (.aload_n 0, 1) := by decide +kernel
theorem dX12_gone_40 : decode cX12_gone 40 = .ok (.getfield 29, 3) := by decide +kernel
theorem dX12_gone_43 : decode cX12_gone 43 = .ok (.iconst 3, 1) := by decide +kernel
theorem dX12_gone_44 : decode cX12_gone 44 = .ok (.iaload, 1) := by decide +kernel
theorem dX12_gone_45 : decode cX12_gone 45 = .ok (.ifCond .le 7, 3) := by decide +kernel
theorem dX12_gone_48 : decode cX12_gone 48 = .ok (.iconst 1, 1) := by decide +kernel
theorem dX12_gone_49 : decode cX12_gone 49 = .ok (.goto 4, 3) := by decide +kernel
theorem dX12_gone_52 : decode cX12_gone 52 = .ok (.iconst 0, 1) := by decide +kernel
theorem dX12_gone_53 : decode cX12_gone 53 = .ok (.iastore, 1) := by decide +kernel
theorem dX12_gone_54 : decode cX12_gone 54 = .ok (.return_, 1) := by decide +kernel
theorem dX12_rallies_0 : decode cX12_rallies 0 = .ok (.aload_n 0, 1) := by decide +kernel
theorem dX12_rallies_1 : decode cX12_rallies 1 = .ok (.iconst (-1), 1) := by decide +kernel
theorem dX12_rallies_2 : decode cX12_rallies 2 = .ok (.putfield 215, 3) := by decide +kernel
theorem dX12_rallies_5 : decode cX12_rallies 5 = .ok (.aload_n 0, 1) := by decide +kernel
theorem dX12_rallies_6 : decode cX12_rallies 6 = .ok (.iconst (-1), 1) := by decide +kernel
theorem dX12_rallies_7 : decode cX12_rallies 7 = .ok (.putfield 212, 3) := by decide +kernel
theorem dX12_rallies_10 : decode cX12_rallies 10 = .ok (.aload_n 0, 1) := by decide +kernel
theorem dX12_rallies_11 : decode cX12_rallies 11 = .ok (.getfield 29, 3) := by decide +kernel
theorem dX12_rallies_14 : decode cX12_rallies 14 = .ok (.iconst 2, 1) := by decide +kernel
theorem dX12_rallies_15 : decode cX12_rallies 15 = .ok (.iaload, 1) := by decide +kernel
theorem dX12_rallies_16 : decode cX12_rallies 16 = .ok (.istore_n 2, 1) := by decide +kernel
theorem dX12_rallies_17 : decode cX12_rallies 17 = .ok (.aload_n 0, 1) := by decide +kernel
theorem dX12_rallies_18 : decode cX12_rallies 18 = .ok (.getfield 29, 3) := by decide +kernel
theorem dX12_rallies_21 : decode cX12_rallies 21 = .ok (.bipush 6, 2) := by decide +kernel
theorem dX12_rallies_23 : decode cX12_rallies 23 = .ok (.iaload, 1) := by decide +kernel
theorem dX12_rallies_24 : decode cX12_rallies 24 = .ok (.ifCond .ne 81, 3) := by decide +kernel
theorem dX12_rallies_27 : decode cX12_rallies 27 = .ok (.iload_n 1, 1) := by decide +kernel
theorem dX12_rallies_28 : decode cX12_rallies 28 = .ok (.iconst 2, 1) := by decide +kernel
theorem dX12_rallies_29 : decode cX12_rallies 29 = .ok (.if_icmp .ge 21, 3) := by decide +kernel
theorem dX12_rallies_32 : decode cX12_rallies 32 = .ok (.aload_n 0, 1) := by decide +kernel
theorem dX12_rallies_33 : decode cX12_rallies 33 = .ok (.iload_n 1, 1) := by decide +kernel
theorem dX12_rallies_34 : decode cX12_rallies 34 = .ok (.ifCond .ne 7, 3) := by decide +kernel
theorem dX12_rallies_37 : decode cX12_rallies 37 = .ok (.iload_n 2, 1) := by decide +kernel
theorem dX12_rallies_38 : decode cX12_rallies 38 = .ok (.goto 6, 3) := by decide +kernel
theorem dX12_rallies_41 : decode cX12_rallies 41 = .ok (.iconst 1, 1) := by decide +kernel
theorem dX12_rallies_42 : decode cX12_rallies 42 = .ok (.iload_n 2, 1) := by decide +kernel
theorem dX12_rallies_43 : decode cX12_rallies 43 = .ok (.isub, 1) := by decide +kernel
theorem dX12_rallies_44 : decode cX12_rallies 44 = .ok (.invokevirtual 218, 3) := by decide +kernel
theorem dX12_rallies_47 : decode cX12_rallies 47 = .ok (.goto 43, 3) := by decide +kernel
theorem dX12_rallies_50 : decode cX12_rallies 50 = .ok (.aload_n 0, 1) := by decide +kernel
theorem dX12_rallies_51 : decode cX12_rallies 51 = .ok (.getfield 29, 3) := by decide +kernel
theorem dX12_rallies_54 : decode cX12_rallies 54 = .ok (.iconst 3, 1) := by decide +kernel
theorem dX12_rallies_55 : decode cX12_rallies 55 = .ok (.iaload, 1) := by decide +kernel
theorem dX12_rallies_56 : decode cX12_rallies 56 = .ok (.ifCond .ne 15, 3) := by decide +kernel
theorem dX12_rallies_59 : decode cX12_rallies 59 = .ok (.aload_n 0, 1) := by decide +kernel
theorem dX12_rallies_60 : decode cX12_rallies 60 = .ok (.getfield 29, 3) := by decide +kernel
theorem dX12_rallies_63 : decode cX12_rallies 63 = .ok (.iconst 4, 1) := by decide +kernel
theorem dX12_rallies_64 : decode cX12_rallies 64 = .ok (.iload_n 1, 1) := by decide +kernel
theorem dX12_rallies_65 : decode cX12_rallies 65 = .ok (.iconst 2, 1) := by decide +kernel
theorem dX12_rallies_66 : decode cX12_rallies 66 = .ok (.isub, 1) := by decide +kernel
theorem dX12_rallies_67 : decode cX12_rallies 67 = .ok (.iastore, 1) := by decide +kernel
theorem dX12_rallies_68 : decode cX12_rallies 68 = .ok (.goto 12, 3) := by decide +kernel
theorem dX12_rallies_71 : decode cX12_rallies 71 = .ok (.aload_n 0, 1) := by decide +kernel
theorem dX12_rallies_72 : decode cX12_rallies 72 = .ok (.getfield 29, 3) := by decide +kernel
theorem dX12_rallies_75 : decode cX12_rallies 75 = .ok (.iconst 5, 1) := by decide +kernel
theorem dX12_rallies_76 : decode cX12_rallies 76 = .ok (.iload_n 1, 1) := by decide +kernel
theorem dX12_rallies_77 : decode cX12_rallies 77 = .ok (.iconst 2, 1) := by decide +kernel
theorem dX12_rallies_78 : decode cX12_rallies 78 = .ok (.isub, 1) := by decide +kernel
theorem dX12_rallies_79 : decode cX12_rallies 79 = .ok (.iastore, 1) := by decide +kernel
theorem dX12_rallies_80 : decode cX12_rallies 80 = .ok (.aload_n 0, 1) := by decide +kernel
theorem dX12_rallies_81 : decode cX12_rallies 81 = .ok (.getfield 29, 3) := by decide +kernel
theorem dX12_rallies_84 : decode cX12_rallies 84 = .ok (.iconst 3, 1) := by decide +kernel
theorem dX12_rallies_85 : decode cX12_rallies 85 = .ok (.dup2, 1) := by decide +kernel
theorem dX12_rallies_86 : decode cX12_rallies 86 = .ok (.iaload, 1) := by decide +kernel
theorem dX12_rallies_87 : decode cX12_rallies 87 = .ok (.iconst 1, 1) := by decide +kernel
theorem dX12_rallies_88 : decode cX12_rallies 88 = .ok (.iadd, 1) := by decide +kernel
theorem dX12_rallies_89 : decode cX12_rallies 89 = .ok (.iastore, 1) := by decide +kernel
theorem dX12_rallies_90 : decode cX12_rallies 90 = .ok (.aload_n 0, 1) := by decide +kernel
theorem dX12_rallies_91 : decode cX12_rallies 91 = .ok (.getfield 29, 3) := by decide +kernel
theorem dX12_rallies_94 : decode cX12_rallies 94 = .ok (.bipush 6, 2) := by decide +kernel
theorem dX12_rallies_96 : decode cX12_rallies 96 = .ok (.iaload, 1) := by decide +kernel
theorem dX12_rallies_97 : decode cX12_rallies 97 = .ok (.ifCond .ne 7, 3) := by decide +kernel
theorem dX12_rallies_100 : decode cX12_rallies 100 = .ok (.aload_n 0, 1) := by decide +kernel
theorem dX12_rallies_101 : decode cX12_rallies 101 = .ok (.invokevirtual 221, 3) := by decide +kernel
theorem dX12_rallies_104 : decode cX12_rallies 104 = .ok (.return_, 1) := by decide +kernel
theorem dX12_rallies_105 : decode cX12_rallies 105 = .ok (.iload_n 1, 1) := by decide +kernel
theorem dX12_rallies_106 : decode cX12_rallies 106 = .ok (.iconst 2, 1) := by decide +kernel
theorem dX12_rallies_107 : decode cX12_rallies 107 = .ok (.isub, 1) := by decide +kernel
theorem dX12_rallies_108 : decode cX12_rallies 108 = .ok (.istore_n 3, 1) := by decide +kernel
theorem dX12_rallies_109 : decode cX12_rallies 109 = .ok (.iload_n 1, 1) := by decide +kernel
theorem dX12_rallies_110 : decode cX12_rallies 110 = .ok (.bipush 12, 2) := by decide +kernel
theorem dX12_rallies_112 : decode cX12_rallies 112 = .ok (.if_icmp .lt 7, 3) := by decide +kernel
theorem dX12_rallies_115 : decode cX12_rallies 115 = .ok (.iload_n 1, 1) := by decide +kernel
theorem dX12_rallies_116 : decode cX12_rallies 116 = .ok (.goto 35, 3) := by decide +kernel
theorem dX12_rallies_119 : decode cX12_rallies 119 = .ok (.iload_n 3, 1) := by decide +kernel
theorem dX12_rallies_120 : decode cX12_rallies 120 = .ok (.aload_n 0, 1) := by decide +kernel
theorem dX12_rallies_121 : decode cX12_rallies 121 = .ok (.getfield 29, 3) := by decide +kernel
theorem dX12_rallies_124 : decode cX12_rallies 124 = .ok (.iconst 4, 1) := by decide +kernel
theorem dX12_rallies_125 : decode cX12_rallies 125 = .ok (.iaload, 1) := by decide +kernel
theorem dX12_rallies_126 : decode cX12_rallies 126 = .ok (.if_icmp .ge 8, 3) := by decide +kernel
theorem dX12_rallies_129 : decode cX12_rallies 129 = .ok (.bipush 12, 2) := by decide +kernel
theorem dX12_rallies_131 : decode cX12_rallies 131 = .ok (.goto 20, 3) := by decide +kernel
theorem dX12_rallies_134 : decode cX12_rallies 134 = .ok (.iload_n 3, 1) := by decide +kernel
theorem dX12_rallies_135 : decode cX12_rallies 135 = .ok (.aload_n 0, 1) := by decide +kernel
theorem dX12_rallies_136 : decode cX12_rallies 136 = .ok (.getfield 29, 3) := by decide +kernel
theorem dX12_rallies_139 : decode cX12_rallies 139 = .ok (.iconst 4, 1) := by decide +kernel
theorem dX12_rallies_140 : decode cX12_rallies 140 = .ok (.iaload, 1) := by decide +kernel
theorem dX12_rallies_141 : decode cX12_rallies 141 = .ok (.if_icmp .le 8, 3) := by decide +kernel
theorem dX12_rallies_144 : decode cX12_rallies 144 = .ok (.bipush 13, 2) := by decide +kernel
theorem dX12_rallies_146 : decode cX12_rallies 146 = .ok (.goto 5, 3) := by decide +kernel
theorem dX12_rallies_149 : decode cX12_rallies 149 = .ok (.bipush 14, 2) := by decide +kernel
theorem dX12_rallies_151 : decode cX12_rallies 151 = .ok (.istore 4, 2) := by decide +kernel
theorem dX12_rallies_153 : decode cX12_rallies 153 = .ok (.iload_n 1, 1) := by decide +kernel
theorem dX12_rallies_154 : decode cX12_rallies 154 = .ok (.iconst 2, 1) := by decide +kernel
theorem dX12_rallies_155 : decode cX12_rallies 155 = .ok (.if_icmp .ge 21, 3) := by decide +kernel
theorem dX12_rallies_158 : decode cX12_rallies 158 = .ok (.aload_n 0, 1) := by decide +kernel
theorem dX12_rallies_159 : decode cX12_rallies 159 = .ok (.iload_n 1, 1) := by decide +kernel
theorem dX12_rallies_160 : decode cX12_rallies 160 = .ok (.ifCond .ne 7, 3) := by decide +kernel
theorem dX12_rallies_163 : decode cX12_rallies 163 = .ok (.iload_n 2, 1) := by decide +kernel
theorem dX12_rallies_164 : decode cX12_rallies 164 = .ok (.goto 6, 3) := by decide +kernel
theorem dX12_rallies_167 : decode cX12_rallies 167 = .ok (.iconst 1, 1) := by decide +kernel
theorem dX12_rallies_168 : decode cX12_rallies 168 = .ok (.iload_n 2, 1) := by decide +kernel
theorem dX12_rallies_169 : decode cX12_rallies 169 = .ok (.isub, 1) := by decide +kernel
theorem dX12_rallies_170 : decode cX12_rallies 170 = .ok (.invokevirtual 218, 3) := by decide +kernel
theorem dX12_rallies_173 : decode cX12_rallies 173 = .ok (.goto 44, 3) := by decide +kernel
theorem dX12_rallies_176 : decode cX12_rallies 176 = .ok (.iload 4, 2) := by decide +kernel
theorem dX12_rallies_178 : decode cX12_rallies 178 = .ok (.bipush 12, 2) := by decide +kernel
theorem dX12_rallies_180 : decode cX12_rallies 180 = .ok (.if_icmp .ne 13, 3) := by decide +kernel
theorem dX12_rallies_183 : decode cX12_rallies 183 = .ok (.aload_n 0, 1) := by decide +kernel
theorem dX12_rallies_184 : decode cX12_rallies 184 = .ok (.iconst 1, 1) := by decide +kernel
theorem dX12_rallies_185 : decode cX12_rallies 185 = .ok (.iload_n 2, 1) := by decide +kernel
theorem dX12_rallies_186 : decode cX12_rallies 186 = .ok (.isub, 1) := by decide +kernel
theorem dX12_rallies_187 : decode cX12_rallies 187 = .ok (.invokevirtual 218, 3) := by decide +kernel
theorem dX12_rallies_190 : decode cX12_rallies 190 = .ok (.goto 27, 3) := by decide +kernel
theorem dX12_rallies_193 : decode cX12_rallies 193 = .ok (.iload 4, 2) := by decide +kernel
theorem dX12_rallies_195 : decode cX12_rallies 195 = .ok (.bipush 13, 2) := by decide +kernel
theorem dX12_rallies_197 : decode cX12_rallies 197 = .ok (.if_icmp .eq 15, 3) := by decide +kernel
theorem dX12_rallies_200 : decode cX12_rallies 200 = .ok (.aload_n 0, 1) := by decide +kernel
theorem dX12_rallies_201 : decode cX12_rallies 201 = .ok (.getfield 7, 3) := by decide +kernel
theorem dX12_rallies_204 : decode cX12_rallies 204 = .ok (.sipush 196, 3) := by decide +kernel
theorem dX12_rallies_207 : decode cX12_rallies 207 = .ok (.iaload, 1) := by decide +kernel
theorem dX12_rallies_208 : decode cX12_rallies 208 = .ok (.iconst 1, 1) := by decide +kernel
theorem dX12_rallies_209 : decode cX12_rallies 209 = .ok (.if_icmp .ne 8, 3) := by decide +kernel
theorem dX12_rallies_212 : decode cX12_rallies 212 = .ok (.aload_n 0, 1) := by decide +kernel
theorem dX12_rallies_213 : decode cX12_rallies 213 = .ok (.iload_n 2, 1) := by decide +kernel
theorem dX12_rallies_214 : decode cX12_rallies 214 = .ok (.invokevirtual 218, 3) := by decide +kernel
theorem dX12_rallies_217 : decode cX12_rallies 217 = .ok (.aload_n 0, 1) := by decide +kernel
theorem dX12_rallies_218 : decode cX12_rallies 218 = .ok (.invokevirtual 224, 3) := by decide +kernel
theorem dX12_rallies_221 : decode cX12_rallies 221 = .ok (.return_, 1) := by decide +kernel
theorem dX12_rally_0 : decode cX12_rally 0 = .ok (.aload_n 0, 1) := by decide +kernel
theorem dX12_rally_1 : decode cX12_rally 1 = .ok (.invokevirtual 200, 3) := by decide +kernel
theorem dX12_rally_4 : decode cX12_rally 4 = .ok (.aload_n 0, 1) := by decide +kernel
theorem dX12_rally_5 : decode cX12_rally 5 = .ok (.iload_n 1, 1) := by decide +kernel
theorem dX12_rally_6 : decode cX12_rally 6 = .ok (.iconst 2, 1) := by decide +kernel
theorem dX12_rally_7 : decode cX12_rally 7 = .ok (.if_icmp .ne 17, 3) := by decide +kernel
theorem dX12_rally_10 : decode cX12_rally 10 = .ok (.iload_n 2, 1) := by decide +kernel
theorem dX12_rally_11 : decode cX12_rally 11 = .ok (.iconst 0, 1) := by decide +kernel
theorem dX12_rally_12 : decode cX12_rally 12 = .ok (.bipush 9, 2) := by decide +kernel
theorem dX12_rally_14 : decode cX12_rally 14 = .ok (.invokestatic 70, 3) := by decide +kernel
theorem dX12_rally_17 : decode cX12_rally 17 = .ok (.ifCond .ne 7, 3) := by decide +kernel
theorem dX12_rally_20 : decode cX12_rally 20 = .ok (.iconst 1, 1) := by decide +kernel
theorem dX12_rally_21 : decode cX12_rally 21 = .ok (.goto 28, 3) := by decide +kernel
theorem dX12_rally_24 : decode cX12_rally 24 = .ok (.iload_n 1, 1) := by decide +kernel
theorem dX12_rally_25 : decode cX12_rally 25 = .ok (.iconst 0, 1) := by decide +kernel
theorem dX12_rally_26 : decode cX12_rally 26 = .ok (.iconst 2, 1) := by decide +kernel
theorem dX12_rally_27 : decode cX12_rally 27 = .ok (.invokestatic 70, 3) := by decide +kernel
theorem dX12_rally_30 : decode cX12_rally 30 = .ok (.ifCond .ne 7, 3) := by decide +kernel
theorem dX12_rally_33 : decode cX12_rally 33 = .ok (.iconst 2, 1) := by decide +kernel
theorem dX12_rally_34 : decode cX12_rally 34 = .ok (.goto 15, 3) := by decide +kernel
theorem dX12_rally_37 : decode cX12_rally 37 = .ok (.aload_n 0, 1) := by decide +kernel
theorem dX12_rally_38 : decode cX12_rally 38 = .ok (.invokevirtual 227, 3) := by decide +kernel
theorem dX12_rally_41 : decode cX12_rally 41 = .ok (.ifCond .eq 7, 3) := by decide +kernel
theorem dX12_rally_44 : decode cX12_rally 44 = .ok (.iconst 3, 1) := by decide +kernel
theorem dX12_rally_45 : decode cX12_rally 45 = .ok (.goto 4, 3) := by decide +kernel
theorem dX12_rally_48 : decode cX12_rally 48 = .ok (.iconst 0, 1) := by decide +kernel
theorem dX12_rally_49 : decode cX12_rally 49 = .ok (.putfield 67, 3) := by decide +kernel
theorem dX12_rally_52 : decode cX12_rally 52 = .ok (.aload_n 0, 1) := by decide +kernel
theorem dX12_rally_53 : decode cX12_rally 53 = .ok (.getfield 67, 3) := by decide +kernel
theorem dX12_rally_56 : decode cX12_rally 56 = .ok (.ifCond .le 5, 3) := by decide +kernel
theorem dX12_rally_59 : decode cX12_rally 59 = .ok (.iconst 0, 1) := by decide +kernel
theorem dX12_rally_60 : decode cX12_rally 60 = .ok (.ireturn, 1) := by decide +kernel
theorem dX12_rally_61 : decode cX12_rally 61 = .ok (.aload_n 0, 1) := by decide +kernel
theorem dX12_rally_62 : decode cX12_rally 62 = .ok (.getfield 29, 3) := by decide +kernel
theorem dX12_rally_65 : decode cX12_rally 65 = .ok (.iconst 2, 1) := by decide +kernel
theorem dX12_rally_66 : decode cX12_rally 66 = .ok (.iaload, 1) := by decide +kernel
theorem dX12_rally_67 : decode cX12_rally 67 = .ok (.istore_n 3, 1) := by decide +kernel
theorem dX12_rally_68 : decode cX12_rally 68 = .ok (.aload_n 0, 1) := by decide +kernel
theorem dX12_rally_69 : decode cX12_rally 69 = .ok (.iload_n 1, 1) := by decide +kernel
theorem dX12_rally_70 : decode cX12_rally 70 = .ok (.iconst 2, 1) := by decide +kernel
theorem dX12_rally_71 : decode cX12_rally 71 = .ok (.if_icmp .ne 9, 3) := by decide +kernel
theorem dX12_rally_74 : decode cX12_rally 74 = .ok (.iconst 2, 1) := by decide +kernel
theorem dX12_rally_75 : decode cX12_rally 75 = .ok (.iload_n 2, 1) := by decide +kernel
theorem dX12_rally_76 : decode cX12_rally 76 = .ok (.iadd, 1) := by decide +kernel
theorem dX12_rally_77 : decode cX12_rally 77 = .ok (.goto 4, 3) := by decide +kernel
theorem dX12_rally_80 : decode cX12_rally 80 = .ok (.iload_n 1, 1) := by decide +kernel
theorem dX12_rally_81 : decode cX12_rally 81 = .ok (.invokevirtual 230, 3) := by decide +kernel
theorem dX12_rally_84 : decode cX12_rally 84 = .ok (.aload_n 0, 1) := by decide +kernel
theorem dX12_rally_85 : decode cX12_rally 85 = .ok (.invokevirtual 233, 3) := by decide +kernel
theorem dX12_rally_88 : decode cX12_rally 88 = .ok (.aload_n 0, 1) := by decide +kernel
theorem dX12_rally_89 : decode cX12_rally 89 = .ok (.getfield 212, 3) := by decide +kernel
theorem dX12_rally_92 : decode cX12_rally 92 = .ok (.iconst (-1), 1) := by decide +kernel
theorem dX12_rally_93 : decode cX12_rally 93 = .ok (.if_icmp .ne 7, 3) := by decide +kernel
theorem dX12_rally_96 : decode cX12_rally 96 = .ok (.iconst 0, 1) := by decide +kernel
theorem dX12_rally_97 : decode cX12_rally 97 = .ok (.goto 16, 3) := by decide +kernel
theorem dX12_rally_100 : decode cX12_rally 100 = .ok (.aload_n 0, 1) := by decide +kernel
theorem dX12_rally_101 : decode cX12_rally 101 = .ok (.getfield 212, 3) := by decide +kernel
theorem dX12_rally_104 : decode cX12_rally 104 = .ok (.iload_n 3, 1) := by decide +kernel
theorem dX12_rally_105 : decode cX12_rally 105 = .ok (.if_icmp .ne 7, 3) := by decide +kernel
theorem dX12_rally_108 : decode cX12_rally 108 = .ok (.iconst 1, 1) := by decide +kernel
theorem dX12_rally_109 : decode cX12_rally 109 = .ok (.goto 4, 3) := by decide +kernel
theorem dX12_rally_112 : decode cX12_rally 112 = .ok (.iconst 2, 1) := by decide +kernel
theorem dX12_rally_113 : decode cX12_rally 113 = .ok (.ireturn, 1) := by decide +kernel
theorem dX12_takesBisque_0 : decode cX12_takesBisque 0 = .ok (.aload_n 0, 1) := by decide +kernel
theorem dX12_takesBisque_1 : decode cX12_takesBisque 1 = .ok (.iconst (-1), 1) := by decide +kernel
theorem dX12_takesBisque_2 : decode cX12_takesBisque 2 = .ok (.putfield 215, 3) := by decide +kernel
theorem dX12_takesBisque_5 : decode cX12_takesBisque 5 = .ok (.aload_n 0, 1) := by decide +kernel
theorem dX12_takesBisque_6 : decode cX12_takesBisque 6 = .ok (.getfield 29, 3) := by decide +kernel
theorem dX12_takesBisque_9 : decode cX12_takesBisque 9 = .ok (.bipush 6, 2) := by decide +kernel
theorem dX12_takesBisque_11 : decode cX12_takesBisque 11 = .ok (.iaload, 1) := by decide +kernel
theorem dX12_takesBisque_12 : decode cX12_takesBisque 12 = .ok (.iconst 1, 1) := by decide +kernel
theorem dX12_takesBisque_13 : decode cX12_takesBisque 13 = .ok (.if_icmp .ne 7, 3) := by decide +kernel
theorem dX12_takesBisque_16 : decode cX12_takesBisque 16 = .ok (.iconst 1, 1) := by decide +kernel
theorem dX12_takesBisque_17 : decode cX12_takesBisque 17 = .ok (.goto 4, 3) := by decide +kernel
theorem dX12_takesBisque_20 : decode cX12_takesBisque 20 = .ok (.iconst 0, 1) := by decide +kernel
theorem dX12_takesBisque_21 : decode cX12_takesBisque 21 = .ok (.istore_n 2, 1) := by decide +kernel
theorem dX12_takesBisque_22 : decode cX12_takesBisque 22 = .ok (.aload_n 0, 1) := by decide +kernel
theorem dX12_takesBisque_23 : decode cX12_takesBisque 23 = .ok (.iload_n 1, 1) := by decide +kernel
theorem dX12_takesBisque_24 : decode cX12_takesBisque 24 = .ok (.invokevirtual 218, 3) := by decide +kernel
theorem dX12_takesBisque_27 : decode cX12_takesBisque 27 = .ok (.iload_n 2, 1) := by decide +kernel
theorem dX12_takesBisque_28 : decode cX12_takesBisque 28 = .ok (.ifCond .ne 7, 3) := by decide +kernel
theorem dX12_takesBisque_31 : decode cX12_takesBisque 31 = .ok (.aload_n 0, 1) := by decide +kernel
theorem dX12_takesBisque_32 : decode cX12_takesBisque 32 = .ok (.invokevirtual 221, 3) := by decide +kernel
theorem dX12_takesBisque_35 : decode cX12_takesBisque 35 = .ok (.return_, 1) := by decide +kernel
theorem dX12_bisque_0 : decode cX12_bisque 0 = .ok (.aload_n 0, 1) := by decide +kernel
theorem dX12_bisque_1 : decode cX12_bisque 1 = .ok (.invokevirtual 200, 3) := by decide +kernel
theorem dX12_bisque_4 : decode cX12_bisque 4 = .ok (.aload_n 0, 1) := by decide +kernel
theorem dX12_bisque_5 : decode cX12_bisque 5 = .ok (.iload_n 1, 1) := by decide +kernel
theorem dX12_bisque_6 : decode cX12_bisque 6 = .ok (.invokestatic 197, 3) := by decide +kernel
theorem dX12_bisque_9 : decode cX12_bisque 9 = .ok (.ifCond .ne 7, 3) := by decide +kernel
theorem dX12_bisque_12 : decode cX12_bisque 12 = .ok (.iconst 1, 1) := by decide +kernel
theorem dX12_bisque_13 : decode cX12_bisque 13 = .ok (.goto 15, 3) := by decide +kernel
theorem dX12_bisque_16 : decode cX12_bisque 16 = .ok (.aload_n 0, 1) := by decide +kernel
theorem dX12_bisque_17 : decode cX12_bisque 17 = .ok (.invokevirtual 227, 3) := by decide +kernel
theorem dX12_bisque_20 : decode cX12_bisque 20 = .ok (.ifCond .eq 7, 3) := by decide +kernel
theorem dX12_bisque_23 : decode cX12_bisque 23 = .ok (.iconst 2, 1) := by decide +kernel
theorem dX12_bisque_24 : decode cX12_bisque 24 = .ok (.goto 4, 3) := by decide +kernel
theorem dX12_bisque_27 : decode cX12_bisque 27 = .ok (.iconst 0, 1) := by decide +kernel
theorem dX12_bisque_28 : decode cX12_bisque 28 = .ok (.putfield 67, 3) := by decide +kernel
theorem dX12_bisque_31 : decode cX12_bisque 31 = .ok (.aload_n 0, 1) := by decide +kernel
theorem dX12_bisque_32 : decode cX12_bisque 32 = .ok (.getfield 67, 3) := by decide +kernel
theorem dX12_bisque_35 : decode cX12_bisque 35 = .ok (.ifCond .le 5, 3) := by decide +kernel
theorem dX12_bisque_38 : decode cX12_bisque 38 = .ok (.iconst 0, 1) := by decide +kernel
theorem dX12_bisque_39 : decode cX12_bisque 39 = .ok (.ireturn, 1) := by decide +kernel
theorem dX12_bisque_40 : decode cX12_bisque 40 = .ok (.aload_n 0, 1) := by decide +kernel
theorem dX12_bisque_41 : decode cX12_bisque 41 = .ok (.iload_n 1, 1) := by decide +kernel
theorem dX12_bisque_42 : decode cX12_bisque 42 = .ok (.invokevirtual 236, 3) := by decide +kernel
theorem dX12_bisque_45 : decode cX12_bisque 45 = .ok (.aload_n 0, 1) := by decide +kernel
theorem dX12_bisque_46 : decode cX12_bisque 46 = .ok (.invokevirtual 233, 3) := by decide +kernel
theorem dX12_bisque_49 : decode cX12_bisque 49 = .ok (.aload_n 0, 1) := by decide +kernel
theorem dX12_bisque_50 : decode cX12_bisque 50 = .ok (.getfield 215, 3) := by decide +kernel
theorem dX12_bisque_53 : decode cX12_bisque 53 = .ok (.iconst (-1), 1) := by decide +kernel
theorem dX12_bisque_54 : decode cX12_bisque 54 = .ok (.if_icmp .eq 7, 3) := by decide +kernel
theorem dX12_bisque_57 : decode cX12_bisque 57 = .ok (.iconst 1, 1) := by decide +kernel
theorem dX12_bisque_58 : decode cX12_bisque 58 = .ok (.goto 4, 3) := by decide +kernel
theorem dX12_bisque_61 : decode cX12_bisque 61 = .ok (.iconst 0, 1) := by decide +kernel
theorem dX12_bisque_62 : decode cX12_bisque 62 = .ok (.ireturn, 1) := by decide +kernel
theorem dX12_number_0 : decode cX12_number 0 = .ok (.aload_n 0, 1) := by decide +kernel
theorem dX12_number_1 : decode cX12_number 1 = .ok (.getfield 29, 3) := by decide +kernel
theorem dX12_number_4 : decode cX12_number 4 = .ok (.iconst 3, 1) := by decide +kernel
theorem dX12_number_5 : decode cX12_number 5 = .ok (.iaload, 1) := by decide +kernel
theorem dX12_number_6 : decode cX12_number 6 = .ok (.ifCond .ne 7, 3) := by decide +kernel
theorem dX12_number_9 : decode cX12_number 9 = .ok (.iconst 0, 1) := by decide +kernel
theorem dX12_number_10 : decode cX12_number 10 = .ok (.goto 66, 3) := by decide +kernel
theorem dX12_number_13 : decode cX12_number 13 = .ok (.aload_n 0, 1) := by decide +kernel
theorem dX12_number_14 : decode cX12_number 14 = .ok (.getfield 29, 3) := by decide +kernel
theorem dX12_number_17 : decode cX12_number 17 = .ok (.iconst 3, 1) := by decide +kernel
theorem dX12_number_18 : decode cX12_number 18 = .ok (.iaload, 1) := by decide +kernel
theorem dX12_number_19 : decode cX12_number 19 = .ok (.iconst 2, 1) := by decide +kernel
theorem dX12_number_20 : decode cX12_number 20 = .ok (.if_icmp .ne 25, 3) := by decide +kernel
theorem dX12_number_23 : decode cX12_number 23 = .ok (.bipush 21, 2) := by decide +kernel
theorem dX12_number_25 : decode cX12_number 25 = .ok (.bipush 10, 2) := by decide +kernel
theorem dX12_number_27 : decode cX12_number 27 = .ok (.aload_n 0, 1) := by decide +kernel
theorem dX12_number_28 : decode cX12_number 28 = .ok (.getfield 29, 3) := by decide +kernel
theorem dX12_number_31 : decode cX12_number 31 = .ok (.iconst 4, 1) := by decide +kernel
theorem dX12_number_32 : decode cX12_number 32 = .ok (.iaload, 1) := by decide +kernel
theorem dX12_number_33 : decode cX12_number 33 = .ok (.imul, 1) := by decide +kernel
theorem dX12_number_34 : decode cX12_number 34 = .ok (.iadd, 1) := by decide +kernel
theorem dX12_number_35 : decode cX12_number 35 = .ok (.aload_n 0, 1) := by decide +kernel
theorem dX12_number_36 : decode cX12_number 36 = .ok (.getfield 29, 3) := by decide +kernel
theorem dX12_number_39 : decode cX12_number 39 = .ok (.iconst 5, 1) := by decide +kernel
theorem dX12_number_40 : decode cX12_number 40 = .ok (.iaload, 1) := by decide +kernel
theorem dX12_number_41 : decode cX12_number 41 = .ok (.iadd, 1) := by decide +kernel
theorem dX12_number_42 : decode cX12_number 42 = .ok (.goto 34, 3) := by decide +kernel
theorem dX12_number_45 : decode cX12_number 45 = .ok (.aload_n 0, 1) := by decide +kernel
theorem dX12_number_46 : decode cX12_number 46 = .ok (.getfield 29, 3) := by decide +kernel
theorem dX12_number_49 : decode cX12_number 49 = .ok (.bipush 6, 2) := by decide +kernel
theorem dX12_number_51 : decode cX12_number 51 = .ok (.iaload, 1) := by decide +kernel
theorem dX12_number_52 : decode cX12_number 52 = .ok (.iconst 1, 1) := by decide +kernel
theorem dX12_number_53 : decode cX12_number 53 = .ok (.if_icmp .ne 15, 3) := by decide +kernel
theorem dX12_number_56 : decode cX12_number 56 = .ok (.bipush 11, 2) := by decide +kernel
theorem dX12_number_58 : decode cX12_number 58 = .ok (.aload_n 0, 1) := by decide +kernel
theorem dX12_number_59 : decode cX12_number 59 = .ok (.getfield 29, 3) := by decide +kernel
theorem dX12_number_62 : decode cX12_number 62 = .ok (.iconst 4, 1) := by decide +kernel
theorem dX12_number_63 : decode cX12_number 63 = .ok (.iaload, 1) := by decide +kernel
theorem dX12_number_64 : decode cX12_number 64 = .ok (.iadd, 1) := by decide +kernel
theorem dX12_number_65 : decode cX12_number 65 = .ok (.goto 11, 3) := by decide +kernel
theorem dX12_number_68 : decode cX12_number 68 = .ok (.iconst 1, 1) := by decide +kernel
theorem dX12_number_69 : decode cX12_number 69 = .ok (.aload_n 0, 1) := by decide +kernel
theorem dX12_number_70 : decode cX12_number 70 = .ok (.getfield 29, 3) := by decide +kernel
theorem dX12_number_73 : decode cX12_number 73 = .ok (.iconst 4, 1) := by decide +kernel
theorem dX12_number_74 : decode cX12_number 74 = .ok (.iaload, 1) := by decide +kernel
theorem dX12_number_75 : decode cX12_number 75 = .ok (.iadd, 1) := by decide +kernel
theorem dX12_number_76 : decode cX12_number 76 = .ok (.istore_n 1, 1) := by decide +kernel
theorem dX12_number_77 : decode cX12_number 77 = .ok (.aload_n 0, 1) := by decide +kernel
theorem dX12_number_78 : decode cX12_number 78 = .ok (.getfield 29, 3) := by decide +kernel
theorem dX12_number_81 : decode cX12_number 81 = .ok (.iconst 0, 1) := by decide +kernel
theorem dX12_number_82 : decode cX12_number 82 = .ok (.iaload, 1) := by decide +kernel
theorem dX12_number_83 : decode cX12_number 83 = .ok (.iconst 3, 1) := by decide +kernel
theorem dX12_number_84 : decode cX12_number 84 = .ok (.iadd, 1) := by decide +kernel
theorem dX12_number_85 : decode cX12_number 85 = .ok (.bipush 8, 2) := by decide +kernel
theorem dX12_number_87 : decode cX12_number 87 = .ok (.imul, 1) := by decide +kernel
theorem dX12_number_88 : decode cX12_number 88 = .ok (.aload_n 0, 1) := by decide +kernel
theorem dX12_number_89 : decode cX12_number 89 = .ok (.getfield 29, 3) := by decide +kernel
theorem dX12_number_92 : decode cX12_number 92 = .ok (.iconst 1, 1) := by decide +kernel
theorem dX12_number_93 : decode cX12_number 93 = .ok (.iaload, 1) := by decide +kernel
theorem dX12_number_94 : decode cX12_number 94 = .ok (.iadd, 1) := by decide +kernel
theorem dX12_number_95 : decode cX12_number 95 = .ok (.iconst 3, 1) := by decide +kernel
theorem dX12_number_96 : decode cX12_number 96 = .ok (.iadd, 1) := by decide +kernel
theorem dX12_number_97 : decode cX12_number 97 = .ok (.sipush 242, 3) := by decide +kernel
theorem dX12_number_100 : decode cX12_number 100 = .ok (.imul, 1) := by decide +kernel
theorem dX12_number_101 : decode cX12_number 101 = .ok (.bipush 121, 2) := by decide +kernel
theorem dX12_number_103 : decode cX12_number 103 = .ok (.aload_n 0, 1) := by decide +kernel
theorem dX12_number_104 : decode cX12_number 104 = .ok (.getfield 29, 3) := by decide +kernel
theorem dX12_number_107 : decode cX12_number 107 = .ok (.iconst 2, 1) := by decide +kernel
theorem dX12_number_108 : decode cX12_number 108 = .ok (.iaload, 1) := by decide +kernel
theorem dX12_number_109 : decode cX12_number 109 = .ok (.imul, 1) := by decide +kernel
theorem dX12_number_110 : decode cX12_number 110 = .ok (.iadd, 1) := by decide +kernel
theorem dX12_number_111 : decode cX12_number 111 = .ok (.iload_n 1, 1) := by decide +kernel
theorem dX12_number_112 : decode cX12_number 112 = .ok (.iadd, 1) := by decide +kernel
theorem dX12_number_113 : decode cX12_number 113 = .ok (.ireturn, 1) := by decide +kernel
theorem dX12_unnumber_0 : decode cX12_unnumber 0 = .ok (.iload_n 1, 1) := by decide +kernel
theorem dX12_unnumber_1 : decode cX12_unnumber 1 = .ok (.bipush 121, 2) := by decide +kernel
theorem dX12_unnumber_3 : decode cX12_unnumber 3 = .ok (.irem, 1) := by decide +kernel
theorem dX12_unnumber_4 : decode cX12_unnumber 4 = .ok (.istore_n 2, 1) := by decide +kernel
theorem dX12_unnumber_5 : decode cX12_unnumber 5 = .ok (.aload_n 0, 1) := by decide +kernel
theorem dX12_unnumber_6 : decode cX12_unnumber 6 = .ok (.getfield 29, 3) := by decide +kernel
theorem dX12_unnumber_9 : decode cX12_unnumber 9 = .ok (.iconst 2, 1) := by decide +kernel
theorem dX12_unnumber_10 : decode cX12_unnumber 10 = .ok (.iload_n 1, 1) := by decide +kernel
theorem dX12_unnumber_11 : decode cX12_unnumber 11 = .ok (.bipush 121, 2) := by decide +kernel
theorem dX12_unnumber_13 : decode cX12_unnumber 13 = .ok (.idiv, 1) := by decide +kernel
theorem dX12_unnumber_14 : decode cX12_unnumber 14 = .ok (.iconst 2, 1) := by decide +kernel
theorem dX12_unnumber_15 : decode cX12_unnumber 15 = .ok (.irem, 1) := by decide +kernel
theorem dX12_unnumber_16 : decode cX12_unnumber 16 = .ok (.iastore, 1) := by decide +kernel
theorem dX12_unnumber_17 : decode cX12_unnumber 17 = .ok (.aload_n 0, 1) := by decide +kernel
theorem dX12_unnumber_18 : decode cX12_unnumber 18 = .ok (.getfield 29, 3) := by decide +kernel
theorem dX12_unnumber_21 : decode cX12_unnumber 21 = .ok (.iconst 1, 1) := by decide +kernel
theorem dX12_unnumber_22 : decode cX12_unnumber 22 = .ok (.iload_n 1, 1) := by decide +kernel
theorem dX12_unnumber_23 : decode cX12_unnumber 23 = .ok (.sipush 242, 3) := by decide +kernel
theorem dX12_unnumber_26 : decode cX12_unnumber 26 = .ok (.idiv, 1) := by decide +kernel
theorem dX12_unnumber_27 : decode cX12_unnumber 27 = .ok (.bipush 8, 2) := by decide +kernel
theorem dX12_unnumber_29 : decode cX12_unnumber 29 = .ok (.irem, 1) := by decide +kernel
theorem dX12_unnumber_30 : decode cX12_unnumber 30 = .ok (.iconst 3, 1) := by decide +kernel
theorem dX12_unnumber_31 : decode cX12_unnumber 31 = .ok (.isub, 1) := by decide +kernel
theorem dX12_unnumber_32 : decode cX12_unnumber 32 = .ok (.iastore, 1) := by decide +kernel
theorem dX12_unnumber_33 : decode cX12_unnumber 33 = .ok (.aload_n 0, 1) := by decide +kernel
theorem dX12_unnumber_34 : decode cX12_unnumber 34 = .ok (.getfield 29, 3) := by decide +kernel
theorem dX12_unnumber_37 : decode cX12_unnumber 37 = .ok (.iconst 0, 1) := by decide +kernel
theorem dX12_unnumber_38 : decode cX12_unnumber 38 = .ok (.iload_n 1, 1) := by decide +kernel
theorem dX12_unnumber_39 : decode cX12_unnumber 39 = .ok (.sipush 1936, 3) := by decide +kernel
theorem dX12_unnumber_42 : decode cX12_unnumber 42 = .ok (.idiv, 1) := by decide +kernel
theorem dX12_unnumber_43 : decode cX12_unnumber 43 = .ok (.iconst 3, 1) := by decide +kernel
theorem dX12_unnumber_44 : decode cX12_unnumber 44 = .ok (.isub, 1) := by decide +kernel
theorem dX12_unnumber_45 : decode cX12_unnumber 45 = .ok (.iastore, 1) := by decide +kernel
theorem dX12_unnumber_46 : decode cX12_unnumber 46 = .ok (.aload_n 0, 1) := by decide +kernel
theorem dX12_unnumber_47 : decode cX12_unnumber 47 = .ok (.getfield 29, 3) := by decide +kernel
theorem dX12_unnumber_50 : decode cX12_unnumber 50 = .ok (.iconst 3, 1) := by decide +kernel
theorem dX12_unnumber_51 : decode cX12_unnumber 51 = .ok (.iload_n 2, 1) := by decide +kernel
theorem dX12_unnumber_52 : decode cX12_unnumber 52 = .ok (.ifCond .ne 7, 3) := by decide +kernel
theorem dX12_unnumber_55 : decode cX12_unnumber 55 = .ok (.iconst 0, 1) := by decide +kernel
theorem dX12_unnumber_56 : decode cX12_unnumber 56 = .ok (.goto 14, 3) := by decide +kernel
theorem dX12_unnumber_59 : decode cX12_unnumber 59 = .ok (.iload_n 2, 1) := by decide +kernel
theorem dX12_unnumber_60 : decode cX12_unnumber 60 = .ok (.bipush 21, 2) := by decide +kernel
theorem dX12_unnumber_62 : decode cX12_unnumber 62 = .ok (.if_icmp .ge 7, 3) := by decide +kernel
theorem dX12_unnumber_65 : decode cX12_unnumber 65 = .ok (.iconst 1, 1) := by decide +kernel
theorem dX12_unnumber_66 : decode cX12_unnumber 66 = .ok (.goto 4, 3) := by decide +kernel
theorem dX12_unnumber_69 : decode cX12_unnumber 69 = .ok (.iconst 2, 1) := by decide +kernel
theorem dX12_unnumber_70 : decode cX12_unnumber 70 = .ok (.iastore, 1) := by decide +kernel
theorem dX12_unnumber_71 : decode cX12_unnumber 71 = .ok (.aload_n 0, 1) := by decide +kernel
theorem dX12_unnumber_72 : decode cX12_unnumber 72 = .ok (.getfield 29, 3) := by decide +kernel
theorem dX12_unnumber_75 : decode cX12_unnumber 75 = .ok (.bipush 6, 2) := by decide +kernel
theorem dX12_unnumber_77 : decode cX12_unnumber 77 = .ok (.iload_n 2, 1) := by decide +kernel
theorem dX12_unnumber_78 : decode cX12_unnumber 78 = .ok (.bipush 10, 2) := by decide +kernel
theorem dX12_unnumber_80 : decode cX12_unnumber 80 = .ok (.if_icmp .le 7, 3) := by decide +kernel
theorem dX12_unnumber_83 : decode cX12_unnumber 83 = .ok (.iconst 1, 1) := by decide +kernel
theorem dX12_unnumber_84 : decode cX12_unnumber 84 = .ok (.goto 4, 3) := by decide +kernel
theorem dX12_unnumber_87 : decode cX12_unnumber 87 = .ok (.iconst 0, 1) := by decide +kernel
theorem dX12_unnumber_88 : decode cX12_unnumber 88 = .ok (.iastore, 1) := by decide +kernel
theorem dX12_unnumber_89 : decode cX12_unnumber 89 = .ok (.aload_n 0, 1) := by decide +kernel
theorem dX12_unnumber_90 : decode cX12_unnumber 90 = .ok (.getfield 29, 3) := by decide +kernel
theorem dX12_unnumber_93 : decode cX12_unnumber 93 = .ok (.iconst 4, 1) := by decide +kernel
theorem dX12_unnumber_94 : decode cX12_unnumber 94 = .ok (.iload_n 2, 1) := by decide +kernel
theorem dX12_unnumber_95 : decode cX12_unnumber 95 = .ok (.ifCond .ne 7, 3) := by decide +kernel
theorem dX12_unnumber_98 : decode cX12_unnumber 98 = .ok (.iconst 0, 1) := by decide +kernel
theorem dX12_unnumber_99 : decode cX12_unnumber 99 = .ok (.goto 35, 3) := by decide +kernel
theorem dX12_unnumber_102 : decode cX12_unnumber 102 = .ok (.iload_n 2, 1) := by decide +kernel
theorem dX12_unnumber_103 : decode cX12_unnumber 103 = .ok (.bipush 11, 2) := by decide +kernel
theorem dX12_unnumber_105 : decode cX12_unnumber 105 = .ok (.if_icmp .ge 9, 3) := by decide +kernel
theorem dX12_unnumber_108 : decode cX12_unnumber 108 = .ok (.iload_n 2, 1) := by decide +kernel
theorem dX12_unnumber_109 : decode cX12_unnumber 109 = .ok (.iconst 1, 1) := by decide +kernel
theorem dX12_unnumber_110 : decode cX12_unnumber 110 = .ok (.isub, 1) := by decide +kernel
theorem dX12_unnumber_111 : decode cX12_unnumber 111 = .ok (.goto 23, 3) := by decide +kernel
theorem dX12_unnumber_114 : decode cX12_unnumber 114 = .ok (.iload_n 2, 1) := by decide +kernel
theorem dX12_unnumber_115 : decode cX12_unnumber 115 = .ok (.bipush 21, 2) := by decide +kernel
theorem dX12_unnumber_117 : decode cX12_unnumber 117 = .ok (.if_icmp .ge 10, 3) := by decide +kernel
theorem dX12_unnumber_120 : decode cX12_unnumber 120 = .ok (.iload_n 2, 1) := by decide +kernel
theorem dX12_unnumber_121 : decode cX12_unnumber 121 = .ok (.bipush 11, 2) := by decide +kernel
theorem dX12_unnumber_123 : decode cX12_unnumber 123 = .ok (.isub, 1) := by decide +kernel
theorem dX12_unnumber_124 : decode cX12_unnumber 124 = .ok (.goto 10, 3) := by decide +kernel
theorem dX12_unnumber_127 : decode cX12_unnumber 127 = .ok (.iload_n 2, 1) := by decide +kernel
theorem dX12_unnumber_128 : decode cX12_unnumber 128 = .ok (.bipush 21, 2) := by decide +kernel
theorem dX12_unnumber_130 : decode cX12_unnumber 130 = .ok (.isub, 1) := by decide +kernel
theorem dX12_unnumber_131 : decode cX12_unnumber 131 = .ok (.bipush 10, 2) := by decide +kernel
theorem dX12_unnumber_133 : decode cX12_unnumber 133 = .ok (.idiv, 1) := by decide +kernel
theorem dX12_unnumber_134 : decode cX12_unnumber 134 = .ok (.iastore, 1) := by decide +kernel
theorem dX12_unnumber_135 : decode cX12_unnumber 135 = .ok (.aload_n 0, 1) := by decide +kernel
theorem dX12_unnumber_136 : decode cX12_unnumber 136 = .ok (.getfield 29, 3) := by decide +kernel
theorem dX12_unnumber_139 : decode cX12_unnumber 139 = .ok (.iconst 5, 1) := by decide +kernel
theorem dX12_unnumber_140 : decode cX12_unnumber 140 = .ok (.iload_n 2, 1) := by decide +kernel
theorem dX12_unnumber_141 : decode cX12_unnumber 141 = .ok (.bipush 21, 2) := by decide +kernel
theorem dX12_unnumber_143 : decode cX12_unnumber 143 = .ok (.if_icmp .ge 7, 3) := by decide +kernel
theorem dX12_unnumber_146 : decode cX12_unnumber 146 = .ok (.iconst 0, 1) := by decide +kernel
theorem dX12_unnumber_147 : decode cX12_unnumber 147 = .ok (.goto 10, 3) := by decide +kernel
theorem dX12_unnumber_150 : decode cX12_unnumber 150 = .ok (.iload_n 2, 1) := by decide +kernel
theorem dX12_unnumber_151 : decode cX12_unnumber 151 = .ok (.bipush 21, 2) := by decide +kernel
theorem dX12_unnumber_153 : decode cX12_unnumber 153 = .ok (.isub, 1) := by decide +kernel
theorem dX12_unnumber_154 : decode cX12_unnumber 154 = .ok (.bipush 10, 2) := by decide +kernel
theorem dX12_unnumber_156 : decode cX12_unnumber 156 = .ok (.irem, 1) := by decide +kernel
theorem dX12_unnumber_157 : decode cX12_unnumber 157 = .ok (.iastore, 1) := by decide +kernel
theorem dX12_unnumber_158 : decode cX12_unnumber 158 = .ok (.aload_n 0, 1) := by decide +kernel
theorem dX12_unnumber_159 : decode cX12_unnumber 159 = .ok (.getfield 29, 3) := by decide +kernel
theorem dX12_unnumber_162 : decode cX12_unnumber 162 = .ok (.bipush 7, 2) := by decide +kernel
theorem dX12_unnumber_164 : decode cX12_unnumber 164 = .ok (.aload_n 0, 1) := by decide +kernel
theorem dX12_unnumber_165 : decode cX12_unnumber 165 = .ok (.getfield 7, 3) := by decide +kernel
theorem dX12_unnumber_168 : decode cX12_unnumber 168 = .ok (.sipush 208, 3) := by decide +kernel
theorem dX12_unnumber_171 : decode cX12_unnumber 171 = .ok (.iaload, 1) := by decide +kernel
theorem dX12_unnumber_172 : decode cX12_unnumber 172 = .ok (.iastore, 1) := by decide +kernel
theorem dX12_unnumber_173 : decode cX12_unnumber 173 = .ok (.aload_n 0, 1) := by decide +kernel
theorem dX12_unnumber_174 : decode cX12_unnumber 174 = .ok (.getfield 29, 3) := by decide +kernel
theorem dX12_unnumber_177 : decode cX12_unnumber 177 = .ok (.bipush 8, 2) := by decide +kernel
theorem dX12_unnumber_179 : decode cX12_unnumber 179 = .ok (.aload_n 0, 1) := by decide +kernel
theorem dX12_unnumber_180 : decode cX12_unnumber 180 = .ok (.getfield 7, 3) := by decide +kernel
theorem dX12_unnumber_183 : decode cX12_unnumber 183 = .ok (.sipush 209, 3) := by decide +kernel
theorem dX12_unnumber_186 : decode cX12_unnumber 186 = .ok (.iaload, 1) := by decide +kernel
theorem dX12_unnumber_187 : decode cX12_unnumber 187 = .ok (.iastore, 1) := by decide +kernel
theorem dX12_unnumber_188 : decode cX12_unnumber 188 = .ok (.return_, 1) := by decide +kernel
theorem dX12_allStyles_0 : decode cX12_allStyles 0 = .ok (.iconst 0, 1) := by decide +kernel
theorem dX12_allStyles_1 : decode cX12_allStyles 1 = .ok (.istore_n 1, 1) := by decide +kernel
theorem dX12_allStyles_2 : decode cX12_allStyles 2 = .ok (.iload_n 1, 1) := by decide +kernel
theorem dX12_allStyles_3 : decode cX12_allStyles 3 = .ok (.sipush 15488, 3) := by decide +kernel
theorem dX12_allStyles_6 : decode cX12_allStyles 6 = .ok (.if_icmp .ge 42, 3) := by decide +kernel
theorem dX12_allStyles_9 : decode cX12_allStyles 9 = .ok (.aload_n 0, 1) := by decide +kernel
theorem dX12_allStyles_10 : decode cX12_allStyles 10 = .ok (.iload_n 1, 1) := by decide +kernel
theorem dX12_allStyles_11 : decode cX12_allStyles 11 = .ok (.invokevirtual 239, 3) := by decide +kernel
theorem dX12_allStyles_14 : decode cX12_allStyles 14 = .ok (.aload_n 0, 1) := by decide +kernel
theorem dX12_allStyles_15 : decode cX12_allStyles 15 = .ok (.getfield 32, 3) := by decide +kernel
theorem dX12_allStyles_18 : decode cX12_allStyles 18 = .ok (.iconst 2, 1) := by decide +kernel
theorem dX12_allStyles_19 : decode cX12_allStyles 19 = .ok (.iload_n 1, 1) := by decide +kernel
theorem dX12_allStyles_20 : decode cX12_allStyles 20 = .ok (.imul, 1) := by decide +kernel
theorem dX12_allStyles_21 : decode cX12_allStyles 21 = .ok (.aload_n 0, 1) := by decide +kernel
theorem dX12_allStyles_22 : decode cX12_allStyles 22 = .ok (.iconst 0, 1) := by decide +kernel
theorem dX12_allStyles_23 : decode cX12_allStyles 23 = .ok (.invokevirtual 203, 3) := by decide +kernel
theorem dX12_allStyles_26 : decode cX12_allStyles 26 = .ok (.iastore, 1) := by decide +kernel
theorem dX12_allStyles_27 : decode cX12_allStyles 27 = .ok (.aload_n 0, 1) := by decide +kernel
theorem dX12_allStyles_28 : decode cX12_allStyles 28 = .ok (.getfield 32, 3) := by decide +kernel
theorem dX12_allStyles_31 : decode cX12_allStyles 31 = .ok (.iconst 2, 1) := by decide +kernel
theorem dX12_allStyles_32 : decode cX12_allStyles 32 = .ok (.iload_n 1, 1) := by decide +kernel
theorem dX12_allStyles_33 : decode cX12_allStyles 33 = .ok (.imul, 1) := by decide +kernel
theorem dX12_allStyles_34 : decode cX12_allStyles 34 = .ok (.iconst 1, 1) := by decide +kernel
theorem dX12_allStyles_35 : decode cX12_allStyles 35 = .ok (.iadd, 1) := by decide +kernel
theorem dX12_allStyles_36 : decode cX12_allStyles 36 = .ok (.aload_n 0, 1) := by decide +kernel
theorem dX12_allStyles_37 : decode cX12_allStyles 37 = .ok (.iconst 1, 1) := by decide +kernel
theorem dX12_allStyles_38 : decode cX12_allStyles 38 = .ok (.invokevirtual 203, 3) := by decide +kernel
theorem dX12_allStyles_41 : decode cX12_allStyles 41 = .ok (.iastore, 1) := by decide +kernel
theorem dX12_allStyles_42 : decode cX12_allStyles 42 = .ok (.iinc 1 1, 3) := by decide +kernel
theorem dX12_allStyles_45 : decode cX12_allStyles 45 = .ok (.goto (-43), 3) := by decide +kernel
theorem dX12_allStyles_48 : decode cX12_allStyles 48 = .ok (.return_, 1) := by decide +kernel
theorem dX12_canBe_0 : decode cX12_canBe 0 = .ok (.iload_n 0, 1) := by decide +kernel
theorem dX12_canBe_1 : decode cX12_canBe 1 = .ok (.sipush 242, 3) := by decide +kernel
theorem dX12_canBe_4 : decode cX12_canBe 4 = .ok (.idiv, 1) := by decide +kernel
theorem dX12_canBe_5 : decode cX12_canBe 5 = .ok (.bipush 8, 2) := by decide +kernel
theorem dX12_canBe_7 : decode cX12_canBe 7 = .ok (.irem, 1) := by decide +kernel
theorem dX12_canBe_8 : decode cX12_canBe 8 = .ok (.iconst 3, 1) := by decide +kernel
theorem dX12_canBe_9 : decode cX12_canBe 9 = .ok (.isub, 1) := by decide +kernel
theorem dX12_canBe_10 : decode cX12_canBe 10 = .ok (.istore_n 1, 1) := by decide +kernel
theorem dX12_canBe_11 : decode cX12_canBe 11 = .ok (.iload_n 0, 1) := by decide +kernel
theorem dX12_canBe_12 : decode cX12_canBe 12 = .ok (.sipush 1936, 3) := by decide +kernel
theorem dX12_canBe_15 : decode cX12_canBe 15 = .ok (.idiv, 1) := by decide +kernel
theorem dX12_canBe_16 : decode cX12_canBe 16 = .ok (.iconst 3, 1) := by decide +kernel
theorem dX12_canBe_17 : decode cX12_canBe 17 = .ok (.isub, 1) := by decide +kernel
theorem dX12_canBe_18 : decode cX12_canBe 18 = .ok (.istore_n 2, 1) := by decide +kernel
theorem dX12_canBe_19 : decode cX12_canBe 19 = .ok (.iload_n 2, 1) := by decide +kernel
theorem dX12_canBe_20 : decode cX12_canBe 20 = .ok (.iconst 4, 1) := by decide +kernel
theorem dX12_canBe_21 : decode cX12_canBe 21 = .ok (.if_icmp .lt 8, 3) := by decide +kernel
theorem dX12_canBe_24 : decode cX12_canBe 24 = .ok (.iload_n 1, 1) := by decide +kernel
theorem dX12_canBe_25 : decode cX12_canBe 25 = .ok (.iconst 3, 1) := by decide +kernel
theorem dX12_canBe_26 : decode cX12_canBe 26 = .ok (.if_icmp .ne 17, 3) := by decide +kernel
theorem dX12_canBe_29 : decode cX12_canBe 29 = .ok (.iload_n 1, 1) := by decide +kernel
theorem dX12_canBe_30 : decode cX12_canBe 30 = .ok (.iconst 4, 1) := by decide +kernel
theorem dX12_canBe_31 : decode cX12_canBe 31 = .ok (.if_icmp .lt 8, 3) := by decide +kernel
theorem dX12_canBe_34 : decode cX12_canBe 34 = .ok (.iload_n 2, 1) := by decide +kernel
theorem dX12_canBe_35 : decode cX12_canBe 35 = .ok (.iconst 3, 1) := by decide +kernel
theorem dX12_canBe_36 : decode cX12_canBe 36 = .ok (.if_icmp .ne 7, 3) := by decide +kernel
theorem dX12_canBe_39 : decode cX12_canBe 39 = .ok (.iconst 1, 1) := by decide +kernel
theorem dX12_canBe_40 : decode cX12_canBe 40 = .ok (.goto 4, 3) := by decide +kernel
theorem dX12_canBe_43 : decode cX12_canBe 43 = .ok (.iconst 0, 1) := by decide +kernel
theorem dX12_canBe_44 : decode cX12_canBe 44 = .ok (.ireturn, 1) := by decide +kernel
theorem dX12_had_0 : decode cX12_had 0 = .ok (.lconst 0, 1) := by decide +kernel
theorem dX12_had_1 : decode cX12_had 1 = .ok (.lstore 7, 2) := by decide +kernel
theorem dX12_had_3 : decode cX12_had 3 = .ok (.iconst 0, 1) := by decide +kernel
theorem dX12_had_4 : decode cX12_had 4 = .ok (.istore 9, 2) := by decide +kernel
theorem dX12_had_6 : decode cX12_had 6 = .ok (.iload 9, 2) := by decide +kernel
theorem dX12_had_8 : decode cX12_had 8 = .ok (.bipush 12, 2) := by decide +kernel
theorem dX12_had_10 : decode cX12_had 10 = .ok (.if_icmp .ge 114, 3) := by decide +kernel
theorem dX12_had_13 : decode cX12_had 13 = .ok (.aload_n 0, 1) := by decide +kernel
theorem dX12_had_14 : decode cX12_had 14 = .ok (.getfield 7, 3) := by decide +kernel
theorem dX12_had_17 : decode cX12_had 17 = .ok (.iconst 0, 1) := by decide +kernel
theorem dX12_had_18 : decode cX12_had 18 = .ok (.bipush 12, 2) := by decide +kernel
theorem dX12_had_20 : decode cX12_had 20 = .ok (.iconst 4, 1) := by decide +kernel
theorem dX12_had_21 : decode cX12_had 21 = .ok (.iload_n 2, 1) := by decide +kernel
theorem dX12_had_22 : decode cX12_had 22 = .ok (.imul, 1) := by decide +kernel
theorem dX12_had_23 : decode cX12_had 23 = .ok (.iload_n 3, 1) := by decide +kernel
theorem dX12_had_24 : decode cX12_had 24 = .ok (.iadd, 1) := by decide +kernel
theorem dX12_had_25 : decode cX12_had 25 = .ok (.imul, 1) := by decide +kernel
theorem dX12_had_26 : decode cX12_had 26 = .ok (.iadd, 1) := by decide +kernel
theorem dX12_had_27 : decode cX12_had 27 = .ok (.iload 9, 2) := by decide +kernel
theorem dX12_had_29 : decode cX12_had 29 = .ok (.iadd, 1) := by decide +kernel
theorem dX12_had_30 : decode cX12_had 30 = .ok (.iaload, 1) := by decide +kernel
theorem dX12_had_31 : decode cX12_had 31 = .ok (.istore 10, 2) := by decide +kernel
theorem dX12_had_33 : decode cX12_had 33 = .ok (.iload 10, 2) := by decide +kernel
theorem dX12_had_35 : decode cX12_had 35 = .ok (.ifCond .ne 6, 3) := by decide +kernel
theorem dX12_had_38 : decode cX12_had 38 = .ok (.goto 80, 3) := by decide +kernel
theorem dX12_had_41 : decode cX12_had 41 = .ok (.aload_n 0, 1) := by decide +kernel
theorem dX12_had_42 : decode cX12_had 42 = .ok (.iload_n 1, 1) := by decide +kernel
theorem dX12_had_43 : decode cX12_had 43 = .ok (.invokevirtual 239, 3) := by decide +kernel
theorem dX12_had_46 : decode cX12_had 46 = .ok (.aload_n 0, 1) := by decide +kernel
theorem dX12_had_47 : decode cX12_had 47 = .ok (.iload 9, 2) := by decide +kernel
theorem dX12_had_49 : decode cX12_had 49 = .ok (.invokevirtual 230, 3) := by decide +kernel
theorem dX12_had_52 : decode cX12_had 52 = .ok (.aload_n 0, 1) := by decide +kernel
theorem dX12_had_53 : decode cX12_had 53 = .ok (.getfield 215, 3) := by decide +kernel
theorem dX12_had_56 : decode cX12_had 56 = .ok (.iconst (-1), 1) := by decide +kernel
theorem dX12_had_57 : decode cX12_had 57 = .ok (.if_icmp .ne 23, 3) := by decide +kernel
theorem dX12_had_60 : decode cX12_had 60 = .ok (.lload 7, 2) := by decide +kernel
theorem dX12_had_62 : decode cX12_had 62 = .ok (.iload 10, 2) := by decide +kernel
theorem dX12_had_64 : decode cX12_had 64 = .ok (.i2l, 1) := by decide +kernel
theorem dX12_had_65 : decode cX12_had 65 = .ok (.aload 6, 2) := by decide +kernel
theorem dX12_had_67 : decode cX12_had 67 = .ok (.aload_n 0, 1) := by decide +kernel
theorem dX12_had_68 : decode cX12_had 68 = .ok (.invokevirtual 242, 3) := by decide +kernel
theorem dX12_had_71 : decode cX12_had 71 = .ok (.iaload, 1) := by decide +kernel
theorem dX12_had_72 : decode cX12_had 72 = .ok (.i2l, 1) := by decide +kernel
theorem dX12_had_73 : decode cX12_had 73 = .ok (.lmul, 1) := by decide +kernel
theorem dX12_had_74 : decode cX12_had 74 = .ok (.ladd, 1) := by decide +kernel
theorem dX12_had_75 : decode cX12_had 75 = .ok (.lstore 7, 2) := by decide +kernel
theorem dX12_had_77 : decode cX12_had 77 = .ok (.goto 41, 3) := by decide +kernel
theorem dX12_had_80 : decode cX12_had 80 = .ok (.aload_n 0, 1) := by decide +kernel
theorem dX12_had_81 : decode cX12_had 81 = .ok (.getfield 215, 3) := by decide +kernel
theorem dX12_had_84 : decode cX12_had 84 = .ok (.iload 4, 2) := by decide +kernel
theorem dX12_had_86 : decode cX12_had 86 = .ok (.if_icmp .ne 32, 3) := by decide +kernel
theorem dX12_had_89 : decode cX12_had 89 = .ok (.iload 5, 2) := by decide +kernel
theorem dX12_had_91 : decode cX12_had 91 = .ok (.iconst (-1), 1) := by decide +kernel
theorem dX12_had_92 : decode cX12_had 92 = .ok (.if_icmp .eq 14, 3) := by decide +kernel
theorem dX12_had_95 : decode cX12_had 95 = .ok (.aload_n 0, 1) := by decide +kernel
theorem dX12_had_96 : decode cX12_had 96 = .ok (.getfield 29, 3) := by decide +kernel
theorem dX12_had_99 : decode cX12_had 99 = .ok (.iconst 2, 1) := by decide +kernel
theorem dX12_had_100 : decode cX12_had 100 = .ok (.iaload, 1) := by decide +kernel
theorem dX12_had_101 : decode cX12_had 101 = .ok (.iload 5, 2) := by decide +kernel
theorem dX12_had_103 : decode cX12_had 103 = .ok (.if_icmp .ne 15, 3) := by decide +kernel
theorem dX12_had_106 : decode cX12_had 106 = .ok (.lload 7, 2) := by decide +kernel
theorem dX12_had_108 : decode cX12_had 108 = .ok (.iload 10, 2) := by decide +kernel
theorem dX12_had_110 : decode cX12_had 110 = .ok (.i2l, 1) := by decide +kernel
theorem dX12_had_111 : decode cX12_had 111 = .ok (.ldc2_w 245, 3) := by decide +kernel
theorem dX12_had_114 : decode cX12_had 114 = .ok (.lmul, 1) := by decide +kernel
theorem dX12_had_115 : decode cX12_had 115 = .ok (.ladd, 1) := by decide +kernel
theorem dX12_had_116 : decode cX12_had 116 = .ok (.lstore 7, 2) := by decide +kernel
theorem dX12_had_118 : decode cX12_had 118 = .ok (.iinc 9 1, 3) := by decide +kernel
theorem dX12_had_121 : decode cX12_had 121 = .ok (.goto (-115), 3) := by decide +kernel
theorem dX12_had_124 : decode cX12_had 124 = .ok (.lload 7, 2) := by decide +kernel
theorem dX12_had_126 : decode cX12_had 126 = .ok (.ldc2_w 247, 3) := by decide +kernel
theorem dX12_had_129 : decode cX12_had 129 = .ok (.ldiv, 1) := by decide +kernel
theorem dX12_had_130 : decode cX12_had 130 = .ok (.l2i, 1) := by decide +kernel
theorem dX12_had_131 : decode cX12_had 131 = .ok (.ireturn, 1) := by decide +kernel
theorem dX12_byStyles_0 : decode cX12_byStyles 0 = .ok (.iload_n 1, 1) := by decide +kernel
theorem dX12_byStyles_1 : decode cX12_byStyles 1 = .ok (.bipush 121, 2) := by decide +kernel
theorem dX12_byStyles_3 : decode cX12_byStyles 3 = .ok (.idiv, 1) := by decide +kernel
theorem dX12_byStyles_4 : decode cX12_byStyles 4 = .ok (.iconst 2, 1) := by decide +kernel
theorem dX12_byStyles_5 : decode cX12_byStyles 5 = .ok (.irem, 1) := by decide +kernel
theorem dX12_byStyles_6 : decode cX12_byStyles 6 = .ok (.istore 5, 2) := by decide +kernel
theorem dX12_byStyles_8 : decode cX12_byStyles 8 = .ok (.aload_n 0, 1) := by decide +kernel
theorem dX12_byStyles_9 : decode cX12_byStyles 9 = .ok (.iload_n 1, 1) := by decide +kernel
theorem dX12_byStyles_10 : decode cX12_byStyles 10 = .ok (.aload_n 0, 1) := by decide +kernel
theorem dX12_byStyles_11 : decode cX12_byStyles 11 = .ok (.getfield 32, 3) := by decide +kernel
theorem dX12_byStyles_14 : decode cX12_byStyles 14 = .ok (.iconst 2, 1) := by decide +kernel
theorem dX12_byStyles_15 : decode cX12_byStyles 15 = .ok (.iload_n 1, 1) := by decide +kernel
theorem dX12_byStyles_16 : decode cX12_byStyles 16 = .ok (.imul, 1) := by decide +kernel
theorem dX12_byStyles_17 : decode cX12_byStyles 17 = .ok (.iload 5, 2) := by decide +kernel
theorem dX12_byStyles_19 : decode cX12_byStyles 19 = .ok (.iadd, 1) := by decide +kernel
theorem dX12_byStyles_20 : decode cX12_byStyles 20 = .ok (.iaload, 1) := by decide +kernel
theorem dX12_byStyles_21 : decode cX12_byStyles 21 = .ok (.aload_n 0, 1) := by decide +kernel
theorem dX12_byStyles_22 : decode cX12_byStyles 22 = .ok (.getfield 32, 3) := by decide +kernel
theorem dX12_byStyles_25 : decode cX12_byStyles 25 = .ok (.iconst 2, 1) := by decide +kernel
theorem dX12_byStyles_26 : decode cX12_byStyles 26 = .ok (.iload_n 1, 1) := by decide +kernel
theorem dX12_byStyles_27 : decode cX12_byStyles 27 = .ok (.imul, 1) := by decide +kernel
theorem dX12_byStyles_28 : decode cX12_byStyles 28 = .ok (.iconst 1, 1) := by decide +kernel
theorem dX12_byStyles_29 : decode cX12_byStyles 29 = .ok (.iadd, 1) := by decide +kernel
theorem dX12_byStyles_30 : decode cX12_byStyles 30 = .ok (.iload 5, 2) := by decide +kernel
theorem dX12_byStyles_32 : decode cX12_byStyles 32 = .ok (.isub, 1) := by decide +kernel
theorem dX12_byStyles_33 : decode cX12_byStyles 33 = .ok (.iaload, 1) := by decide +kernel
theorem dX12_byStyles_34 : decode cX12_byStyles 34 = .ok (.iload_n 2, 1) := by decide +kernel
theorem dX12_byStyles_35 : decode cX12_byStyles 35 = .ok (.iload_n 3, 1) := by decide +kernel
theorem dX12_byStyles_36 : decode cX12_byStyles 36 = .ok (.aload 4, 2) := by decide +kernel
theorem dX12_byStyles_38 : decode cX12_byStyles 38 = .ok (.invokevirtual 249, 3) := by decide +kernel
theorem dX12_byStyles_41 : decode cX12_byStyles 41 = .ok (.ireturn, 1) := by decide +kernel
theorem dX12_plays0_0 : decode cX12_plays0 0 = .ok (.iconst 0, 1) := by decide +kernel
theorem dX12_plays0_1 : decode cX12_plays0 1 = .ok (.istore 6, 2) := by decide +kernel
theorem dX12_plays0_3 : decode cX12_plays0 3 = .ok (.iload 6, 2) := by decide +kernel
theorem dX12_plays0_5 : decode cX12_plays0 5 = .ok (.sipush 15488, 3) := by decide +kernel
theorem dX12_plays0_8 : decode cX12_plays0 8 = .ok (.if_icmp .ge 15, 3) := by decide +kernel
theorem dX12_plays0_11 : decode cX12_plays0 11 = .ok (.aload 4, 2) := by decide +kernel
theorem dX12_plays0_13 : decode cX12_plays0 13 = .ok (.iload 6, 2) := by decide +kernel
theorem dX12_plays0_15 : decode cX12_plays0 15 = .ok (.iconst 0, 1) := by decide +kernel
theorem dX12_plays0_16 : decode cX12_plays0 16 = .ok (.iastore, 1) := by decide +kernel
theorem dX12_plays0_17 : decode cX12_plays0 17 = .ok (.iinc 6 1, 3) := by decide +kernel
theorem dX12_plays0_20 : decode cX12_plays0 20 = .ok (.goto (-17), 3) := by decide +kernel
theorem dX12_plays0_23 : decode cX12_plays0 23 = .ok (.iconst 0, 1) := by decide +kernel
theorem dX12_plays0_24 : decode cX12_plays0 24 = .ok (.istore 6, 2) := by decide +kernel
theorem dX12_plays0_26 : decode cX12_plays0 26 = .ok (.iload 6, 2) := by decide +kernel
theorem dX12_plays0_28 : decode cX12_plays0 28 = .ok (.iload_n 3, 1) := by decide +kernel
theorem dX12_plays0_29 : decode cX12_plays0 29 = .ok (.if_icmp .ge 80, 3) := by decide +kernel
theorem dX12_plays0_32 : decode cX12_plays0 32 = .ok (.iconst 0, 1) := by decide +kernel
theorem dX12_plays0_33 : decode cX12_plays0 33 = .ok (.istore 7, 2) := by decide +kernel
theorem dX12_plays0_35 : decode cX12_plays0 35 = .ok (.iload 7, 2) := by decide +kernel
theorem dX12_plays0_37 : decode cX12_plays0 37 = .ok (.sipush 15488, 3) := by decide +kernel
theorem dX12_plays0_40 : decode cX12_plays0 40 = .ok (.if_icmp .ge 19, 3) := by decide +kernel
theorem dX12_plays0_43 : decode cX12_plays0 43 = .ok (.aload 5, 2) := by decide +kernel
theorem dX12_plays0_45 : decode cX12_plays0 45 = .ok (.iload 7, 2) := by decide +kernel
theorem dX12_plays0_47 : decode cX12_plays0 47 = .ok (.aload 4, 2) := by decide +kernel
theorem dX12_plays0_49 : decode cX12_plays0 49 = .ok (.iload 7, 2) := by decide +kernel
theorem dX12_plays0_51 : decode cX12_plays0 51 = .ok (.iaload, 1) := by decide +kernel
theorem dX12_plays0_52 : decode cX12_plays0 52 = .ok (.iastore, 1) := by decide +kernel
theorem dX12_plays0_53 : decode cX12_plays0 53 = .ok (.iinc 7 1, 3) := by decide +kernel
theorem dX12_plays0_56 : decode cX12_plays0 56 = .ok (.goto (-21), 3) := by decide +kernel
theorem dX12_plays0_59 : decode cX12_plays0 59 = .ok (.iconst 0, 1) := by decide +kernel
theorem dX12_plays0_60 : decode cX12_plays0 60 = .ok (.istore 7, 2) := by decide +kernel
theorem dX12_plays0_62 : decode cX12_plays0 62 = .ok (.iload 7, 2) := by decide +kernel
theorem dX12_plays0_64 : decode cX12_plays0 64 = .ok (.sipush 15488, 3) := by decide +kernel
theorem dX12_plays0_67 : decode cX12_plays0 67 = .ok (.if_icmp .ge 36, 3) := by decide +kernel
theorem dX12_plays0_70 : decode cX12_plays0 70 = .ok (.aload 4, 2) := by decide +kernel
theorem dX12_plays0_72 : decode cX12_plays0 72 = .ok (.iload 7, 2) := by decide +kernel
theorem dX12_plays0_74 : decode cX12_plays0 74 = .ok (.iload 7, 2) := by decide +kernel
theorem dX12_plays0_76 : decode cX12_plays0 76 = .ok (.invokestatic 253, 3) := by decide +kernel
theorem dX12_plays0_79 : decode cX12_plays0 79 = .ok (.ifCond .eq 16, 3) := by decide +kernel
theorem dX12_plays0_82 : decode cX12_plays0 82 = .ok (.aload_n 0, 1) := by decide +kernel
theorem dX12_plays0_83 : decode cX12_plays0 83 = .ok (.iload 7, 2) := by decide +kernel
theorem dX12_plays0_85 : decode cX12_plays0 85 = .ok (.iload_n 1, 1) := by decide +kernel
theorem dX12_plays0_86 : decode cX12_plays0 86 = .ok (.iload_n 2, 1) := by decide +kernel
theorem dX12_plays0_87 : decode cX12_plays0 87 = .ok (.aload 5, 2) := by decide +kernel
theorem dX12_plays0_89 : decode cX12_plays0 89 = .ok (.invokevirtual 256, 3) := by decide +kernel
theorem dX12_plays0_92 : decode cX12_plays0 92 = .ok (.goto 4, 3) := by decide +kernel
theorem dX12_plays0_95 : decode cX12_plays0 95 = .ok (.iconst 0, 1) := by decide +kernel
theorem dX12_plays0_96 : decode cX12_plays0 96 = .ok (.iastore, 1) := by decide +kernel
theorem dX12_plays0_97 : decode cX12_plays0 97 = .ok (.iinc 7 1, 3) := by decide +kernel
theorem dX12_plays0_100 : decode cX12_plays0 100 = .ok (.goto (-38), 3) := by decide +kernel
theorem dX12_plays0_103 : decode cX12_plays0 103 = .ok (.iinc 6 1, 3) := by decide +kernel
theorem dX12_plays0_106 : decode cX12_plays0 106 = .ok (.goto (-80), 3) := by decide +kernel
theorem dX12_plays0_109 : decode cX12_plays0 109 = .ok (.return_, 1) := by decide +kernel
theorem dX12_atNow_0 : decode cX12_atNow 0 = .ok (.aload_n 0, 1) := by decide +kernel
theorem dX12_atNow_1 : decode cX12_atNow 1 = .ok (.invokevirtual 200, 3) := by decide +kernel
theorem dX12_atNow_4 : decode cX12_atNow 4 = .ok (.aload_n 0, 1) := by decide +kernel
theorem dX12_atNow_5 : decode cX12_atNow 5 = .ok (.invokevirtual 242, 3) := by decide +kernel
theorem dX12_atNow_8 : decode cX12_atNow 8 = .ok (.ireturn, 1) := by decide +kernel
theorem dX12_refuses_0 : decode cX12_refuses 0 = .ok (.aload_n 0, 1) := by decide +kernel
theorem dX12_refuses_1 : decode cX12_refuses 1 = .ok (.invokevirtual 200, 3) := by decide +kernel
theorem dX12_refuses_4 : decode cX12_refuses 4 = .ok (.iload_n 1, 1) := by decide +kernel
theorem dX12_refuses_5 : decode cX12_refuses 5 = .ok (.invokestatic 197, 3) := by decide +kernel
theorem dX12_refuses_8 : decode cX12_refuses 8 = .ok (.ifCond .ne 7, 3) := by decide +kernel
theorem dX12_refuses_11 : decode cX12_refuses 11 = .ok (.iconst 1, 1) := by decide +kernel
theorem dX12_refuses_12 : decode cX12_refuses 12 = .ok (.goto 29, 3) := by decide +kernel
theorem dX12_refuses_15 : decode cX12_refuses 15 = .ok (.iload_n 2, 1) := by decide +kernel
theorem dX12_refuses_16 : decode cX12_refuses 16 = .ok (.iconst 0, 1) := by decide +kernel
theorem dX12_refuses_17 : decode cX12_refuses 17 = .ok (.bipush 30, 2) := by decide +kernel
theorem dX12_refuses_19 : decode cX12_refuses 19 = .ok (.invokestatic 70, 3) := by decide +kernel
theorem dX12_refuses_22 : decode cX12_refuses 22 = .ok (.ifCond .ne 7, 3) := by decide +kernel
theorem dX12_refuses_25 : decode cX12_refuses 25 = .ok (.iconst 2, 1) := by decide +kernel
theorem dX12_refuses_26 : decode cX12_refuses 26 = .ok (.goto 15, 3) := by decide +kernel
theorem dX12_refuses_29 : decode cX12_refuses 29 = .ok (.aload_n 0, 1) := by decide +kernel
theorem dX12_refuses_30 : decode cX12_refuses 30 = .ok (.invokevirtual 227, 3) := by decide +kernel
theorem dX12_refuses_33 : decode cX12_refuses 33 = .ok (.ifCond .eq 7, 3) := by decide +kernel
theorem dX12_refuses_36 : decode cX12_refuses 36 = .ok (.iconst 3, 1) := by decide +kernel
theorem dX12_refuses_37 : decode cX12_refuses 37 = .ok (.goto 4, 3) := by decide +kernel
theorem dX12_refuses_40 : decode cX12_refuses 40 = .ok (.iconst 0, 1) := by decide +kernel
theorem dX12_refuses_41 : decode cX12_refuses 41 = .ok (.ireturn, 1) := by decide +kernel
theorem dX12_chance_0 : decode cX12_chance 0 = .ok (.aload_n 0, 1) := by decide +kernel
theorem dX12_chance_1 : decode cX12_chance 1 = .ok (.aload_n 0, 1) := by decide +kernel
theorem dX12_chance_2 : decode cX12_chance 2 = .ok (.iload_n 1, 1) := by decide +kernel
theorem dX12_chance_3 : decode cX12_chance 3 = .ok (.iload_n 2, 1) := by decide +kernel
theorem dX12_chance_4 : decode cX12_chance 4 = .ok (.invokevirtual 260, 3) := by decide +kernel
theorem dX12_chance_7 : decode cX12_chance 7 = .ok (.putfield 67, 3) := by decide +kernel
theorem dX12_chance_10 : decode cX12_chance 10 = .ok (.aload_n 0, 1) := by decide +kernel
theorem dX12_chance_11 : decode cX12_chance 11 = .ok (.getfield 67, 3) := by decide +kernel
theorem dX12_chance_14 : decode cX12_chance 14 = .ok (.ifCond .le 5, 3) := by decide +kernel
theorem dX12_chance_17 : decode cX12_chance 17 = .ok (.iconst 0, 1) := by decide +kernel
theorem dX12_chance_18 : decode cX12_chance 18 = .ok (.ireturn, 1) := by decide +kernel
theorem dX12_chance_19 : decode cX12_chance 19 = .ok (.aload_n 0, 1) := by decide +kernel
theorem dX12_chance_20 : decode cX12_chance 20 = .ok (.invokevirtual 263, 3) := by decide +kernel
theorem dX12_chance_23 : decode cX12_chance 23 = .ok (.aload_n 0, 1) := by decide +kernel
theorem dX12_chance_24 : decode cX12_chance 24 = .ok (.iload_n 1, 1) := by decide +kernel
theorem dX12_chance_25 : decode cX12_chance 25 = .ok (.iconst (-1), 1) := by decide +kernel
theorem dX12_chance_26 : decode cX12_chance 26 = .ok (.iload_n 2, 1) := by decide +kernel
theorem dX12_chance_27 : decode cX12_chance 27 = .ok (.aload_n 0, 1) := by decide +kernel
theorem dX12_chance_28 : decode cX12_chance 28 = .ok (.getfield 35, 3) := by decide +kernel
theorem dX12_chance_31 : decode cX12_chance 31 = .ok (.aload_n 0, 1) := by decide +kernel
theorem dX12_chance_32 : decode cX12_chance 32 = .ok (.getfield 38, 3) := by decide +kernel
theorem dX12_chance_35 : decode cX12_chance 35 = .ok (.invokevirtual 266, 3) := by decide +kernel
theorem dX12_chance_38 : decode cX12_chance 38 = .ok (.aload_n 0, 1) := by decide +kernel
theorem dX12_chance_39 : decode cX12_chance 39 = .ok (.getfield 35, 3) := by decide +kernel
theorem dX12_chance_42 : decode cX12_chance 42 = .ok (.aload_n 0, 1) := by decide +kernel
theorem dX12_chance_43 : decode cX12_chance 43 = .ok (.invokevirtual 270, 3) := by decide +kernel
theorem dX12_chance_46 : decode cX12_chance 46 = .ok (.iaload, 1) := by decide +kernel
theorem dX12_chance_47 : decode cX12_chance 47 = .ok (.ireturn, 1) := by decide +kernel
theorem dX12_best_0 : decode cX12_best 0 = .ok (.aload_n 0, 1) := by decide +kernel
theorem dX12_best_1 : decode cX12_best 1 = .ok (.aload_n 0, 1) := by decide +kernel
theorem dX12_best_2 : decode cX12_best 2 = .ok (.iload_n 1, 1) := by decide +kernel
theorem dX12_best_3 : decode cX12_best 3 = .ok (.iload_n 2, 1) := by decide +kernel
theorem dX12_best_4 : decode cX12_best 4 = .ok (.invokevirtual 260, 3) := by decide +kernel
theorem dX12_best_7 : decode cX12_best 7 = .ok (.putfield 67, 3) := by decide +kernel
theorem dX12_best_10 : decode cX12_best 10 = .ok (.aload_n 0, 1) := by decide +kernel
theorem dX12_best_11 : decode cX12_best 11 = .ok (.getfield 67, 3) := by decide +kernel
theorem dX12_best_14 : decode cX12_best 14 = .ok (.ifCond .le 5, 3) := by decide +kernel
theorem dX12_best_17 : decode cX12_best 17 = .ok (.iconst 0, 1) := by decide +kernel
theorem dX12_best_18 : decode cX12_best 18 = .ok (.ireturn, 1) := by decide +kernel
theorem dX12_best_19 : decode cX12_best 19 = .ok (.aload_n 0, 1) := by decide +kernel
theorem dX12_best_20 : decode cX12_best 20 = .ok (.invokevirtual 263, 3) := by decide +kernel
theorem dX12_best_23 : decode cX12_best 23 = .ok (.aload_n 0, 1) := by decide +kernel
theorem dX12_best_24 : decode cX12_best 24 = .ok (.invokevirtual 270, 3) := by decide +kernel
theorem dX12_best_27 : decode cX12_best 27 = .ok (.istore 4, 2) := by decide +kernel
theorem dX12_best_29 : decode cX12_best 29 = .ok (.iconst (-1), 1) := by decide +kernel
theorem dX12_best_30 : decode cX12_best 30 = .ok (.istore 5, 2) := by decide +kernel
theorem dX12_best_32 : decode cX12_best 32 = .ok (.iconst 0, 1) := by decide +kernel
theorem dX12_best_33 : decode cX12_best 33 = .ok (.istore 6, 2) := by decide +kernel
theorem dX12_best_35 : decode cX12_best 35 = .ok (.iload 6, 2) := by decide +kernel
theorem dX12_best_37 : decode cX12_best 37 = .ok (.sipush 15488, 3) := by decide +kernel
theorem dX12_best_40 : decode cX12_best 40 = .ok (.if_icmp .ge 17, 3) := by decide +kernel
theorem dX12_best_43 : decode cX12_best 43 = .ok (.aload_n 0, 1) := by decide +kernel
theorem dX12_best_44 : decode cX12_best 44 = .ok (.getfield 35, 3) := by decide +kernel
theorem dX12_best_47 : decode cX12_best 47 = .ok (.iload 6, 2) := by decide +kernel
theorem dX12_best_49 : decode cX12_best 49 = .ok (.iconst 0, 1) := by decide +kernel
theorem dX12_best_50 : decode cX12_best 50 = .ok (.iastore, 1) := by decide +kernel
theorem dX12_best_51 : decode cX12_best 51 = .ok (.iinc 6 1, 3) := by decide +kernel
theorem dX12_best_54 : decode cX12_best 54 = .ok (.goto (-19), 3) := by decide +kernel
theorem dX12_best_57 : decode cX12_best 57 = .ok (.iconst 0, 1) := by decide +kernel
theorem dX12_best_58 : decode cX12_best 58 = .ok (.istore 6, 2) := by decide +kernel
theorem dX12_best_60 : decode cX12_best 60 = .ok (.iload 6, 2) := by decide +kernel
theorem dX12_best_62 : decode cX12_best 62 = .ok (.iload_n 2, 1) := by decide +kernel
theorem dX12_best_63 : decode cX12_best 63 = .ok (.if_icmp .ge 199, 3) := by decide +kernel
theorem dX12_best_66 : decode cX12_best 66 = .ok (.iconst 0, 1) := by decide +kernel
theorem dX12_best_67 : decode cX12_best 67 = .ok (.istore 7, 2) := by decide +kernel
theorem dX12_best_69 : decode cX12_best 69 = .ok (.iload 7, 2) := by decide +kernel
theorem dX12_best_71 : decode cX12_best 71 = .ok (.sipush 15488, 3) := by decide +kernel
theorem dX12_best_74 : decode cX12_best 74 = .ok (.if_icmp .ge 23, 3) := by decide +kernel
theorem dX12_best_77 : decode cX12_best 77 = .ok (.aload_n 0, 1) := by decide +kernel
theorem dX12_best_78 : decode cX12_best 78 = .ok (.getfield 38, 3) := by decide +kernel
theorem dX12_best_81 : decode cX12_best 81 = .ok (.iload 7, 2) := by decide +kernel
theorem dX12_best_83 : decode cX12_best 83 = .ok (.aload_n 0, 1) := by decide +kernel
theorem dX12_best_84 : decode cX12_best 84 = .ok (.getfield 35, 3) := by decide +kernel
theorem dX12_best_87 : decode cX12_best 87 = .ok (.iload 7, 2) := by decide +kernel
theorem dX12_best_89 : decode cX12_best 89 = .ok (.iaload, 1) := by decide +kernel
theorem dX12_best_90 : decode cX12_best 90 = .ok (.iastore, 1) := by decide +kernel
theorem dX12_best_91 : decode cX12_best 91 = .ok (.iinc 7 1, 3) := by decide +kernel
theorem dX12_best_94 : decode cX12_best 94 = .ok (.goto (-25), 3) := by decide +kernel
theorem dX12_best_97 : decode cX12_best 97 = .ok (.iconst 0, 1) := by decide +kernel
theorem dX12_best_98 : decode cX12_best 98 = .ok (.istore 7, 2) := by decide +kernel
theorem dX12_best_100 : decode cX12_best 100 = .ok (.iload 7, 2) := by decide +kernel
theorem dX12_best_102 : decode cX12_best 102 = .ok (.sipush 15488, 3) := by decide +kernel
theorem dX12_best_105 : decode cX12_best 105 = .ok (.if_icmp .ge 151, 3) := by decide +kernel
theorem dX12_best_108 : decode cX12_best 108 = .ok (.iload 7, 2) := by decide +kernel
theorem dX12_best_110 : decode cX12_best 110 = .ok (.invokestatic 253, 3) := by decide +kernel
theorem dX12_best_113 : decode cX12_best 113 = .ok (.ifCond .ne 6, 3) := by decide +kernel
theorem dX12_best_116 : decode cX12_best 116 = .ok (.goto 134, 3) := by decide +kernel
theorem dX12_best_119 : decode cX12_best 119 = .ok (.iload 7, 2) := by decide +kernel
theorem dX12_best_121 : decode cX12_best 121 = .ok (.bipush 121, 2) := by decide +kernel
theorem dX12_best_123 : decode cX12_best 123 = .ok (.idiv, 1) := by decide +kernel
theorem dX12_best_124 : decode cX12_best 124 = .ok (.iconst 2, 1) := by decide +kernel
theorem dX12_best_125 : decode cX12_best 125 = .ok (.irem, 1) := by decide +kernel
theorem dX12_best_126 : decode cX12_best 126 = .ok (.istore 8, 2) := by decide +kernel
theorem dX12_best_128 : decode cX12_best 128 = .ok (.iconst (-1), 1) := by decide +kernel
theorem dX12_best_129 : decode cX12_best 129 = .ok (.istore 9, 2) := by decide +kernel
theorem dX12_best_131 : decode cX12_best 131 = .ok (.iconst 0, 1) := by decide +kernel
theorem dX12_best_132 : decode cX12_best 132 = .ok (.istore 10, 2) := by decide +kernel
theorem dX12_best_134 : decode cX12_best 134 = .ok (.iload 10, 2) := by decide +kernel
theorem dX12_best_136 : decode cX12_best 136 = .ok (.iconst 4, 1) := by decide +kernel
theorem dX12_best_137 : decode cX12_best 137 = .ok (.if_icmp .ge 104, 3) := by decide +kernel
theorem dX12_best_140 : decode cX12_best 140 = .ok (.iload 8, 2) := by decide +kernel
theorem dX12_best_142 : decode cX12_best 142 = .ok (.iload_n 1, 1) := by decide +kernel
theorem dX12_best_143 : decode cX12_best 143 = .ok (.if_icmp .ne 33, 3) := by decide +kernel
theorem dX12_best_146 : decode cX12_best 146 = .ok (.aload_n 0, 1) := by decide +kernel
theorem dX12_best_147 : decode cX12_best 147 = .ok (.iload 7, 2) := by decide +kernel
theorem dX12_best_149 : decode cX12_best 149 = .ok (.iload 10, 2) := by decide +kernel
theorem dX12_best_151 : decode cX12_best 151 = .ok (.aload_n 0, 1) := by decide +kernel
theorem dX12_best_152 : decode cX12_best 152 = .ok (.getfield 32, 3) := by decide +kernel
theorem dX12_best_155 : decode cX12_best 155 = .ok (.iconst 2, 1) := by decide +kernel
theorem dX12_best_156 : decode cX12_best 156 = .ok (.iload 7, 2) := by decide +kernel
theorem dX12_best_158 : decode cX12_best 158 = .ok (.imul, 1) := by decide +kernel
theorem dX12_best_159 : decode cX12_best 159 = .ok (.iconst 1, 1) := by decide +kernel
theorem dX12_best_160 : decode cX12_best 160 = .ok (.iadd, 1) := by decide +kernel
theorem dX12_best_161 : decode cX12_best 161 = .ok (.iload_n 1, 1) := by decide +kernel
theorem dX12_best_162 : decode cX12_best 162 = .ok (.isub, 1) := by decide +kernel
theorem dX12_best_163 : decode cX12_best 163 = .ok (.iaload, 1) := by decide +kernel
theorem dX12_best_164 : decode cX12_best 164 = .ok (.iload_n 1, 1) := by decide +kernel
theorem dX12_best_165 : decode cX12_best 165 = .ok (.iconst (-1), 1) := by decide +kernel
theorem dX12_best_166 : decode cX12_best 166 = .ok (.aload_n 0, 1) := by decide +kernel
theorem dX12_best_167 : decode cX12_best 167 = .ok (.getfield 38, 3) := by decide +kernel
theorem dX12_best_170 : decode cX12_best 170 = .ok (.invokevirtual 249, 3) := by decide +kernel
theorem dX12_best_173 : decode cX12_best 173 = .ok (.goto 30, 3) := by decide +kernel
theorem dX12_best_176 : decode cX12_best 176 = .ok (.aload_n 0, 1) := by decide +kernel
theorem dX12_best_177 : decode cX12_best 177 = .ok (.iload 7, 2) := by decide +kernel
theorem dX12_best_179 : decode cX12_best 179 = .ok (.aload_n 0, 1) := by decide +kernel
theorem dX12_best_180 : decode cX12_best 180 = .ok (.getfield 32, 3) := by decide +kernel
theorem dX12_best_183 : decode cX12_best 183 = .ok (.iconst 2, 1) := by decide +kernel
theorem dX12_best_184 : decode cX12_best 184 = .ok (.iload 7, 2) := by decide +kernel
theorem dX12_best_186 : decode cX12_best 186 = .ok (.imul, 1) := by decide +kernel
theorem dX12_best_187 : decode cX12_best 187 = .ok (.iconst 1, 1) := by decide +kernel
theorem dX12_best_188 : decode cX12_best 188 = .ok (.iadd, 1) := by decide +kernel
theorem dX12_best_189 : decode cX12_best 189 = .ok (.iload_n 1, 1) := by decide +kernel
theorem dX12_best_190 : decode cX12_best 190 = .ok (.isub, 1) := by decide +kernel
theorem dX12_best_191 : decode cX12_best 191 = .ok (.iaload, 1) := by decide +kernel
theorem dX12_best_192 : decode cX12_best 192 = .ok (.iload 10, 2) := by decide +kernel
theorem dX12_best_194 : decode cX12_best 194 = .ok (.iload_n 1, 1) := by decide +kernel
theorem dX12_best_195 : decode cX12_best 195 = .ok (.iconst (-1), 1) := by decide +kernel
theorem dX12_best_196 : decode cX12_best 196 = .ok (.aload_n 0, 1) := by decide +kernel
theorem dX12_best_197 : decode cX12_best 197 = .ok (.getfield 38, 3) := by decide +kernel
theorem dX12_best_200 : decode cX12_best 200 = .ok (.invokevirtual 249, 3) := by decide +kernel
theorem dX12_best_203 : decode cX12_best 203 = .ok (.istore 11, 2) := by decide +kernel
theorem dX12_best_205 : decode cX12_best 205 = .ok (.iload 11, 2) := by decide +kernel
theorem dX12_best_207 : decode cX12_best 207 = .ok (.iload 9, 2) := by decide +kernel
theorem dX12_best_209 : decode cX12_best 209 = .ok (.if_icmp .gt 6, 3) := by decide +kernel
theorem dX12_best_212 : decode cX12_best 212 = .ok (.goto 23, 3) := by decide +kernel
theorem dX12_best_215 : decode cX12_best 215 = .ok (.iload 11, 2) := by decide +kernel
theorem dX12_best_217 : decode cX12_best 217 = .ok (.istore 9, 2) := by decide +kernel
theorem dX12_best_219 : decode cX12_best 219 = .ok (.iload 7, 2) := by decide +kernel
theorem dX12_best_221 : decode cX12_best 221 = .ok (.iload 4, 2) := by decide +kernel
theorem dX12_best_223 : decode cX12_best 223 = .ok (.if_icmp .ne 8, 3) := by decide +kernel
theorem dX12_best_226 : decode cX12_best 226 = .ok (.iload 10, 2) := by decide +kernel
theorem dX12_best_228 : decode cX12_best 228 = .ok (.goto 5, 3) := by decide +kernel
theorem dX12_best_231 : decode cX12_best 231 = .ok (.iload 5, 2) := by decide +kernel
theorem dX12_best_233 : decode cX12_best 233 = .ok (.istore 5, 2) := by decide +kernel
theorem dX12_best_235 : decode cX12_best 235 = .ok (.iinc 10 1, 3) := by decide +kernel
theorem dX12_best_238 : decode cX12_best 238 = .ok (.goto (-104), 3) := by decide +kernel
theorem dX12_best_241 : decode cX12_best 241 = .ok (.aload_n 0, 1) := by decide +kernel
theorem dX12_best_242 : decode cX12_best 242 = .ok (.getfield 35, 3) := by decide +kernel
theorem dX12_best_245 : decode cX12_best 245 = .ok (.iload 7, 2) := by decide +kernel
theorem dX12_best_247 : decode cX12_best 247 = .ok (.iload 9, 2) := by decide +kernel
theorem dX12_best_249 : decode cX12_best 249 = .ok (.iastore, 1) := by decide +kernel
theorem dX12_best_250 : decode cX12_best 250 = .ok (.iinc 7 1, 3) := by decide +kernel
theorem dX12_best_253 : decode cX12_best 253 = .ok (.goto (-153), 3) := by decide +kernel
theorem dX12_best_256 : decode cX12_best 256 = .ok (.iinc 6 1, 3) := by decide +kernel
theorem dX12_best_259 : decode cX12_best 259 = .ok (.goto (-199), 3) := by decide +kernel
theorem dX12_best_262 : decode cX12_best 262 = .ok (.iload_n 3, 1) := by decide +kernel
theorem dX12_best_263 : decode cX12_best 263 = .ok (.ifCond .eq 8, 3) := by decide +kernel
theorem dX12_best_266 : decode cX12_best 266 = .ok (.iload 5, 2) := by decide +kernel
theorem dX12_best_268 : decode cX12_best 268 = .ok (.goto 10, 3) := by decide +kernel
theorem dX12_best_271 : decode cX12_best 271 = .ok (.aload_n 0, 1) := by decide +kernel
theorem dX12_best_272 : decode cX12_best 272 = .ok (.getfield 35, 3) := by decide +kernel
theorem dX12_best_275 : decode cX12_best 275 = .ok (.iload 4, 2) := by decide +kernel
theorem dX12_best_277 : decode cX12_best 277 = .ok (.iaload, 1) := by decide +kernel
theorem dX12_best_278 : decode cX12_best 278 = .ok (.ireturn, 1) := by decide +kernel
theorem dX12_saves_0 : decode cX12_saves 0 = .ok (.aload_n 0, 1) := by decide +kernel
theorem dX12_saves_1 : decode cX12_saves 1 = .ok (.aload_n 0, 1) := by decide +kernel
theorem dX12_saves_2 : decode cX12_saves 2 = .ok (.iload_n 1, 1) := by decide +kernel
theorem dX12_saves_3 : decode cX12_saves 3 = .ok (.iload_n 2, 1) := by decide +kernel
theorem dX12_saves_4 : decode cX12_saves 4 = .ok (.invokevirtual 260, 3) := by decide +kernel
theorem dX12_saves_7 : decode cX12_saves 7 = .ok (.putfield 67, 3) := by decide +kernel
theorem dX12_saves_10 : decode cX12_saves 10 = .ok (.aload_n 0, 1) := by decide +kernel
theorem dX12_saves_11 : decode cX12_saves 11 = .ok (.getfield 67, 3) := by decide +kernel
theorem dX12_saves_14 : decode cX12_saves 14 = .ok (.ifCond .ne 17, 3) := by decide +kernel
theorem dX12_saves_17 : decode cX12_saves 17 = .ok (.iload_n 3, 1) := by decide +kernel
theorem dX12_saves_18 : decode cX12_saves 18 = .ok (.iconst 0, 1) := by decide +kernel
theorem dX12_saves_19 : decode cX12_saves 19 = .ok (.iconst 2, 1) := by decide +kernel
theorem dX12_saves_20 : decode cX12_saves 20 = .ok (.invokestatic 70, 3) := by decide +kernel
theorem dX12_saves_23 : decode cX12_saves 23 = .ok (.ifCond .ne 8, 3) := by decide +kernel
theorem dX12_saves_26 : decode cX12_saves 26 = .ok (.aload_n 0, 1) := by decide +kernel
theorem dX12_saves_27 : decode cX12_saves 27 = .ok (.iconst 4, 1) := by decide +kernel
theorem dX12_saves_28 : decode cX12_saves 28 = .ok (.putfield 67, 3) := by decide +kernel
theorem dX12_saves_31 : decode cX12_saves 31 = .ok (.aload_n 0, 1) := by decide +kernel
theorem dX12_saves_32 : decode cX12_saves 32 = .ok (.getfield 67, 3) := by decide +kernel
theorem dX12_saves_35 : decode cX12_saves 35 = .ok (.ifCond .le 5, 3) := by decide +kernel
theorem dX12_saves_38 : decode cX12_saves 38 = .ok (.iconst 0, 1) := by decide +kernel
theorem dX12_saves_39 : decode cX12_saves 39 = .ok (.ireturn, 1) := by decide +kernel
theorem dX12_saves_40 : decode cX12_saves 40 = .ok (.aload_n 0, 1) := by decide +kernel
theorem dX12_saves_41 : decode cX12_saves 41 = .ok (.invokevirtual 263, 3) := by decide +kernel
theorem dX12_saves_44 : decode cX12_saves 44 = .ok (.aload_n 0, 1) := by decide +kernel
theorem dX12_saves_45 : decode cX12_saves 45 = .ok (.invokevirtual 270, 3) := by decide +kernel
theorem dX12_saves_48 : decode cX12_saves 48 = .ok (.istore 4, 2) := by decide +kernel
theorem dX12_saves_50 : decode cX12_saves 50 = .ok (.iconst 0, 1) := by decide +kernel
theorem dX12_saves_51 : decode cX12_saves 51 = .ok (.istore 5, 2) := by decide +kernel
theorem dX12_saves_53 : decode cX12_saves 53 = .ok (.iconst 0, 1) := by decide +kernel
theorem dX12_saves_54 : decode cX12_saves 54 = .ok (.istore 6, 2) := by decide +kernel
theorem dX12_saves_56 : decode cX12_saves 56 = .ok (.iload 6, 2) := by decide +kernel
theorem dX12_saves_58 : decode cX12_saves 58 = .ok (.sipush 15488, 3) := by decide +kernel
theorem dX12_saves_61 : decode cX12_saves 61 = .ok (.if_icmp .ge 25, 3) := by decide +kernel
theorem dX12_saves_64 : decode cX12_saves 64 = .ok (.aload_n 0, 1) := by decide +kernel
theorem dX12_saves_65 : decode cX12_saves 65 = .ok (.getfield 35, 3) := by decide +kernel
theorem dX12_saves_68 : decode cX12_saves 68 = .ok (.iload 6, 2) := by decide +kernel
theorem dX12_saves_70 : decode cX12_saves 70 = .ok (.iconst 0, 1) := by decide +kernel
theorem dX12_saves_71 : decode cX12_saves 71 = .ok (.iastore, 1) := by decide +kernel
theorem dX12_saves_72 : decode cX12_saves 72 = .ok (.aload_n 0, 1) := by decide +kernel
theorem dX12_saves_73 : decode cX12_saves 73 = .ok (.getfield 41, 3) := by decide +kernel
theorem dX12_saves_76 : decode cX12_saves 76 = .ok (.iload 6, 2) := by decide +kernel
theorem dX12_saves_78 : decode cX12_saves 78 = .ok (.iconst 0, 1) := by decide +kernel
theorem dX12_saves_79 : decode cX12_saves 79 = .ok (.iastore, 1) := by decide +kernel
theorem dX12_saves_80 : decode cX12_saves 80 = .ok (.iinc 6 1, 3) := by decide +kernel
theorem dX12_saves_83 : decode cX12_saves 83 = .ok (.goto (-27), 3) := by decide +kernel
theorem dX12_saves_86 : decode cX12_saves 86 = .ok (.iconst 0, 1) := by decide +kernel
theorem dX12_saves_87 : decode cX12_saves 87 = .ok (.istore 6, 2) := by decide +kernel
theorem dX12_saves_89 : decode cX12_saves 89 = .ok (.iload 6, 2) := by decide +kernel
theorem dX12_saves_91 : decode cX12_saves 91 = .ok (.iload_n 2, 1) := by decide +kernel
theorem dX12_saves_92 : decode cX12_saves 92 = .ok (.if_icmp .ge 222, 3) := by decide +kernel
theorem dX12_saves_95 : decode cX12_saves 95 = .ok (.iconst 0, 1) := by decide +kernel
theorem dX12_saves_96 : decode cX12_saves 96 = .ok (.istore 7, 2) := by decide +kernel
theorem dX12_saves_98 : decode cX12_saves 98 = .ok (.iload 7, 2) := by decide +kernel
theorem dX12_saves_100 : decode cX12_saves 100 = .ok (.sipush 15488, 3) := by decide +kernel
theorem dX12_saves_103 : decode cX12_saves 103 = .ok (.if_icmp .ge 37, 3) := by decide +kernel
theorem dX12_saves_106 : decode cX12_saves 106 = .ok (.aload_n 0, 1) := by decide +kernel
theorem dX12_saves_107 : decode cX12_saves 107 = .ok (.getfield 38, 3) := by decide +kernel
theorem dX12_saves_110 : decode cX12_saves 110 = .ok (.iload 7, 2) := by decide +kernel
theorem dX12_saves_112 : decode cX12_saves 112 = .ok (.aload_n 0, 1) := by decide +kernel
theorem dX12_saves_113 : decode cX12_saves 113 = .ok (.getfield 35, 3) := by decide +kernel
theorem dX12_saves_116 : decode cX12_saves 116 = .ok (.iload 7, 2) := by decide +kernel
theorem dX12_saves_118 : decode cX12_saves 118 = .ok (.iaload, 1) := by decide +kernel
theorem dX12_saves_119 : decode cX12_saves 119 = .ok (.iastore, 1) := by decide +kernel
theorem dX12_saves_120 : decode cX12_saves 120 = .ok (.aload_n 0, 1) := by decide +kernel
theorem dX12_saves_121 : decode cX12_saves 121 = .ok (.getfield 44, 3) := by decide +kernel
theorem dX12_saves_124 : decode cX12_saves 124 = .ok (.iload 7, 2) := by decide +kernel
theorem dX12_saves_126 : decode cX12_saves 126 = .ok (.aload_n 0, 1) := by decide +kernel
theorem dX12_saves_127 : decode cX12_saves 127 = .ok (.getfield 41, 3) := by decide +kernel
theorem dX12_saves_130 : decode cX12_saves 130 = .ok (.iload 7, 2) := by decide +kernel
theorem dX12_saves_132 : decode cX12_saves 132 = .ok (.iaload, 1) := by decide +kernel
theorem dX12_saves_133 : decode cX12_saves 133 = .ok (.iastore, 1) := by decide +kernel
theorem dX12_saves_134 : decode cX12_saves 134 = .ok (.iinc 7 1, 3) := by decide +kernel
theorem dX12_saves_137 : decode cX12_saves 137 = .ok (.goto (-39), 3) := by decide +kernel
theorem dX12_saves_140 : decode cX12_saves 140 = .ok (.iconst 0, 1) := by decide +kernel
theorem dX12_saves_141 : decode cX12_saves 141 = .ok (.istore 7, 2) := by decide +kernel
theorem dX12_saves_143 : decode cX12_saves 143 = .ok (.iload 7, 2) := by decide +kernel
theorem dX12_saves_145 : decode cX12_saves 145 = .ok (.sipush 15488, 3) := by decide +kernel
theorem dX12_saves_148 : decode cX12_saves 148 = .ok (.if_icmp .ge 40, 3) := by decide +kernel
theorem dX12_saves_151 : decode cX12_saves 151 = .ok (.aload_n 0, 1) := by decide +kernel
theorem dX12_saves_152 : decode cX12_saves 152 = .ok (.getfield 41, 3) := by decide +kernel
theorem dX12_saves_155 : decode cX12_saves 155 = .ok (.iload 7, 2) := by decide +kernel
theorem dX12_saves_157 : decode cX12_saves 157 = .ok (.iload 7, 2) := by decide +kernel
theorem dX12_saves_159 : decode cX12_saves 159 = .ok (.invokestatic 253, 3) := by decide +kernel
theorem dX12_saves_162 : decode cX12_saves 162 = .ok (.ifCond .eq 18, 3) := by decide +kernel
theorem dX12_saves_165 : decode cX12_saves 165 = .ok (.aload_n 0, 1) := by decide +kernel
theorem dX12_saves_166 : decode cX12_saves 166 = .ok (.iload 7, 2) := by decide +kernel
theorem dX12_saves_168 : decode cX12_saves 168 = .ok (.iload_n 1, 1) := by decide +kernel
theorem dX12_saves_169 : decode cX12_saves 169 = .ok (.iconst (-1), 1) := by decide +kernel
theorem dX12_saves_170 : decode cX12_saves 170 = .ok (.aload_n 0, 1) := by decide +kernel
theorem dX12_saves_171 : decode cX12_saves 171 = .ok (.getfield 44, 3) := by decide +kernel
theorem dX12_saves_174 : decode cX12_saves 174 = .ok (.invokevirtual 256, 3) := by decide +kernel
theorem dX12_saves_177 : decode cX12_saves 177 = .ok (.goto 4, 3) := by decide +kernel
theorem dX12_saves_180 : decode cX12_saves 180 = .ok (.iconst 0, 1) := by decide +kernel
theorem dX12_saves_181 : decode cX12_saves 181 = .ok (.iastore, 1) := by decide +kernel
theorem dX12_saves_182 : decode cX12_saves 182 = .ok (.iinc 7 1, 3) := by decide +kernel
theorem dX12_saves_185 : decode cX12_saves 185 = .ok (.goto (-42), 3) := by decide +kernel
theorem dX12_saves_188 : decode cX12_saves 188 = .ok (.iconst 0, 1) := by decide +kernel
theorem dX12_saves_189 : decode cX12_saves 189 = .ok (.istore 7, 2) := by decide +kernel
theorem dX12_saves_191 : decode cX12_saves 191 = .ok (.iload 7, 2) := by decide +kernel
theorem dX12_saves_193 : decode cX12_saves 193 = .ok (.sipush 15488, 3) := by decide +kernel
theorem dX12_saves_196 : decode cX12_saves 196 = .ok (.if_icmp .ge 112, 3) := by decide +kernel
theorem dX12_saves_199 : decode cX12_saves 199 = .ok (.iload 7, 2) := by decide +kernel
theorem dX12_saves_201 : decode cX12_saves 201 = .ok (.invokestatic 253, 3) := by decide +kernel
theorem dX12_saves_204 : decode cX12_saves 204 = .ok (.ifCond .ne 6, 3) := by decide +kernel
theorem dX12_saves_207 : decode cX12_saves 207 = .ok (.goto 95, 3) := by decide +kernel
theorem dX12_saves_210 : decode cX12_saves 210 = .ok (.aload_n 0, 1) := by decide +kernel
theorem dX12_saves_211 : decode cX12_saves 211 = .ok (.iload 7, 2) := by decide +kernel
theorem dX12_saves_213 : decode cX12_saves 213 = .ok (.iload_n 1, 1) := by decide +kernel
theorem dX12_saves_214 : decode cX12_saves 214 = .ok (.iconst (-1), 1) := by decide +kernel
theorem dX12_saves_215 : decode cX12_saves 215 = .ok (.aload_n 0, 1) := by decide +kernel
theorem dX12_saves_216 : decode cX12_saves 216 = .ok (.getfield 38, 3) := by decide +kernel
theorem dX12_saves_219 : decode cX12_saves 219 = .ok (.invokevirtual 256, 3) := by decide +kernel
theorem dX12_saves_222 : decode cX12_saves 222 = .ok (.istore 8, 2) := by decide +kernel
theorem dX12_saves_224 : decode cX12_saves 224 = .ok (.aload_n 0, 1) := by decide +kernel
theorem dX12_saves_225 : decode cX12_saves 225 = .ok (.iload 7, 2) := by decide +kernel
theorem dX12_saves_227 : decode cX12_saves 227 = .ok (.invokevirtual 239, 3) := by decide +kernel
theorem dX12_saves_230 : decode cX12_saves 230 = .ok (.aload_n 0, 1) := by decide +kernel
theorem dX12_saves_231 : decode cX12_saves 231 = .ok (.iload_n 1, 1) := by decide +kernel
theorem dX12_saves_232 : decode cX12_saves 232 = .ok (.invokevirtual 236, 3) := by decide +kernel
theorem dX12_saves_235 : decode cX12_saves 235 = .ok (.aload_n 0, 1) := by decide +kernel
theorem dX12_saves_236 : decode cX12_saves 236 = .ok (.getfield 215, 3) := by decide +kernel
theorem dX12_saves_239 : decode cX12_saves 239 = .ok (.iload_n 1, 1) := by decide +kernel
theorem dX12_saves_240 : decode cX12_saves 240 = .ok (.if_icmp .ne 9, 3) := by decide +kernel
theorem dX12_saves_243 : decode cX12_saves 243 = .ok (.ldc_w 273, 3) := by decide +kernel
theorem dX12_saves_246 : decode cX12_saves 246 = .ok (.goto 12, 3) := by decide +kernel
theorem dX12_saves_249 : decode cX12_saves 249 = .ok (.aload_n 0, 1) := by decide +kernel
theorem dX12_saves_250 : decode cX12_saves 250 = .ok (.getfield 41, 3) := by decide +kernel
theorem dX12_saves_253 : decode cX12_saves 253 = .ok (.aload_n 0, 1) := by decide +kernel
theorem dX12_saves_254 : decode cX12_saves 254 = .ok (.invokevirtual 242, 3) := by decide +kernel
theorem dX12_saves_257 : decode cX12_saves 257 = .ok (.iaload, 1) := by decide +kernel
theorem dX12_saves_258 : decode cX12_saves 258 = .ok (.istore 9, 2) := by decide +kernel
theorem dX12_saves_260 : decode cX12_saves 260 = .ok (.aload_n 0, 1) := by decide +kernel
theorem dX12_saves_261 : decode cX12_saves 261 = .ok (.getfield 35, 3) := by decide +kernel
theorem dX12_saves_264 : decode cX12_saves 264 = .ok (.iload 7, 2) := by decide +kernel
theorem dX12_saves_266 : decode cX12_saves 266 = .ok (.iload 9, 2) := by decide +kernel
theorem dX12_saves_268 : decode cX12_saves 268 = .ok (.iload 8, 2) := by decide +kernel
theorem dX12_saves_270 : decode cX12_saves 270 = .ok (.if_icmp .le 8, 3) := by decide +kernel
theorem dX12_saves_273 : decode cX12_saves 273 = .ok (.iload 9, 2) := by decide +kernel
theorem dX12_saves_275 : decode cX12_saves 275 = .ok (.goto 5, 3) := by decide +kernel
theorem dX12_saves_278 : decode cX12_saves 278 = .ok (.iload 8, 2) := by decide +kernel
theorem dX12_saves_280 : decode cX12_saves 280 = .ok (.iastore, 1) := by decide +kernel
theorem dX12_saves_281 : decode cX12_saves 281 = .ok (.iload 7, 2) := by decide +kernel
theorem dX12_saves_283 : decode cX12_saves 283 = .ok (.iload 4, 2) := by decide +kernel
theorem dX12_saves_285 : decode cX12_saves 285 = .ok (.if_icmp .ne 17, 3) := by decide +kernel
theorem dX12_saves_288 : decode cX12_saves 288 = .ok (.iload 9, 2) := by decide +kernel
theorem dX12_saves_290 : decode cX12_saves 290 = .ok (.iload 8, 2) := by decide +kernel
theorem dX12_saves_292 : decode cX12_saves 292 = .ok (.if_icmp .le 7, 3) := by decide +kernel
theorem dX12_saves_295 : decode cX12_saves 295 = .ok (.iconst 1, 1) := by decide +kernel
theorem dX12_saves_296 : decode cX12_saves 296 = .ok (.goto 4, 3) := by decide +kernel
theorem dX12_saves_299 : decode cX12_saves 299 = .ok (.iconst 0, 1) := by decide +kernel
theorem dX12_saves_300 : decode cX12_saves 300 = .ok (.istore 5, 2) := by decide +kernel
theorem dX12_saves_302 : decode cX12_saves 302 = .ok (.iinc 7 1, 3) := by decide +kernel
theorem dX12_saves_305 : decode cX12_saves 305 = .ok (.goto (-114), 3) := by decide +kernel
theorem dX12_saves_308 : decode cX12_saves 308 = .ok (.iinc 6 1, 3) := by decide +kernel
theorem dX12_saves_311 : decode cX12_saves 311 = .ok (.goto (-222), 3) := by decide +kernel
theorem dX12_saves_314 : decode cX12_saves 314 = .ok (.iload_n 3, 1) := by decide +kernel
theorem dX12_saves_315 : decode cX12_saves 315 = .ok (.ifCond .ne 13, 3) := by decide +kernel
theorem dX12_saves_318 : decode cX12_saves 318 = .ok (.aload_n 0, 1) := by decide +kernel
theorem dX12_saves_319 : decode cX12_saves 319 = .ok (.getfield 35, 3) := by decide +kernel
theorem dX12_saves_322 : decode cX12_saves 322 = .ok (.iload 4, 2) := by decide +kernel
theorem dX12_saves_324 : decode cX12_saves 324 = .ok (.iaload, 1) := by decide +kernel
theorem dX12_saves_325 : decode cX12_saves 325 = .ok (.goto 28, 3) := by decide +kernel
theorem dX12_saves_328 : decode cX12_saves 328 = .ok (.iload_n 3, 1) := by decide +kernel
theorem dX12_saves_329 : decode cX12_saves 329 = .ok (.iconst 1, 1) := by decide +kernel
theorem dX12_saves_330 : decode cX12_saves 330 = .ok (.if_icmp .ne 8, 3) := by decide +kernel
theorem dX12_saves_333 : decode cX12_saves 333 = .ok (.iload 5, 2) := by decide +kernel
theorem dX12_saves_335 : decode cX12_saves 335 = .ok (.goto 18, 3) := by decide +kernel
theorem dX12_saves_338 : decode cX12_saves 338 = .ok (.aload_n 0, 1) := by decide +kernel
theorem dX12_saves_339 : decode cX12_saves 339 = .ok (.getfield 35, 3) := by decide +kernel
theorem dX12_saves_342 : decode cX12_saves 342 = .ok (.iload 4, 2) := by decide +kernel
theorem dX12_saves_344 : decode cX12_saves 344 = .ok (.iaload, 1) := by decide +kernel
theorem dX12_saves_345 : decode cX12_saves 345 = .ok (.aload_n 0, 1) := by decide +kernel
theorem dX12_saves_346 : decode cX12_saves 346 = .ok (.getfield 41, 3) := by decide +kernel
theorem dX12_saves_349 : decode cX12_saves 349 = .ok (.iload 4, 2) := by decide +kernel
theorem dX12_saves_351 : decode cX12_saves 351 = .ok (.iaload, 1) := by decide +kernel
theorem dX12_saves_352 : decode cX12_saves 352 = .ok (.isub, 1) := by decide +kernel
theorem dX12_saves_353 : decode cX12_saves 353 = .ok (.ireturn, 1) := by decide +kernel
theorem dX12_worth_0 : decode cX12_worth 0 = .ok (.aload_n 0, 1) := by decide +kernel
theorem dX12_worth_1 : decode cX12_worth 1 = .ok (.iload_n 1, 1) := by decide +kernel
theorem dX12_worth_2 : decode cX12_worth 2 = .ok (.invokestatic 197, 3) := by decide +kernel
theorem dX12_worth_5 : decode cX12_worth 5 = .ok (.ifCond .eq 13, 3) := by decide +kernel
theorem dX12_worth_8 : decode cX12_worth 8 = .ok (.iload_n 2, 1) := by decide +kernel
theorem dX12_worth_9 : decode cX12_worth 9 = .ok (.iconst 0, 1) := by decide +kernel
theorem dX12_worth_10 : decode cX12_worth 10 = .ok (.bipush 9, 2) := by decide +kernel
theorem dX12_worth_12 : decode cX12_worth 12 = .ok (.invokestatic 70, 3) := by decide +kernel
theorem dX12_worth_15 : decode cX12_worth 15 = .ok (.ifCond .ne 7, 3) := by decide +kernel
theorem dX12_worth_18 : decode cX12_worth 18 = .ok (.iconst 1, 1) := by decide +kernel
theorem dX12_worth_19 : decode cX12_worth 19 = .ok (.goto 9, 3) := by decide +kernel
theorem dX12_worth_22 : decode cX12_worth 22 = .ok (.aload_n 0, 1) := by decide +kernel
theorem dX12_worth_23 : decode cX12_worth 23 = .ok (.iload_n 1, 1) := by decide +kernel
theorem dX12_worth_24 : decode cX12_worth 24 = .ok (.iload_n 3, 1) := by decide +kernel
theorem dX12_worth_25 : decode cX12_worth 25 = .ok (.invokevirtual 260, 3) := by decide +kernel
theorem dX12_worth_28 : decode cX12_worth 28 = .ok (.putfield 67, 3) := by decide +kernel
theorem dX12_worth_31 : decode cX12_worth 31 = .ok (.aload_n 0, 1) := by decide +kernel
theorem dX12_worth_32 : decode cX12_worth 32 = .ok (.getfield 67, 3) := by decide +kernel
theorem dX12_worth_35 : decode cX12_worth 35 = .ok (.ifCond .le 5, 3) := by decide +kernel
theorem dX12_worth_38 : decode cX12_worth 38 = .ok (.iconst 0, 1) := by decide +kernel
theorem dX12_worth_39 : decode cX12_worth 39 = .ok (.ireturn, 1) := by decide +kernel
theorem dX12_worth_40 : decode cX12_worth 40 = .ok (.aload_n 0, 1) := by decide +kernel
theorem dX12_worth_41 : decode cX12_worth 41 = .ok (.invokevirtual 200, 3) := by decide +kernel
theorem dX12_worth_44 : decode cX12_worth 44 = .ok (.aload_n 0, 1) := by decide +kernel
theorem dX12_worth_45 : decode cX12_worth 45 = .ok (.getfield 29, 3) := by decide +kernel
theorem dX12_worth_48 : decode cX12_worth 48 = .ok (.bipush 6, 2) := by decide +kernel
theorem dX12_worth_50 : decode cX12_worth 50 = .ok (.iaload, 1) := by decide +kernel
theorem dX12_worth_51 : decode cX12_worth 51 = .ok (.iconst 1, 1) := by decide +kernel
theorem dX12_worth_52 : decode cX12_worth 52 = .ok (.if_icmp .ne 7, 3) := by decide +kernel
theorem dX12_worth_55 : decode cX12_worth 55 = .ok (.ldc_w 274, 3) := by decide +kernel
theorem dX12_worth_58 : decode cX12_worth 58 = .ok (.ireturn, 1) := by decide +kernel
theorem dX12_worth_59 : decode cX12_worth 59 = .ok (.aload_n 0, 1) := by decide +kernel
theorem dX12_worth_60 : decode cX12_worth 60 = .ok (.invokevirtual 263, 3) := by decide +kernel
theorem dX12_worth_63 : decode cX12_worth 63 = .ok (.aload_n 0, 1) := by decide +kernel
theorem dX12_worth_64 : decode cX12_worth 64 = .ok (.iload_n 1, 1) := by decide +kernel
theorem dX12_worth_65 : decode cX12_worth 65 = .ok (.iconst (-1), 1) := by decide +kernel
theorem dX12_worth_66 : decode cX12_worth 66 = .ok (.iload_n 3, 1) := by decide +kernel
theorem dX12_worth_67 : decode cX12_worth 67 = .ok (.aload_n 0, 1) := by decide +kernel
theorem dX12_worth_68 : decode cX12_worth 68 = .ok (.getfield 35, 3) := by decide +kernel
theorem dX12_worth_71 : decode cX12_worth 71 = .ok (.aload_n 0, 1) := by decide +kernel
theorem dX12_worth_72 : decode cX12_worth 72 = .ok (.getfield 38, 3) := by decide +kernel
theorem dX12_worth_75 : decode cX12_worth 75 = .ok (.invokevirtual 266, 3) := by decide +kernel
theorem dX12_worth_78 : decode cX12_worth 78 = .ok (.aload_n 0, 1) := by decide +kernel
theorem dX12_worth_79 : decode cX12_worth 79 = .ok (.getfield 35, 3) := by decide +kernel
theorem dX12_worth_82 : decode cX12_worth 82 = .ok (.aload_n 0, 1) := by decide +kernel
theorem dX12_worth_83 : decode cX12_worth 83 = .ok (.invokevirtual 270, 3) := by decide +kernel
theorem dX12_worth_86 : decode cX12_worth 86 = .ok (.iaload, 1) := by decide +kernel
theorem dX12_worth_87 : decode cX12_worth 87 = .ok (.istore 4, 2) := by decide +kernel
theorem dX12_worth_89 : decode cX12_worth 89 = .ok (.aload_n 0, 1) := by decide +kernel
theorem dX12_worth_90 : decode cX12_worth 90 = .ok (.invokevirtual 200, 3) := by decide +kernel
theorem dX12_worth_93 : decode cX12_worth 93 = .ok (.aload_n 0, 1) := by decide +kernel
theorem dX12_worth_94 : decode cX12_worth 94 = .ok (.iconst 2, 1) := by decide +kernel
theorem dX12_worth_95 : decode cX12_worth 95 = .ok (.iload_n 2, 1) := by decide +kernel
theorem dX12_worth_96 : decode cX12_worth 96 = .ok (.iadd, 1) := by decide +kernel
theorem dX12_worth_97 : decode cX12_worth 97 = .ok (.invokevirtual 230, 3) := by decide +kernel
theorem dX12_worth_100 : decode cX12_worth 100 = .ok (.aload_n 0, 1) := by decide +kernel
theorem dX12_worth_101 : decode cX12_worth 101 = .ok (.getfield 35, 3) := by decide +kernel
theorem dX12_worth_104 : decode cX12_worth 104 = .ok (.aload_n 0, 1) := by decide +kernel
theorem dX12_worth_105 : decode cX12_worth 105 = .ok (.invokevirtual 242, 3) := by decide +kernel
theorem dX12_worth_108 : decode cX12_worth 108 = .ok (.iaload, 1) := by decide +kernel
theorem dX12_worth_109 : decode cX12_worth 109 = .ok (.iload 4, 2) := by decide +kernel
theorem dX12_worth_111 : decode cX12_worth 111 = .ok (.isub, 1) := by decide +kernel
theorem dX12_worth_112 : decode cX12_worth 112 = .ok (.ireturn, 1) := by decide +kernel
theorem dX12_beginNumber_0 : decode cX12_beginNumber 0 = .ok (.iconst 0, 1) := by decide +kernel
theorem dX12_beginNumber_1 : decode cX12_beginNumber 1 = .ok (.istore_n 2, 1) := by decide +kernel
theorem dX12_beginNumber_2 : decode cX12_beginNumber 2 = .ok (.iload_n 2, 1) := by decide +kernel
theorem dX12_beginNumber_3 : decode cX12_beginNumber 3 = .ok (.bipush 9, 2) := by decide +kernel
theorem dX12_beginNumber_5 : decode cX12_beginNumber 5 = .ok (.if_icmp .ge 16, 3) := by decide +kernel
theorem dX12_beginNumber_8 : decode cX12_beginNumber 8 = .ok (.aload_n 0, 1) := by decide +kernel
theorem dX12_beginNumber_9 : decode cX12_beginNumber 9 = .ok (.getfield 29, 3) := by decide +kernel
theorem dX12_beginNumber_12 : decode cX12_beginNumber 12 = .ok (.iload_n 2, 1) := by decide +kernel
theorem dX12_beginNumber_13 : decode cX12_beginNumber 13 = .ok (.iconst 0, 1) := by decide +kernel
theorem dX12_beginNumber_14 : decode cX12_beginNumber 14 = .ok (.iastore, 1) := by decide +kernel
theorem dX12_beginNumber_15 : decode cX12_beginNumber 15 = .ok (.iinc 2 1, 3) := by decide +kernel
theorem dX12_beginNumber_18 : decode cX12_beginNumber 18 = .ok (.goto (-16), 3) := by decide +kernel
theorem dX12_beginNumber_21 : decode cX12_beginNumber 21 = .ok (.aload_n 0, 1) := by decide +kernel
theorem dX12_beginNumber_22 : decode cX12_beginNumber 22 = .ok (.getfield 29, 3) := by decide +kernel
theorem dX12_beginNumber_25 : decode cX12_beginNumber 25 = .ok (.iconst 0, 1) := by decide +kernel
theorem dX12_beginNumber_26 : decode cX12_beginNumber 26 = .ok (.aload_n 0, 1) := by decide +kernel
theorem dX12_beginNumber_27 : decode cX12_beginNumber 27 = .ok (.getfield 7, 3) := by decide +kernel
theorem dX12_beginNumber_30 : decode cX12_beginNumber 30 = .ok (.sipush 197, 3) := by decide +kernel
theorem dX12_beginNumber_33 : decode cX12_beginNumber 33 = .ok (.iaload, 1) := by decide +kernel
theorem dX12_beginNumber_34 : decode cX12_beginNumber 34 = .ok (.ineg, 1) := by decide +kernel
theorem dX12_beginNumber_35 : decode cX12_beginNumber 35 = .ok (.iastore, 1) := by decide +kernel
theorem dX12_beginNumber_36 : decode cX12_beginNumber 36 = .ok (.aload_n 0, 1) := by decide +kernel
theorem dX12_beginNumber_37 : decode cX12_beginNumber 37 = .ok (.getfield 29, 3) := by decide +kernel
theorem dX12_beginNumber_40 : decode cX12_beginNumber 40 = .ok (.iconst 1, 1) := by decide +kernel
theorem dX12_beginNumber_41 : decode cX12_beginNumber 41 = .ok (.aload_n 0, 1) := by decide +kernel
theorem dX12_beginNumber_42 : decode cX12_beginNumber 42 = .ok (.getfield 7, 3) := by decide +kernel
theorem dX12_beginNumber_45 : decode cX12_beginNumber 45 = .ok (.sipush 198, 3) := by decide +kernel
theorem dX12_beginNumber_48 : decode cX12_beginNumber 48 = .ok (.iaload, 1) := by decide +kernel
theorem dX12_beginNumber_49 : decode cX12_beginNumber 49 = .ok (.iastore, 1) := by decide +kernel
theorem dX12_beginNumber_50 : decode cX12_beginNumber 50 = .ok (.aload_n 0, 1) := by decide +kernel
theorem dX12_beginNumber_51 : decode cX12_beginNumber 51 = .ok (.getfield 29, 3) := by decide +kernel
theorem dX12_beginNumber_54 : decode cX12_beginNumber 54 = .ok (.iconst 2, 1) := by decide +kernel
theorem dX12_beginNumber_55 : decode cX12_beginNumber 55 = .ok (.iload_n 1, 1) := by decide +kernel
theorem dX12_beginNumber_56 : decode cX12_beginNumber 56 = .ok (.iastore, 1) := by decide +kernel
theorem dX12_beginNumber_57 : decode cX12_beginNumber 57 = .ok (.aload_n 0, 1) := by decide +kernel
theorem dX12_beginNumber_58 : decode cX12_beginNumber 58 = .ok (.invokevirtual 242, 3) := by decide +kernel
theorem dX12_beginNumber_61 : decode cX12_beginNumber 61 = .ok (.ireturn, 1) := by decide +kernel
theorem dX12_setOf_0 : decode cX12_setOf 0 = .ok (.iload_n 2, 1) := by decide +kernel
theorem dX12_setOf_1 : decode cX12_setOf 1 = .ok (.aload_n 0, 1) := by decide +kernel
theorem dX12_setOf_2 : decode cX12_setOf 2 = .ok (.getfield 7, 3) := by decide +kernel
theorem dX12_setOf_5 : decode cX12_setOf 5 = .ok (.sipush 194, 3) := by decide +kernel
theorem dX12_setOf_8 : decode cX12_setOf 8 = .ok (.iaload, 1) := by decide +kernel
theorem dX12_setOf_9 : decode cX12_setOf 9 = .ok (.if_icmp .ge 15, 3) := by decide +kernel
theorem dX12_setOf_12 : decode cX12_setOf 12 = .ok (.iload_n 3, 1) := by decide +kernel
theorem dX12_setOf_13 : decode cX12_setOf 13 = .ok (.aload_n 0, 1) := by decide +kernel
theorem dX12_setOf_14 : decode cX12_setOf 14 = .ok (.getfield 7, 3) := by decide +kernel
theorem dX12_setOf_17 : decode cX12_setOf 17 = .ok (.sipush 194, 3) := by decide +kernel
theorem dX12_setOf_20 : decode cX12_setOf 20 = .ok (.iaload, 1) := by decide +kernel
theorem dX12_setOf_21 : decode cX12_setOf 21 = .ok (.if_icmp .lt 31, 3) := by decide +kernel
theorem dX12_setOf_24 : decode cX12_setOf 24 = .ok (.iload_n 1, 1) := by decide +kernel
theorem dX12_setOf_25 : decode cX12_setOf 25 = .ok (.ifCond .ne 7, 3) := by decide +kernel
theorem dX12_setOf_28 : decode cX12_setOf 28 = .ok (.iload_n 2, 1) := by decide +kernel
theorem dX12_setOf_29 : decode cX12_setOf 29 = .ok (.goto 4, 3) := by decide +kernel
theorem dX12_setOf_32 : decode cX12_setOf 32 = .ok (.iload_n 3, 1) := by decide +kernel
theorem dX12_setOf_33 : decode cX12_setOf 33 = .ok (.aload_n 0, 1) := by decide +kernel
theorem dX12_setOf_34 : decode cX12_setOf 34 = .ok (.getfield 7, 3) := by decide +kernel
theorem dX12_setOf_37 : decode cX12_setOf 37 = .ok (.sipush 194, 3) := by decide +kernel
theorem dX12_setOf_40 : decode cX12_setOf 40 = .ok (.iaload, 1) := by decide +kernel
theorem dX12_setOf_41 : decode cX12_setOf 41 = .ok (.if_icmp .lt 9, 3) := by decide +kernel
theorem dX12_setOf_44 : decode cX12_setOf 44 = .ok (.ldc2_w 245, 3) := by decide +kernel
theorem dX12_setOf_47 : decode cX12_setOf 47 = .ok (.goto 4, 3) := by decide +kernel
theorem dX12_setOf_50 : decode cX12_setOf 50 = .ok (.lconst 0, 1) := by decide +kernel
theorem dX12_setOf_51 : decode cX12_setOf 51 = .ok (.lreturn, 1) := by decide +kernel
theorem dX12_setOf_52 : decode cX12_setOf 52 = .ok (.lconst 0, 1) := by decide +kernel
theorem dX12_setOf_53 : decode cX12_setOf 53 = .ok (.lstore 5, 2) := by decide +kernel
theorem dX12_setOf_55 : decode cX12_setOf 55 = .ok (.iconst 0, 1) := by decide +kernel
theorem dX12_setOf_56 : decode cX12_setOf 56 = .ok (.istore 7, 2) := by decide +kernel
theorem dX12_setOf_58 : decode cX12_setOf 58 = .ok (.iload 7, 2) := by decide +kernel
theorem dX12_setOf_60 : decode cX12_setOf 60 = .ok (.iconst 2, 1) := by decide +kernel
theorem dX12_setOf_61 : decode cX12_setOf 61 = .ok (.if_icmp .ge 83, 3) := by decide +kernel
theorem dX12_setOf_64 : decode cX12_setOf 64 = .ok (.iconst 0, 1) := by decide +kernel
theorem dX12_setOf_65 : decode cX12_setOf 65 = .ok (.istore 8, 2) := by decide +kernel
theorem dX12_setOf_67 : decode cX12_setOf 67 = .ok (.iload 8, 2) := by decide +kernel
theorem dX12_setOf_69 : decode cX12_setOf 69 = .ok (.iconst 2, 1) := by decide +kernel
theorem dX12_setOf_70 : decode cX12_setOf 70 = .ok (.if_icmp .ge 68, 3) := by decide +kernel
theorem dX12_setOf_73 : decode cX12_setOf 73 = .ok (.lload 5, 2) := by decide +kernel
theorem dX12_setOf_75 : decode cX12_setOf 75 = .ok (.aload_n 0, 1) := by decide +kernel
theorem dX12_setOf_76 : decode cX12_setOf 76 = .ok (.getfield 47, 3) := by decide +kernel
theorem dX12_setOf_79 : decode cX12_setOf 79 = .ok (.iconst 4, 1) := by decide +kernel
theorem dX12_setOf_80 : decode cX12_setOf 80 = .ok (.iload 4, 2) := by decide +kernel
theorem dX12_setOf_82 : decode cX12_setOf 82 = .ok (.imul, 1) := by decide +kernel
theorem dX12_setOf_83 : decode cX12_setOf 83 = .ok (.iconst 2, 1) := by decide +kernel
theorem dX12_setOf_84 : decode cX12_setOf 84 = .ok (.iload 7, 2) := by decide +kernel
theorem dX12_setOf_86 : decode cX12_setOf 86 = .ok (.imul, 1) := by decide +kernel
theorem dX12_setOf_87 : decode cX12_setOf 87 = .ok (.iadd, 1) := by decide +kernel
theorem dX12_setOf_88 : decode cX12_setOf 88 = .ok (.iload 8, 2) := by decide +kernel
theorem dX12_setOf_90 : decode cX12_setOf 90 = .ok (.iadd, 1) := by decide +kernel
theorem dX12_setOf_91 : decode cX12_setOf 91 = .ok (.laload, 1) := by decide +kernel
theorem dX12_setOf_92 : decode cX12_setOf 92 = .ok (.aload_n 0, 1) := by decide +kernel
theorem dX12_setOf_93 : decode cX12_setOf 93 = .ok (.iload_n 1, 1) := by decide +kernel
theorem dX12_setOf_94 : decode cX12_setOf 94 = .ok (.iload 7, 2) := by decide +kernel
theorem dX12_setOf_96 : decode cX12_setOf 96 = .ok (.ifCond .ne 9, 3) := by decide +kernel
theorem dX12_setOf_99 : decode cX12_setOf 99 = .ok (.iload_n 2, 1) := by decide +kernel
theorem dX12_setOf_100 : decode cX12_setOf 100 = .ok (.iconst 1, 1) := by decide +kernel
theorem dX12_setOf_101 : decode cX12_setOf 101 = .ok (.iadd, 1) := by decide +kernel
theorem dX12_setOf_102 : decode cX12_setOf 102 = .ok (.goto 4, 3) := by decide +kernel
theorem dX12_setOf_105 : decode cX12_setOf 105 = .ok (.iload_n 2, 1) := by decide +kernel
theorem dX12_setOf_106 : decode cX12_setOf 106 = .ok (.iload 7, 2) := by decide +kernel
theorem dX12_setOf_108 : decode cX12_setOf 108 = .ok (.iconst 1, 1) := by decide +kernel
theorem dX12_setOf_109 : decode cX12_setOf 109 = .ok (.if_icmp .ne 9, 3) := by decide +kernel
theorem dX12_setOf_112 : decode cX12_setOf 112 = .ok (.iload_n 3, 1) := by decide +kernel
theorem dX12_setOf_113 : decode cX12_setOf 113 = .ok (.iconst 1, 1) := by decide +kernel
theorem dX12_setOf_114 : decode cX12_setOf 114 = .ok (.iadd, 1) := by decide +kernel
theorem dX12_setOf_115 : decode cX12_setOf 115 = .ok (.goto 4, 3) := by decide +kernel
theorem dX12_setOf_118 : decode cX12_setOf 118 = .ok (.iload_n 3, 1) := by decide +kernel
theorem dX12_setOf_119 : decode cX12_setOf 119 = .ok (.iload 8, 2) := by decide +kernel
theorem dX12_setOf_121 : decode cX12_setOf 121 = .ok (.invokevirtual 275, 3) := by decide +kernel
theorem dX12_setOf_124 : decode cX12_setOf 124 = .ok (.lmul, 1) := by decide +kernel
theorem dX12_setOf_125 : decode cX12_setOf 125 = .ok (.ldc2_w 245, 3) := by decide +kernel
theorem dX12_setOf_128 : decode cX12_setOf 128 = .ok (.ldiv, 1) := by decide +kernel
theorem dX12_setOf_129 : decode cX12_setOf 129 = .ok (.ladd, 1) := by decide +kernel
theorem dX12_setOf_130 : decode cX12_setOf 130 = .ok (.lstore 5, 2) := by decide +kernel
