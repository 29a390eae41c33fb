theorem dX8_givePoint_27 : decode cX8_givePoint 27 = .ok (.return_, 1) := by decide +kernel
theorem dX8_point_0 : decode cX8_point 0 = .ok (.iload_n 1, 1) := by decide +kernel
theorem dX8_point_1 : decode cX8_point 1 = .ok (.ifCond .ne 16, 3) := by decide +kernel
theorem dX8_point_4 : decode cX8_point 4 = .ok (.aload_n 0, 1) := by decide +kernel
theorem dX8_point_5 : decode cX8_point 5 = .ok (.dup, 1) := by decide +kernel
theorem dX8_point_6 : decode cX8_point 6 = .ok (.getfield 9, 3) := by decide +kernel
theorem dX8_point_9 : decode cX8_point 9 = .ok (.iconst 1, 1) := by decide +kernel
theorem dX8_point_10 : decode cX8_point 10 = .ok (.iadd, 1) := by decide +kernel
theorem dX8_point_11 : decode cX8_point 11 = .ok (.putfield 9, 3) := by decide +kernel
theorem dX8_point_14 : decode cX8_point 14 = .ok (.goto 13, 3) := by decide +kernel
theorem dX8_point_17 : decode cX8_point 17 = .ok (.aload_n 0, 1) := by decide +kernel
theorem dX8_point_18 : decode cX8_point 18 = .ok (.dup, 1) := by decide +kernel
theorem dX8_point_19 : decode cX8_point 19 = .ok (.getfield 15, 3) := by decide +kernel
theorem dX8_point_22 : decode cX8_point 22 = .ok (.iconst 1, 1) := by decide +kernel
theorem dX8_point_23 : decode cX8_point 23 = .ok (.iadd, 1) := by decide +kernel
theorem dX8_point_24 : decode cX8_point 24 = .ok (.putfield 15, 3) := by decide +kernel
theorem dX8_point_27 : decode cX8_point 27 = .ok (.aload_n 0, 1) := by decide +kernel
theorem dX8_point_28 : decode cX8_point 28 = .ok (.getfield 9, 3) := by decide +kernel
theorem dX8_point_31 : decode cX8_point 31 = .ok (.iconst 4, 1) := by decide +kernel
theorem dX8_point_32 : decode cX8_point 32 = .ok (.if_icmp .ne 21, 3) := by decide +kernel
theorem dX8_point_35 : decode cX8_point 35 = .ok (.aload_n 0, 1) := by decide +kernel
theorem dX8_point_36 : decode cX8_point 36 = .ok (.getfield 15, 3) := by decide +kernel
theorem dX8_point_39 : decode cX8_point 39 = .ok (.iconst 4, 1) := by decide +kernel
theorem dX8_point_40 : decode cX8_point 40 = .ok (.if_icmp .ne 13, 3) := by decide +kernel
theorem dX8_point_43 : decode cX8_point 43 = .ok (.aload_n 0, 1) := by decide +kernel
theorem dX8_point_44 : decode cX8_point 44 = .ok (.iconst 3, 1) := by decide +kernel
theorem dX8_point_45 : decode cX8_point 45 = .ok (.putfield 9, 3) := by decide +kernel
theorem dX8_point_48 : decode cX8_point 48 = .ok (.aload_n 0, 1) := by decide +kernel
theorem dX8_point_49 : decode cX8_point 49 = .ok (.iconst 3, 1) := by decide +kernel
theorem dX8_point_50 : decode cX8_point 50 = .ok (.putfield 15, 3) := by decide +kernel
theorem dX8_point_53 : decode cX8_point 53 = .ok (.iload_n 1, 1) := by decide +kernel
theorem dX8_point_54 : decode cX8_point 54 = .ok (.ifCond .ne 10, 3) := by decide +kernel
theorem dX8_point_57 : decode cX8_point 57 = .ok (.aload_n 0, 1) := by decide +kernel
theorem dX8_point_58 : decode cX8_point 58 = .ok (.getfield 9, 3) := by decide +kernel
theorem dX8_point_61 : decode cX8_point 61 = .ok (.goto 7, 3) := by decide +kernel
theorem dX8_point_64 : decode cX8_point 64 = .ok (.aload_n 0, 1) := by decide +kernel
theorem dX8_point_65 : decode cX8_point 65 = .ok (.getfield 15, 3) := by decide +kernel
theorem dX8_point_68 : decode cX8_point 68 = .ok (.istore_n 2, 1) := by decide +kernel
theorem dX8_point_69 : decode cX8_point 69 = .ok (.iload_n 1, 1) := by decide +kernel
theorem dX8_point_70 : decode cX8_point 70 = .ok (.ifCond .ne 10, 3) := by decide +kernel
theorem dX8_point_73 : decode cX8_point 73 = .ok (.aload_n 0, 1) := by decide +kernel
theorem dX8_point_74 : decode cX8_point 74 = .ok (.getfield 15, 3) := by decide +kernel
theorem dX8_point_77 : decode cX8_point 77 = .ok (.goto 7, 3) := by decide +kernel
theorem dX8_point_80 : decode cX8_point 80 = .ok (.aload_n 0, 1) := by decide +kernel
theorem dX8_point_81 : decode cX8_point 81 = .ok (.getfield 9, 3) := by decide +kernel
theorem dX8_point_84 : decode cX8_point 84 = .ok (.istore_n 3, 1) := by decide +kernel
theorem dX8_point_85 : decode cX8_point 85 = .ok (.iload_n 2, 1) := by decide +kernel
theorem dX8_point_86 : decode cX8_point 86 = .ok (.iconst 4, 1) := by decide +kernel
theorem dX8_point_87 : decode cX8_point 87 = .ok (.if_icmp .lt 10, 3) := by decide +kernel
theorem dX8_point_90 : decode cX8_point 90 = .ok (.iload_n 2, 1) := by decide +kernel
theorem dX8_point_91 : decode cX8_point 91 = .ok (.iload_n 3, 1) := by decide +kernel
theorem dX8_point_92 : decode cX8_point 92 = .ok (.isub, 1) := by decide +kernel
theorem dX8_point_93 : decode cX8_point 93 = .ok (.iconst 2, 1) := by decide +kernel
theorem dX8_point_94 : decode cX8_point 94 = .ok (.if_icmp .ge 5, 3) := by decide +kernel
theorem dX8_point_97 : decode cX8_point 97 = .ok (.iconst 0, 1) := by decide +kernel
theorem dX8_point_98 : decode cX8_point 98 = .ok (.ireturn, 1) := by decide +kernel
theorem dX8_point_99 : decode cX8_point 99 = .ok (.iload_n 1, 1) := by decide +kernel
theorem dX8_point_100 : decode cX8_point 100 = .ok (.ifCond .ne 16, 3) := by decide +kernel
theorem dX8_point_103 : decode cX8_point 103 = .ok (.aload_n 0, 1) := by decide +kernel
theorem dX8_point_104 : decode cX8_point 104 = .ok (.dup, 1) := by decide +kernel
theorem dX8_point_105 : decode cX8_point 105 = .ok (.getfield 34, 3) := by decide +kernel
theorem dX8_point_108 : decode cX8_point 108 = .ok (.iconst 1, 1) := by decide +kernel
theorem dX8_point_109 : decode cX8_point 109 = .ok (.iadd, 1) := by decide +kernel
theorem dX8_point_110 : decode cX8_point 110 = .ok (.putfield 34, 3) := by decide +kernel
theorem dX8_point_113 : decode cX8_point 113 = .ok (.goto 13, 3) := by decide +kernel
theorem dX8_point_116 : decode cX8_point 116 = .ok (.aload_n 0, 1) := by decide +kernel
theorem dX8_point_117 : decode cX8_point 117 = .ok (.dup, 1) := by decide +kernel
theorem dX8_point_118 : decode cX8_point 118 = .ok (.getfield 37, 3) := by decide +kernel
theorem dX8_point_121 : decode cX8_point 121 = .ok (.iconst 1, 1) := by decide +kernel
theorem dX8_point_122 : decode cX8_point 122 = .ok (.iadd, 1) := by decide +kernel
theorem dX8_point_123 : decode cX8_point 123 = .ok (.putfield 37, 3) := by decide +kernel
theorem dX8_point_126 : decode cX8_point 126 = .ok (.aload_n 0, 1) := by decide +kernel
theorem dX8_point_127 : decode cX8_point 127 = .ok (.aload_n 0, 1) := by decide +kernel
theorem dX8_point_128 : decode cX8_point 128 = .ok (.getfield 40, 3) := by decide +kernel
theorem dX8_point_131 : decode cX8_point 131 = .ok (.ineg, 1) := by decide +kernel
theorem dX8_point_132 : decode cX8_point 132 = .ok (.aload_n 0, 1) := by decide +kernel
theorem dX8_point_133 : decode cX8_point 133 = .ok (.getfield 43, 3) := by decide +kernel
theorem dX8_point_136 : decode cX8_point 136 = .ok (.aload_n 0, 1) := by decide +kernel
theorem dX8_point_137 : decode cX8_point 137 = .ok (.getfield 18, 3) := by decide +kernel
theorem dX8_point_140 : decode cX8_point 140 = .ok (.invokevirtual 85, 3) := by decide +kernel
theorem dX8_point_143 : decode cX8_point 143 = .ok (.iconst 1, 1) := by decide +kernel
theorem dX8_point_144 : decode cX8_point 144 = .ok (.ireturn, 1) := by decide +kernel
theorem dX8_changeEnds_0 : decode cX8_changeEnds 0 = .ok (.aload_n 0, 1) := by decide +kernel
theorem dX8_changeEnds_1 : decode cX8_changeEnds 1 = .ok (.getfield 30, 3) := by decide +kernel
theorem dX8_changeEnds_4 : decode cX8_changeEnds 4 = .ok (.ifCond .ne 10, 3) := by decide +kernel
theorem dX8_changeEnds_7 : decode cX8_changeEnds 7 = .ok (.aload_n 0, 1) := by decide +kernel
theorem dX8_changeEnds_8 : decode cX8_changeEnds 8 = .ok (.getfield 21, 3) := by decide +kernel
theorem dX8_changeEnds_11 : decode cX8_changeEnds 11 = .ok (.ifCond .ne 4, 3) := by decide +kernel
theorem dX8_changeEnds_14 : decode cX8_changeEnds 14 = .ok (.return_, 1) := by decide +kernel
theorem dX8_changeEnds_15 : decode cX8_changeEnds 15 = .ok (.aload_n 0, 1) := by decide +kernel
theorem dX8_changeEnds_16 : decode cX8_changeEnds 16 = .ok (.getfield 21, 3) := by decide +kernel
theorem dX8_changeEnds_19 : decode cX8_changeEnds 19 = .ok (.iconst 2, 1) := by decide +kernel
theorem dX8_changeEnds_20 : decode cX8_changeEnds 20 = .ok (.if_icmp .eq 19, 3) := by decide +kernel
theorem dX8_changeEnds_23 : decode cX8_changeEnds 23 = .ok (.iload_n 1, 1) := by decide +kernel
theorem dX8_changeEnds_24 : decode cX8_changeEnds 24 = .ok (.iconst 1, 1) := by decide +kernel
theorem dX8_changeEnds_25 : decode cX8_changeEnds 25 = .ok (.if_icmp .eq 14, 3) := by decide +kernel
theorem dX8_changeEnds_28 : decode cX8_changeEnds 28 = .ok (.iload_n 1, 1) := by decide +kernel
theorem dX8_changeEnds_29 : decode cX8_changeEnds 29 = .ok (.ifCond .ne 25, 3) := by decide +kernel
theorem dX8_changeEnds_32 : decode cX8_changeEnds 32 = .ok (.aload_n 0, 1) := by decide +kernel
theorem dX8_changeEnds_33 : decode cX8_changeEnds 33 = .ok (.invokevirtual 51, 3) := by decide +kernel
theorem dX8_changeEnds_36 : decode cX8_changeEnds 36 = .ok (.ifCond .eq 18, 3) := by decide +kernel
theorem dX8_changeEnds_39 : decode cX8_changeEnds 39 = .ok (.aload_n 0, 1) := by decide +kernel
theorem dX8_changeEnds_40 : decode cX8_changeEnds 40 = .ok (.iconst 1, 1) := by decide +kernel
theorem dX8_changeEnds_41 : decode cX8_changeEnds 41 = .ok (.aload_n 0, 1) := by decide +kernel
theorem dX8_changeEnds_42 : decode cX8_changeEnds 42 = .ok (.getfield 18, 3) := by decide +kernel
theorem dX8_changeEnds_45 : decode cX8_changeEnds 45 = .ok (.isub, 1) := by decide +kernel
theorem dX8_changeEnds_46 : decode cX8_changeEnds 46 = .ok (.putfield 18, 3) := by decide +kernel
theorem dX8_changeEnds_49 : decode cX8_changeEnds 49 = .ok (.aload_n 0, 1) := by decide +kernel
theorem dX8_changeEnds_50 : decode cX8_changeEnds 50 = .ok (.iconst 1, 1) := by decide +kernel
theorem dX8_changeEnds_51 : decode cX8_changeEnds 51 = .ok (.putfield 30, 3) := by decide +kernel
theorem dX8_changeEnds_54 : decode cX8_changeEnds 54 = .ok (.return_, 1) := by decide +kernel
theorem dX8_code_0 : decode cX8_code 0 = .ok (.iconst 0, 1) := by decide +kernel
theorem dX8_code_1 : decode cX8_code 1 = .ok (.istore_n 1, 1) := by decide +kernel
theorem dX8_code_2 : decode cX8_code 2 = .ok (.aload_n 0, 1) := by decide +kernel
theorem dX8_code_3 : decode cX8_code 3 = .ok (.getfield 21, 3) := by decide +kernel
theorem dX8_code_6 : decode cX8_code 6 = .ok (.iconst 1, 1) := by decide +kernel
theorem dX8_code_7 : decode cX8_code 7 = .ok (.if_icmp .ne 25, 3) := by decide +kernel
theorem dX8_code_10 : decode cX8_code 10 = .ok (.aload_n 0, 1) := by decide +kernel
theorem dX8_code_11 : decode cX8_code 11 = .ok (.getfield 30, 3) := by decide +kernel
theorem dX8_code_14 : decode cX8_code 14 = .ok (.ifCond .eq 8, 3) := by decide +kernel
theorem dX8_code_17 : decode cX8_code 17 = .ok (.bipush 11, 2) := by decide +kernel
theorem dX8_code_19 : decode cX8_code 19 = .ok (.goto 4, 3) := by decide +kernel
theorem dX8_code_22 : decode cX8_code 22 = .ok (.iconst 1, 1) := by decide +kernel
theorem dX8_code_23 : decode cX8_code 23 = .ok (.aload_n 0, 1) := by decide +kernel
theorem dX8_code_24 : decode cX8_code 24 = .ok (.getfield 24, 3) := by decide +kernel
theorem dX8_code_27 : decode cX8_code 27 = .ok (.iadd, 1) := by decide +kernel
theorem dX8_code_28 : decode cX8_code 28 = .ok (.istore_n 1, 1) := by decide +kernel
theorem dX8_code_29 : decode cX8_code 29 = .ok (.goto 27, 3) := by decide +kernel
theorem dX8_code_32 : decode cX8_code 32 = .ok (.aload_n 0, 1) := by decide +kernel
theorem dX8_code_33 : decode cX8_code 33 = .ok (.getfield 21, 3) := by decide +kernel
theorem dX8_code_36 : decode cX8_code 36 = .ok (.iconst 2, 1) := by decide +kernel
theorem dX8_code_37 : decode cX8_code 37 = .ok (.if_icmp .ne 19, 3) := by decide +kernel
theorem dX8_code_40 : decode cX8_code 40 = .ok (.bipush 21, 2) := by decide +kernel
theorem dX8_code_42 : decode cX8_code 42 = .ok (.aload_n 0, 1) := by decide +kernel
theorem dX8_code_43 : decode cX8_code 43 = .ok (.getfield 24, 3) := by decide +kernel
theorem dX8_code_46 : decode cX8_code 46 = .ok (.bipush 10, 2) := by decide +kernel
theorem dX8_code_48 : decode cX8_code 48 = .ok (.imul, 1) := by decide +kernel
theorem dX8_code_49 : decode cX8_code 49 = .ok (.iadd, 1) := by decide +kernel
theorem dX8_code_50 : decode cX8_code 50 = .ok (.aload_n 0, 1) := by decide +kernel
theorem dX8_code_51 : decode cX8_code 51 = .ok (.getfield 27, 3) := by decide +kernel
theorem dX8_code_54 : decode cX8_code 54 = .ok (.iadd, 1) := by decide +kernel
theorem dX8_code_55 : decode cX8_code 55 = .ok (.istore_n 1, 1) := by decide +kernel
theorem dX8_code_56 : decode cX8_code 56 = .ok (.aload_n 0, 1) := by decide +kernel
theorem dX8_code_57 : decode cX8_code 57 = .ok (.getfield 9, 3) := by decide +kernel
theorem dX8_code_60 : decode cX8_code 60 = .ok (.iconst 3, 1) := by decide +kernel
theorem dX8_code_61 : decode cX8_code 61 = .ok (.iadd, 1) := by decide +kernel
theorem dX8_code_62 : decode cX8_code 62 = .ok (.bipush 8, 2) := by decide +kernel
theorem dX8_code_64 : decode cX8_code 64 = .ok (.imul, 1) := by decide +kernel
theorem dX8_code_65 : decode cX8_code 65 = .ok (.aload_n 0, 1) := by decide +kernel
theorem dX8_code_66 : decode cX8_code 66 = .ok (.getfield 15, 3) := by decide +kernel
theorem dX8_code_69 : decode cX8_code 69 = .ok (.iadd, 1) := by decide +kernel
theorem dX8_code_70 : decode cX8_code 70 = .ok (.iconst 3, 1) := by decide +kernel
theorem dX8_code_71 : decode cX8_code 71 = .ok (.iadd, 1) := by decide +kernel
theorem dX8_code_72 : decode cX8_code 72 = .ok (.iconst 2, 1) := by decide +kernel
theorem dX8_code_73 : decode cX8_code 73 = .ok (.imul, 1) := by decide +kernel
theorem dX8_code_74 : decode cX8_code 74 = .ok (.aload_n 0, 1) := by decide +kernel
theorem dX8_code_75 : decode cX8_code 75 = .ok (.getfield 18, 3) := by decide +kernel
theorem dX8_code_78 : decode cX8_code 78 = .ok (.iadd, 1) := by decide +kernel
theorem dX8_code_79 : decode cX8_code 79 = .ok (.bipush 121, 2) := by decide +kernel
theorem dX8_code_81 : decode cX8_code 81 = .ok (.imul, 1) := by decide +kernel
theorem dX8_code_82 : decode cX8_code 82 = .ok (.iload_n 1, 1) := by decide +kernel
theorem dX8_code_83 : decode cX8_code 83 = .ok (.iadd, 1) := by decide +kernel
theorem dX8_code_84 : decode cX8_code 84 = .ok (.ireturn, 1) := by decide +kernel
theorem dX8_become_0 : decode cX8_become 0 = .ok (.iload_n 1, 1) := by decide +kernel
theorem dX8_become_1 : decode cX8_become 1 = .ok (.bipush 121, 2) := by decide +kernel
theorem dX8_become_3 : decode cX8_become 3 = .ok (.irem, 1) := by decide +kernel
theorem dX8_become_4 : decode cX8_become 4 = .ok (.istore_n 2, 1) := by decide +kernel
theorem dX8_become_5 : decode cX8_become 5 = .ok (.iload_n 1, 1) := by decide +kernel
theorem dX8_become_6 : decode cX8_become 6 = .ok (.bipush 121, 2) := by decide +kernel
theorem dX8_become_8 : decode cX8_become 8 = .ok (.idiv, 1) := by decide +kernel
theorem dX8_become_9 : decode cX8_become 9 = .ok (.istore_n 3, 1) := by decide +kernel
theorem dX8_become_10 : decode cX8_become 10 = .ok (.aload_n 0, 1) := by decide +kernel
theorem dX8_become_11 : decode cX8_become 11 = .ok (.iload_n 3, 1) := by decide +kernel
theorem dX8_become_12 : decode cX8_become 12 = .ok (.bipush 16, 2) := by decide +kernel
theorem dX8_become_14 : decode cX8_become 14 = .ok (.idiv, 1) := by decide +kernel
theorem dX8_become_15 : decode cX8_become 15 = .ok (.iconst 3, 1) := by decide +kernel
theorem dX8_become_16 : decode cX8_become 16 = .ok (.isub, 1) := by decide +kernel
theorem dX8_become_17 : decode cX8_become 17 = .ok (.iload_n 3, 1) := by decide +kernel
theorem dX8_become_18 : decode cX8_become 18 = .ok (.iconst 2, 1) := by decide +kernel
theorem dX8_become_19 : decode cX8_become 19 = .ok (.idiv, 1) := by decide +kernel
theorem dX8_become_20 : decode cX8_become 20 = .ok (.bipush 8, 2) := by decide +kernel
theorem dX8_become_22 : decode cX8_become 22 = .ok (.irem, 1) := by decide +kernel
theorem dX8_become_23 : decode cX8_become 23 = .ok (.iconst 3, 1) := by decide +kernel
theorem dX8_become_24 : decode cX8_become 24 = .ok (.isub, 1) := by decide +kernel
theorem dX8_become_25 : decode cX8_become 25 = .ok (.iload_n 3, 1) := by decide +kernel
theorem dX8_become_26 : decode cX8_become 26 = .ok (.iconst 2, 1) := by decide +kernel
theorem dX8_become_27 : decode cX8_become 27 = .ok (.irem, 1) := by decide +kernel
theorem dX8_become_28 : decode cX8_become 28 = .ok (.invokevirtual 85, 3) := by decide +kernel
theorem dX8_become_31 : decode cX8_become 31 = .ok (.iload_n 2, 1) := by decide +kernel
theorem dX8_become_32 : decode cX8_become 32 = .ok (.ifCond .ne 4, 3) := by decide +kernel
theorem dX8_become_35 : decode cX8_become 35 = .ok (.return_, 1) := by decide +kernel
theorem dX8_become_36 : decode cX8_become 36 = .ok (.aload_n 0, 1) := by decide +kernel
theorem dX8_become_37 : decode cX8_become 37 = .ok (.iload_n 2, 1) := by decide +kernel
theorem dX8_become_38 : decode cX8_become 38 = .ok (.bipush 10, 2) := by decide +kernel
theorem dX8_become_40 : decode cX8_become 40 = .ok (.if_icmp .le 7, 3) := by decide +kernel
theorem dX8_become_43 : decode cX8_become 43 = .ok (.iconst 1, 1) := by decide +kernel
theorem dX8_become_44 : decode cX8_become 44 = .ok (.goto 4, 3) := by decide +kernel
theorem dX8_become_47 : decode cX8_become 47 = .ok (.iconst 0, 1) := by decide +kernel
theorem dX8_become_48 : decode cX8_become 48 = .ok (.putfield 30, 3) := by decide +kernel
theorem dX8_become_51 : decode cX8_become 51 = .ok (.iload_n 2, 1) := by decide +kernel
theorem dX8_become_52 : decode cX8_become 52 = .ok (.bipush 20, 2) := by decide +kernel
theorem dX8_become_54 : decode cX8_become 54 = .ok (.if_icmp .gt 19, 3) := by decide +kernel
theorem dX8_become_57 : decode cX8_become 57 = .ok (.aload_n 0, 1) := by decide +kernel
theorem dX8_become_58 : decode cX8_become 58 = .ok (.iconst 1, 1) := by decide +kernel
theorem dX8_become_59 : decode cX8_become 59 = .ok (.putfield 21, 3) := by decide +kernel
theorem dX8_become_62 : decode cX8_become 62 = .ok (.aload_n 0, 1) := by decide +kernel
theorem dX8_become_63 : decode cX8_become 63 = .ok (.iload_n 2, 1) := by decide +kernel
theorem dX8_become_64 : decode cX8_become 64 = .ok (.iconst 1, 1) := by decide +kernel
theorem dX8_become_65 : decode cX8_become 65 = .ok (.isub, 1) := by decide +kernel
theorem dX8_become_66 : decode cX8_become 66 = .ok (.bipush 10, 2) := by decide +kernel
theorem dX8_become_68 : decode cX8_become 68 = .ok (.irem, 1) := by decide +kernel
theorem dX8_become_69 : decode cX8_become 69 = .ok (.putfield 24, 3) := by decide +kernel
theorem dX8_become_72 : decode cX8_become 72 = .ok (.return_, 1) := by decide +kernel
theorem dX8_become_73 : decode cX8_become 73 = .ok (.aload_n 0, 1) := by decide +kernel
theorem dX8_become_74 : decode cX8_become 74 = .ok (.iconst 2, 1) := by decide +kernel
theorem dX8_become_75 : decode cX8_become 75 = .ok (.putfield 21, 3) := by decide +kernel
theorem dX8_become_78 : decode cX8_become 78 = .ok (.aload_n 0, 1) := by decide +kernel
theorem dX8_become_79 : decode cX8_become 79 = .ok (.iload_n 2, 1) := by decide +kernel
theorem dX8_become_80 : decode cX8_become 80 = .ok (.iconst 1, 1) := by decide +kernel
theorem dX8_become_81 : decode cX8_become 81 = .ok (.isub, 1) := by decide +kernel
theorem dX8_become_82 : decode cX8_become 82 = .ok (.bipush 10, 2) := by decide +kernel
theorem dX8_become_84 : decode cX8_become 84 = .ok (.isub, 1) := by decide +kernel
theorem dX8_become_85 : decode cX8_become 85 = .ok (.bipush 10, 2) := by decide +kernel
theorem dX8_become_87 : decode cX8_become 87 = .ok (.isub, 1) := by decide +kernel
theorem dX8_become_88 : decode cX8_become 88 = .ok (.bipush 10, 2) := by decide +kernel
theorem dX8_become_90 : decode cX8_become 90 = .ok (.idiv, 1) := by decide +kernel
theorem dX8_become_91 : decode cX8_become 91 = .ok (.putfield 24, 3) := by decide +kernel
theorem dX8_become_94 : decode cX8_become 94 = .ok (.aload_n 0, 1) := by decide +kernel
theorem dX8_become_95 : decode cX8_become 95 = .ok (.iload_n 2, 1) := by decide +kernel
theorem dX8_become_96 : decode cX8_become 96 = .ok (.iconst 1, 1) := by decide +kernel
theorem dX8_become_97 : decode cX8_become 97 = .ok (.isub, 1) := by decide +kernel
theorem dX8_become_98 : decode cX8_become 98 = .ok (.bipush 10, 2) := by decide +kernel
theorem dX8_become_100 : decode cX8_become 100 = .ok (.irem, 1) := by decide +kernel
theorem dX8_become_101 : decode cX8_become 101 = .ok (.putfield 27, 3) := by decide +kernel
theorem dX8_become_104 : decode cX8_become 104 = .ok (.return_, 1) := by decide +kernel
theorem dX9_init_0 : decode cX9_init 0 = .ok (.aload_n 0, 1) := by decide +kernel
theorem dX9_init_1 : decode cX9_init 1 = .ok (.invokespecial 3, 3) := by decide +kernel
theorem dX9_init_4 : decode cX9_init 4 = .ok (.aload_n 0, 1) := by decide +kernel
theorem dX9_init_5 : decode cX9_init 5 = .ok (.iconst 4, 1) := by decide +kernel
theorem dX9_init_6 : decode cX9_init 6 = .ok (.newarray .int, 2) := by decide +kernel
theorem dX9_init_8 : decode cX9_init 8 = .ok (.putfield 9, 3) := by decide +kernel
theorem dX9_init_11 : decode cX9_init 11 = .ok (.aload_n 0, 1) := by decide +kernel
theorem dX9_init_12 : decode cX9_init 12 = .ok (.bipush 8, 2) := by decide +kernel
theorem dX9_init_14 : decode cX9_init 14 = .ok (.newarray .int, 2) := by decide +kernel
theorem dX9_init_16 : decode cX9_init 16 = .ok (.putfield 15, 3) := by decide +kernel
theorem dX9_init_19 : decode cX9_init 19 = .ok (.aload_n 0, 1) := by decide +kernel
theorem dX9_init_20 : decode cX9_init 20 = .ok (.bipush 98, 2) := by decide +kernel
theorem dX9_init_22 : decode cX9_init 22 = .ok (.newarray .int, 2) := by decide +kernel
theorem dX9_init_24 : decode cX9_init 24 = .ok (.putfield 18, 3) := by decide +kernel
theorem dX9_init_27 : decode cX9_init 27 = .ok (.return_, 1) := by decide +kernel
theorem dX9_chanceOf_0 : decode cX9_chanceOf 0 = .ok (.aload_n 2, 1) := by decide +kernel
theorem dX9_chanceOf_1 : decode cX9_chanceOf 1 = .ok (.getfield 21, 3) := by decide +kernel
theorem dX9_chanceOf_4 : decode cX9_chanceOf 4 = .ok (.getfield 27, 3) := by decide +kernel
theorem dX9_chanceOf_7 : decode cX9_chanceOf 7 = .ok (.istore_n 3, 1) := by decide +kernel
theorem dX9_chanceOf_8 : decode cX9_chanceOf 8 = .ok (.aload_n 2, 1) := by decide +kernel
theorem dX9_chanceOf_9 : decode cX9_chanceOf 9 = .ok (.getfield 33, 3) := by decide +kernel
theorem dX9_chanceOf_12 : decode cX9_chanceOf 12 = .ok (.getfield 37, 3) := by decide +kernel
theorem dX9_chanceOf_15 : decode cX9_chanceOf 15 = .ok (.istore 4, 2) := by decide +kernel
theorem dX9_chanceOf_17 : decode cX9_chanceOf 17 = .ok (.aload_n 2, 1) := by decide +kernel
theorem dX9_chanceOf_18 : decode cX9_chanceOf 18 = .ok (.getfield 33, 3) := by decide +kernel
theorem dX9_chanceOf_21 : decode cX9_chanceOf 21 = .ok (.getfield 42, 3) := by decide +kernel
theorem dX9_chanceOf_24 : decode cX9_chanceOf 24 = .ok (.istore 5, 2) := by decide +kernel
theorem dX9_chanceOf_26 : decode cX9_chanceOf 26 = .ok (.iload_n 3, 1) := by decide +kernel
theorem dX9_chanceOf_27 : decode cX9_chanceOf 27 = .ok (.istore 6, 2) := by decide +kernel
theorem dX9_chanceOf_29 : decode cX9_chanceOf 29 = .ok (.iload 6, 2) := by decide +kernel
theorem dX9_chanceOf_31 : decode cX9_chanceOf 31 = .ok (.iload 4, 2) := by decide +kernel
theorem dX9_chanceOf_33 : decode cX9_chanceOf 33 = .ok (.if_icmp .lt 153, 3) := by decide +kernel
theorem dX9_chanceOf_36 : decode cX9_chanceOf 36 = .ok (.iload_n 3, 1) := by decide +kernel
theorem dX9_chanceOf_37 : decode cX9_chanceOf 37 = .ok (.istore 7, 2) := by decide +kernel
theorem dX9_chanceOf_39 : decode cX9_chanceOf 39 = .ok (.iload 7, 2) := by decide +kernel
theorem dX9_chanceOf_41 : decode cX9_chanceOf 41 = .ok (.iload 5, 2) := by decide +kernel
theorem dX9_chanceOf_43 : decode cX9_chanceOf 43 = .ok (.if_icmp .lt 137, 3) := by decide +kernel
theorem dX9_chanceOf_46 : decode cX9_chanceOf 46 = .ok (.iload 6, 2) := by decide +kernel
theorem dX9_chanceOf_48 : decode cX9_chanceOf 48 = .ok (.iload_n 3, 1) := by decide +kernel
theorem dX9_chanceOf_49 : decode cX9_chanceOf 49 = .ok (.if_icmp .eq 9, 3) := by decide +kernel
theorem dX9_chanceOf_52 : decode cX9_chanceOf 52 = .ok (.iload 7, 2) := by decide +kernel
theorem dX9_chanceOf_54 : decode cX9_chanceOf 54 = .ok (.iload_n 3, 1) := by decide +kernel
theorem dX9_chanceOf_55 : decode cX9_chanceOf 55 = .ok (.if_icmp .ne 67, 3) := by decide +kernel
theorem dX9_chanceOf_58 : decode cX9_chanceOf 58 = .ok (.iload 6, 2) := by decide +kernel
theorem dX9_chanceOf_60 : decode cX9_chanceOf 60 = .ok (.iload_n 3, 1) := by decide +kernel
theorem dX9_chanceOf_61 : decode cX9_chanceOf 61 = .ok (.if_icmp .ne 7, 3) := by decide +kernel
theorem dX9_chanceOf_64 : decode cX9_chanceOf 64 = .ok (.iconst 1, 1) := by decide +kernel
theorem dX9_chanceOf_65 : decode cX9_chanceOf 65 = .ok (.goto 4, 3) := by decide +kernel
theorem dX9_chanceOf_68 : decode cX9_chanceOf 68 = .ok (.iconst 0, 1) := by decide +kernel
theorem dX9_chanceOf_69 : decode cX9_chanceOf 69 = .ok (.iload_n 1, 1) := by decide +kernel
theorem dX9_chanceOf_70 : decode cX9_chanceOf 70 = .ok (.ifCond .ne 7, 3) := by decide +kernel
theorem dX9_chanceOf_73 : decode cX9_chanceOf 73 = .ok (.iconst 1, 1) := by decide +kernel
theorem dX9_chanceOf_74 : decode cX9_chanceOf 74 = .ok (.goto 4, 3) := by decide +kernel
theorem dX9_chanceOf_77 : decode cX9_chanceOf 77 = .ok (.iconst 0, 1) := by decide +kernel
theorem dX9_chanceOf_78 : decode cX9_chanceOf 78 = .ok (.if_icmp .ne 8, 3) := by decide +kernel
theorem dX9_chanceOf_81 : decode cX9_chanceOf 81 = .ok (.ldc 45, 2) := by decide +kernel
theorem dX9_chanceOf_83 : decode cX9_chanceOf 83 = .ok (.goto 4, 3) := by decide +kernel
theorem dX9_chanceOf_86 : decode cX9_chanceOf 86 = .ok (.iconst 0, 1) := by decide +kernel
theorem dX9_chanceOf_87 : decode cX9_chanceOf 87 = .ok (.istore 8, 2) := by decide +kernel
theorem dX9_chanceOf_89 : decode cX9_chanceOf 89 = .ok (.aload_n 0, 1) := by decide +kernel
theorem dX9_chanceOf_90 : decode cX9_chanceOf 90 = .ok (.getfield 18, 3) := by decide +kernel
theorem dX9_chanceOf_93 : decode cX9_chanceOf 93 = .ok (.iload 6, 2) := by decide +kernel
theorem dX9_chanceOf_95 : decode cX9_chanceOf 95 = .ok (.iload 7, 2) := by decide +kernel
theorem dX9_chanceOf_97 : decode cX9_chanceOf 97 = .ok (.iconst 0, 1) := by decide +kernel
theorem dX9_chanceOf_98 : decode cX9_chanceOf 98 = .ok (.invokestatic 46, 3) := by decide +kernel
theorem dX9_chanceOf_101 : decode cX9_chanceOf 101 = .ok (.iload 8, 2) := by decide +kernel
theorem dX9_chanceOf_103 : decode cX9_chanceOf 103 = .ok (.iastore, 1) := by decide +kernel
theorem dX9_chanceOf_104 : decode cX9_chanceOf 104 = .ok (.aload_n 0, 1) := by decide +kernel
theorem dX9_chanceOf_105 : decode cX9_chanceOf 105 = .ok (.getfield 18, 3) := by decide +kernel
theorem dX9_chanceOf_108 : decode cX9_chanceOf 108 = .ok (.iload 6, 2) := by decide +kernel
theorem dX9_chanceOf_110 : decode cX9_chanceOf 110 = .ok (.iload 7, 2) := by decide +kernel
theorem dX9_chanceOf_112 : decode cX9_chanceOf 112 = .ok (.iconst 1, 1) := by decide +kernel
theorem dX9_chanceOf_113 : decode cX9_chanceOf 113 = .ok (.invokestatic 46, 3) := by decide +kernel
theorem dX9_chanceOf_116 : decode cX9_chanceOf 116 = .ok (.iload 8, 2) := by decide +kernel
theorem dX9_chanceOf_118 : decode cX9_chanceOf 118 = .ok (.iastore, 1) := by decide +kernel
theorem dX9_chanceOf_119 : decode cX9_chanceOf 119 = .ok (.goto 55, 3) := by decide +kernel
theorem dX9_chanceOf_122 : decode cX9_chanceOf 122 = .ok (.aload_n 0, 1) := by decide +kernel
theorem dX9_chanceOf_123 : decode cX9_chanceOf 123 = .ok (.getfield 18, 3) := by decide +kernel
theorem dX9_chanceOf_126 : decode cX9_chanceOf 126 = .ok (.iload 6, 2) := by decide +kernel
theorem dX9_chanceOf_128 : decode cX9_chanceOf 128 = .ok (.iload 7, 2) := by decide +kernel
theorem dX9_chanceOf_130 : decode cX9_chanceOf 130 = .ok (.iconst 0, 1) := by decide +kernel
theorem dX9_chanceOf_131 : decode cX9_chanceOf 131 = .ok (.invokestatic 46, 3) := by decide +kernel
theorem dX9_chanceOf_134 : decode cX9_chanceOf 134 = .ok (.aload_n 0, 1) := by decide +kernel
theorem dX9_chanceOf_135 : decode cX9_chanceOf 135 = .ok (.aload_n 0, 1) := by decide +kernel
theorem dX9_chanceOf_136 : decode cX9_chanceOf 136 = .ok (.getfield 15, 3) := by decide +kernel
theorem dX9_chanceOf_139 : decode cX9_chanceOf 139 = .ok (.iconst 0, 1) := by decide +kernel
theorem dX9_chanceOf_140 : decode cX9_chanceOf 140 = .ok (.iload 6, 2) := by decide +kernel
theorem dX9_chanceOf_142 : decode cX9_chanceOf 142 = .ok (.iload 7, 2) := by decide +kernel
theorem dX9_chanceOf_144 : decode cX9_chanceOf 144 = .ok (.invokevirtual 50, 3) := by decide +kernel
theorem dX9_chanceOf_147 : decode cX9_chanceOf 147 = .ok (.iastore, 1) := by decide +kernel
theorem dX9_chanceOf_148 : decode cX9_chanceOf 148 = .ok (.aload_n 0, 1) := by decide +kernel
theorem dX9_chanceOf_149 : decode cX9_chanceOf 149 = .ok (.getfield 18, 3) := by decide +kernel
theorem dX9_chanceOf_152 : decode cX9_chanceOf 152 = .ok (.iload 6, 2) := by decide +kernel
theorem dX9_chanceOf_154 : decode cX9_chanceOf 154 = .ok (.iload 7, 2) := by decide +kernel
theorem dX9_chanceOf_156 : decode cX9_chanceOf 156 = .ok (.iconst 1, 1) := by decide +kernel
theorem dX9_chanceOf_157 : decode cX9_chanceOf 157 = .ok (.invokestatic 46, 3) := by decide +kernel
theorem dX9_chanceOf_160 : decode cX9_chanceOf 160 = .ok (.aload_n 0, 1) := by decide +kernel
theorem dX9_chanceOf_161 : decode cX9_chanceOf 161 = .ok (.aload_n 0, 1) := by decide +kernel
theorem dX9_chanceOf_162 : decode cX9_chanceOf 162 = .ok (.getfield 15, 3) := by decide +kernel
theorem dX9_chanceOf_165 : decode cX9_chanceOf 165 = .ok (.iconst 4, 1) := by decide +kernel
theorem dX9_chanceOf_166 : decode cX9_chanceOf 166 = .ok (.iload 6, 2) := by decide +kernel
theorem dX9_chanceOf_168 : decode cX9_chanceOf 168 = .ok (.iload 7, 2) := by decide +kernel
theorem dX9_chanceOf_170 : decode cX9_chanceOf 170 = .ok (.invokevirtual 50, 3) := by decide +kernel
theorem dX9_chanceOf_173 : decode cX9_chanceOf 173 = .ok (.iastore, 1) := by decide +kernel
theorem dX9_chanceOf_174 : decode cX9_chanceOf 174 = .ok (.iinc 7 (-1), 3) := by decide +kernel
theorem dX9_chanceOf_177 : decode cX9_chanceOf 177 = .ok (.goto (-138), 3) := by decide +kernel
theorem dX9_chanceOf_180 : decode cX9_chanceOf 180 = .ok (.iinc 6 (-1), 3) := by decide +kernel
theorem dX9_chanceOf_183 : decode cX9_chanceOf 183 = .ok (.goto (-154), 3) := by decide +kernel
theorem dX9_chanceOf_186 : decode cX9_chanceOf 186 = .ok (.aload_n 0, 1) := by decide +kernel
theorem dX9_chanceOf_187 : decode cX9_chanceOf 187 = .ok (.aload_n 0, 1) := by decide +kernel
theorem dX9_chanceOf_188 : decode cX9_chanceOf 188 = .ok (.getfield 9, 3) := by decide +kernel
theorem dX9_chanceOf_191 : decode cX9_chanceOf 191 = .ok (.iconst 0, 1) := by decide +kernel
theorem dX9_chanceOf_192 : decode cX9_chanceOf 192 = .ok (.iload 4, 2) := by decide +kernel
theorem dX9_chanceOf_194 : decode cX9_chanceOf 194 = .ok (.iload 5, 2) := by decide +kernel
theorem dX9_chanceOf_196 : decode cX9_chanceOf 196 = .ok (.invokevirtual 50, 3) := by decide +kernel
theorem dX9_chanceOf_199 : decode cX9_chanceOf 199 = .ok (.ireturn, 1) := by decide +kernel
theorem dX9_indexOf_0 : decode cX9_indexOf 0 = .ok (.iload_n 0, 1) := by decide +kernel
theorem dX9_indexOf_1 : decode cX9_indexOf 1 = .ok (.bipush 7, 2) := by decide +kernel
theorem dX9_indexOf_3 : decode cX9_indexOf 3 = .ok (.imul, 1) := by decide +kernel
theorem dX9_indexOf_4 : decode cX9_indexOf 4 = .ok (.iload_n 1, 1) := by decide +kernel
theorem dX9_indexOf_5 : decode cX9_indexOf 5 = .ok (.iadd, 1) := by decide +kernel
theorem dX9_indexOf_6 : decode cX9_indexOf 6 = .ok (.iconst 2, 1) := by decide +kernel
theorem dX9_indexOf_7 : decode cX9_indexOf 7 = .ok (.imul, 1) := by decide +kernel
theorem dX9_indexOf_8 : decode cX9_indexOf 8 = .ok (.iload_n 2, 1) := by decide +kernel
theorem dX9_indexOf_9 : decode cX9_indexOf 9 = .ok (.iadd, 1) := by decide +kernel
theorem dX9_indexOf_10 : decode cX9_indexOf 10 = .ok (.ireturn, 1) := by decide +kernel
theorem dX9_sum_0 : decode cX9_sum 0 = .ok (.lconst 0, 1) := by decide +kernel
theorem dX9_sum_1 : decode cX9_sum 1 = .ok (.lstore 5, 2) := by decide +kernel
theorem dX9_sum_3 : decode cX9_sum 3 = .ok (.iconst 0, 1) := by decide +kernel
theorem dX9_sum_4 : decode cX9_sum 4 = .ok (.istore 7, 2) := by decide +kernel
theorem dX9_sum_6 : decode cX9_sum 6 = .ok (.iload 7, 2) := by decide +kernel
theorem dX9_sum_8 : decode cX9_sum 8 = .ok (.iconst 4, 1) := by decide +kernel
theorem dX9_sum_9 : decode cX9_sum 9 = .ok (.if_icmp .ge 60, 3) := by decide +kernel
theorem dX9_sum_12 : decode cX9_sum 12 = .ok (.iload 7, 2) := by decide +kernel
theorem dX9_sum_14 : decode cX9_sum 14 = .ok (.iconst 2, 1) := by decide +kernel
theorem dX9_sum_15 : decode cX9_sum 15 = .ok (.idiv, 1) := by decide +kernel
theorem dX9_sum_16 : decode cX9_sum 16 = .ok (.istore 8, 2) := by decide +kernel
theorem dX9_sum_18 : decode cX9_sum 18 = .ok (.aload_n 0, 1) := by decide +kernel
theorem dX9_sum_19 : decode cX9_sum 19 = .ok (.getfield 18, 3) := by decide +kernel
theorem dX9_sum_22 : decode cX9_sum 22 = .ok (.iload_n 3, 1) := by decide +kernel
theorem dX9_sum_23 : decode cX9_sum 23 = .ok (.iconst 1, 1) := by decide +kernel
theorem dX9_sum_24 : decode cX9_sum 24 = .ok (.iadd, 1) := by decide +kernel
theorem dX9_sum_25 : decode cX9_sum 25 = .ok (.iload 8, 2) := by decide +kernel
theorem dX9_sum_27 : decode cX9_sum 27 = .ok (.isub, 1) := by decide +kernel
theorem dX9_sum_28 : decode cX9_sum 28 = .ok (.iload 4, 2) := by decide +kernel
theorem dX9_sum_30 : decode cX9_sum 30 = .ok (.iload 8, 2) := by decide +kernel
theorem dX9_sum_32 : decode cX9_sum 32 = .ok (.iadd, 1) := by decide +kernel
theorem dX9_sum_33 : decode cX9_sum 33 = .ok (.iload 7, 2) := by decide +kernel
theorem dX9_sum_35 : decode cX9_sum 35 = .ok (.iconst 2, 1) := by decide +kernel
theorem dX9_sum_36 : decode cX9_sum 36 = .ok (.irem, 1) := by decide +kernel
theorem dX9_sum_37 : decode cX9_sum 37 = .ok (.invokestatic 46, 3) := by decide +kernel
theorem dX9_sum_40 : decode cX9_sum 40 = .ok (.iaload, 1) := by decide +kernel
theorem dX9_sum_41 : decode cX9_sum 41 = .ok (.istore 9, 2) := by decide +kernel
theorem dX9_sum_43 : decode cX9_sum 43 = .ok (.lload 5, 2) := by decide +kernel
theorem dX9_sum_45 : decode cX9_sum 45 = .ok (.aload_n 1, 1) := by decide +kernel
theorem dX9_sum_46 : decode cX9_sum 46 = .ok (.iload_n 2, 1) := by decide +kernel
theorem dX9_sum_47 : decode cX9_sum 47 = .ok (.iload 7, 2) := by decide +kernel
theorem dX9_sum_49 : decode cX9_sum 49 = .ok (.iadd, 1) := by decide +kernel
theorem dX9_sum_50 : decode cX9_sum 50 = .ok (.iaload, 1) := by decide +kernel
theorem dX9_sum_51 : decode cX9_sum 51 = .ok (.i2l, 1) := by decide +kernel
theorem dX9_sum_52 : decode cX9_sum 52 = .ok (.iload 9, 2) := by decide +kernel
theorem dX9_sum_54 : decode cX9_sum 54 = .ok (.i2l, 1) := by decide +kernel
theorem dX9_sum_55 : decode cX9_sum 55 = .ok (.lmul, 1) := by decide +kernel
theorem dX9_sum_56 : decode cX9_sum 56 = .ok (.ldc2_w 54, 3) := by decide +kernel
theorem dX9_sum_59 : decode cX9_sum 59 = .ok (.ldiv, 1) := by decide +kernel
theorem dX9_sum_60 : decode cX9_sum 60 = .ok (.ladd, 1) := by decide +kernel
theorem dX9_sum_61 : decode cX9_sum 61 = .ok (.lstore 5, 2) := by decide +kernel
theorem dX9_sum_63 : decode cX9_sum 63 = .ok (.iinc 7 1, 3) := by decide +kernel
theorem dX9_sum_66 : decode cX9_sum 66 = .ok (.goto (-60), 3) := by decide +kernel
theorem dX9_sum_69 : decode cX9_sum 69 = .ok (.lload 5, 2) := by decide +kernel
theorem dX9_sum_71 : decode cX9_sum 71 = .ok (.l2i, 1) := by decide +kernel
theorem dX9_sum_72 : decode cX9_sum 72 = .ok (.ireturn, 1) := by decide +kernel
theorem dX10_init_0 : decode cX10_init 0 = .ok (.aload_n 0, 1) := by decide +kernel
theorem dX10_init_1 : decode cX10_init 1 = .ok (.invokespecial 3, 3) := by decide +kernel
theorem dX10_init_4 : decode cX10_init 4 = .ok (.aload_n 0, 1) := by decide +kernel
theorem dX10_init_5 : decode cX10_init 5 = .ok (.new 9, 3) := by decide +kernel
theorem dX10_init_8 : decode cX10_init 8 = .ok (.dup, 1) := by decide +kernel
theorem dX10_init_9 : decode cX10_init 9 = .ok (.invokespecial 11, 3) := by decide +kernel
theorem dX10_init_12 : decode cX10_init 12 = .ok (.putfield 12, 3) := by decide +kernel
theorem dX10_init_15 : decode cX10_init 15 = .ok (.aload_n 0, 1) := by decide +kernel
theorem dX10_init_16 : decode cX10_init 16 = .ok (.new 18, 3) := by decide +kernel
theorem dX10_init_19 : decode cX10_init 19 = .ok (.dup, 1) := by decide +kernel
theorem dX10_init_20 : decode cX10_init 20 = .ok (.invokespecial 20, 3) := by decide +kernel
theorem dX10_init_23 : decode cX10_init 23 = .ok (.putfield 21, 3) := by decide +kernel
theorem dX10_init_26 : decode cX10_init 26 = .ok (.aload_n 0, 1) := by decide +kernel
theorem dX10_init_27 : decode cX10_init 27 = .ok (.new 25, 3) := by decide +kernel
theorem dX10_init_30 : decode cX10_init 30 = .ok (.dup, 1) := by decide +kernel
theorem dX10_init_31 : decode cX10_init 31 = .ok (.invokespecial 27, 3) := by decide +kernel
theorem dX10_init_34 : decode cX10_init 34 = .ok (.putfield 28, 3) := by decide +kernel
theorem dX10_init_37 : decode cX10_init 37 = .ok (.return_, 1) := by decide +kernel
theorem dX10_takeFrom_0 : decode cX10_takeFrom 0 = .ok (.aload_n 0, 1) := by decide +kernel
theorem dX10_takeFrom_1 : decode cX10_takeFrom 1 = .ok (.getfield 12, 3) := by decide +kernel
theorem dX10_takeFrom_4 : decode cX10_takeFrom 4 = .ok (.aload_n 1, 1) := by decide +kernel
theorem dX10_takeFrom_5 : decode cX10_takeFrom 5 = .ok (.getfield 12, 3) := by decide +kernel
theorem dX10_takeFrom_8 : decode cX10_takeFrom 8 = .ok (.invokevirtual 32, 3) := by decide +kernel
theorem dX10_takeFrom_11 : decode cX10_takeFrom 11 = .ok (.aload_n 0, 1) := by decide +kernel
theorem dX10_takeFrom_12 : decode cX10_takeFrom 12 = .ok (.getfield 21, 3) := by decide +kernel
theorem dX10_takeFrom_15 : decode cX10_takeFrom 15 = .ok (.aload_n 1, 1) := by decide +kernel
theorem dX10_takeFrom_16 : decode cX10_takeFrom 16 = .ok (.getfield 21, 3) := by decide +kernel
theorem dX10_takeFrom_19 : decode cX10_takeFrom 19 = .ok (.invokevirtual 36, 3) := by decide +kernel
theorem dX10_takeFrom_22 : decode cX10_takeFrom 22 = .ok (.aload_n 0, 1) := by decide +kernel
theorem dX10_takeFrom_23 : decode cX10_takeFrom 23 = .ok (.getfield 28, 3) := by decide +kernel
theorem dX10_takeFrom_26 : decode cX10_takeFrom 26 = .ok (.aload_n 1, 1) := by decide +kernel
theorem dX10_takeFrom_27 : decode cX10_takeFrom 27 = .ok (.getfield 28, 3) := by decide +kernel
theorem dX10_takeFrom_30 : decode cX10_takeFrom 30 = .ok (.invokevirtual 39, 3) := by decide +kernel
theorem dX10_takeFrom_33 : decode cX10_takeFrom 33 = .ok (.return_, 1) := by decide +kernel
theorem dX10_pairOf_0 : decode cX10_pairOf 0 = .ok (.aload_n 0, 1) := by decide +kernel
theorem dX10_pairOf_1 : decode cX10_pairOf 1 = .ok (.getfield 21, 3) := by decide +kernel
theorem dX10_pairOf_4 : decode cX10_pairOf 4 = .ok (.aload_n 1, 1) := by decide +kernel
theorem dX10_pairOf_5 : decode cX10_pairOf 5 = .ok (.getfield 42, 3) := by decide +kernel
theorem dX10_pairOf_8 : decode cX10_pairOf 8 = .ok (.aload_n 1, 1) := by decide +kernel
theorem dX10_pairOf_9 : decode cX10_pairOf 9 = .ok (.invokevirtual 46, 3) := by decide +kernel
theorem dX10_pairOf_12 : decode cX10_pairOf 12 = .ok (.iconst 4, 1) := by decide +kernel
theorem dX10_pairOf_13 : decode cX10_pairOf 13 = .ok (.imul, 1) := by decide +kernel
theorem dX10_pairOf_14 : decode cX10_pairOf 14 = .ok (.aload_n 0, 1) := by decide +kernel
theorem dX10_pairOf_15 : decode cX10_pairOf 15 = .ok (.getfield 21, 3) := by decide +kernel
theorem dX10_pairOf_18 : decode cX10_pairOf 18 = .ok (.iconst 1, 1) := by decide +kernel
theorem dX10_pairOf_19 : decode cX10_pairOf 19 = .ok (.aload_n 1, 1) := by decide +kernel
theorem dX10_pairOf_20 : decode cX10_pairOf 20 = .ok (.getfield 42, 3) := by decide +kernel
theorem dX10_pairOf_23 : decode cX10_pairOf 23 = .ok (.isub, 1) := by decide +kernel
theorem dX10_pairOf_24 : decode cX10_pairOf 24 = .ok (.aload_n 1, 1) := by decide +kernel
theorem dX10_pairOf_25 : decode cX10_pairOf 25 = .ok (.invokevirtual 46, 3) := by decide +kernel
theorem dX10_pairOf_28 : decode cX10_pairOf 28 = .ok (.iadd, 1) := by decide +kernel
theorem dX10_pairOf_29 : decode cX10_pairOf 29 = .ok (.ireturn, 1) := by decide +kernel
theorem dX11_init_0 : decode cX11_init 0 = .ok (.aload_n 0, 1) := by decide +kernel
theorem dX11_init_1 : decode cX11_init 1 = .ok (.invokespecial 1, 3) := by decide +kernel
theorem dX11_init_4 : decode cX11_init 4 = .ok (.aload_n 0, 1) := by decide +kernel
theorem dX11_init_5 : decode cX11_init 5 = .ok (.sipush 400, 3) := by decide +kernel
theorem dX11_init_8 : decode cX11_init 8 = .ok (.newarray .byte, 2) := by decide +kernel
theorem dX11_init_10 : decode cX11_init 10 = .ok (.putfield 9, 3) := by decide +kernel
theorem dX11_init_13 : decode cX11_init 13 = .ok (.aload_n 0, 1) := by decide +kernel
theorem dX11_init_14 : decode cX11_init 14 = .ok (.new 13, 3) := by decide +kernel
theorem dX11_init_17 : decode cX11_init 17 = .ok (.dup, 1) := by decide +kernel
theorem dX11_init_18 : decode cX11_init 18 = .ok (.invokespecial 15, 3) := by decide +kernel
theorem dX11_init_21 : decode cX11_init 21 = .ok (.putfield 16, 3) := by decide +kernel
theorem dX11_init_24 : decode cX11_init 24 = .ok (.aload_n 0, 1) := by decide +kernel
theorem dX11_init_25 : decode cX11_init 25 = .ok (.new 20, 3) := by decide +kernel
theorem dX11_init_28 : decode cX11_init 28 = .ok (.dup, 1) := by decide +kernel
theorem dX11_init_29 : decode cX11_init 29 = .ok (.invokespecial 22, 3) := by decide +kernel
theorem dX11_init_32 : decode cX11_init 32 = .ok (.putfield 23, 3) := by decide +kernel
theorem dX11_init_35 : decode cX11_init 35 = .ok (.aload_n 0, 1) := by decide +kernel
theorem dX11_init_36 : decode cX11_init 36 = .ok (.new 27, 3) := by decide +kernel
theorem dX11_init_39 : decode cX11_init 39 = .ok (.dup, 1) := by decide +kernel
theorem dX11_init_40 : decode cX11_init 40 = .ok (.invokespecial 29, 3) := by decide +kernel
theorem dX11_init_43 : decode cX11_init 43 = .ok (.putfield 30, 3) := by decide +kernel
theorem dX11_init_46 : decode cX11_init 46 = .ok (.aload_n 0, 1) := by decide +kernel
theorem dX11_init_47 : decode cX11_init 47 = .ok (.new 34, 3) := by decide +kernel
theorem dX11_init_50 : decode cX11_init 50 = .ok (.dup, 1) := by decide +kernel
theorem dX11_init_51 : decode cX11_init 51 = .ok (.invokespecial 36, 3) := by decide +kernel
theorem dX11_init_54 : decode cX11_init 54 = .ok (.putfield 37, 3) := by decide +kernel
theorem dX11_init_57 : decode cX11_init 57 = .ok (.aload_n 0, 1) := by decide +kernel
theorem dX11_init_58 : decode cX11_init 58 = .ok (.iconst (-1), 1) := by decide +kernel
theorem dX11_init_59 : decode cX11_init 59 = .ok (.putfield 41, 3) := by decide +kernel
theorem dX11_init_62 : decode cX11_init 62 = .ok (.return_, 1) := by decide +kernel
theorem dX11_feed_0 : decode cX11_feed 0 = .ok (.aload_n 0, 1) := by decide +kernel
theorem dX11_feed_1 : decode cX11_feed 1 = .ok (.getfield 45, 3) := by decide +kernel
theorem dX11_feed_4 : decode cX11_feed 4 = .ok (.bipush 20, 2) := by decide +kernel
theorem dX11_feed_6 : decode cX11_feed 6 = .ok (.iadd, 1) := by decide +kernel
theorem dX11_feed_7 : decode cX11_feed 7 = .ok (.sipush 400, 3) := by decide +kernel
theorem dX11_feed_10 : decode cX11_feed 10 = .ok (.if_icmp .le 5, 3) := by decide +kernel
theorem dX11_feed_13 : decode cX11_feed 13 = .ok (.iconst (-1), 1) := by decide +kernel
theorem dX11_feed_14 : decode cX11_feed 14 = .ok (.ireturn, 1) := by decide +kernel
theorem dX11_feed_15 : decode cX11_feed 15 = .ok (.aload_n 0, 1) := by decide +kernel
theorem dX11_feed_16 : decode cX11_feed 16 = .ok (.iload_n 1, 1) := by decide +kernel
theorem dX11_feed_17 : decode cX11_feed 17 = .ok (.invokevirtual 48, 3) := by decide +kernel
theorem dX11_feed_20 : decode cX11_feed 20 = .ok (.aload_n 0, 1) := by decide +kernel
theorem dX11_feed_21 : decode cX11_feed 21 = .ok (.iload_n 2, 1) := by decide +kernel
theorem dX11_feed_22 : decode cX11_feed 22 = .ok (.invokevirtual 48, 3) := by decide +kernel
theorem dX11_feed_25 : decode cX11_feed 25 = .ok (.aload_n 0, 1) := by decide +kernel
theorem dX11_feed_26 : decode cX11_feed 26 = .ok (.iload_n 3, 1) := by decide +kernel
theorem dX11_feed_27 : decode cX11_feed 27 = .ok (.invokevirtual 48, 3) := by decide +kernel
theorem dX11_feed_30 : decode cX11_feed 30 = .ok (.aload_n 0, 1) := by decide +kernel
theorem dX11_feed_31 : decode cX11_feed 31 = .ok (.iload 4, 2) := by decide +kernel
theorem dX11_feed_33 : decode cX11_feed 33 = .ok (.invokevirtual 48, 3) := by decide +kernel
theorem dX11_feed_36 : decode cX11_feed 36 = .ok (.aload_n 0, 1) := by decide +kernel
theorem dX11_feed_37 : decode cX11_feed 37 = .ok (.iload 5, 2) := by decide +kernel
theorem dX11_feed_39 : decode cX11_feed 39 = .ok (.invokevirtual 48, 3) := by decide +kernel
theorem dX11_feed_42 : decode cX11_feed 42 = .ok (.aload_n 0, 1) := by decide +kernel
theorem dX11_feed_43 : decode cX11_feed 43 = .ok (.getfield 45, 3) := by decide +kernel
theorem dX11_feed_46 : decode cX11_feed 46 = .ok (.ireturn, 1) := by decide +kernel
theorem dX11_append_0 : decode cX11_append 0 = .ok (.bipush 24, 2) := by decide +kernel
theorem dX11_append_2 : decode cX11_append 2 = .ok (.istore_n 2, 1) := by decide +kernel
theorem dX11_append_3 : decode cX11_append 3 = .ok (.iload_n 2, 1) := by decide +kernel
theorem dX11_append_4 : decode cX11_append 4 = .ok (.ifCond .lt 39, 3) := by decide +kernel
theorem dX11_append_7 : decode cX11_append 7 = .ok (.aload_n 0, 1) := by decide +kernel
theorem dX11_append_8 : decode cX11_append 8 = .ok (.getfield 45, 3) := by decide +kernel
theorem dX11_append_11 : decode cX11_append 11 = .ok (.sipush 400, 3) := by decide +kernel
theorem dX11_append_14 : decode cX11_append 14 = .ok (.if_icmp .ge 29, 3) := by decide +kernel
theorem dX11_append_17 : decode cX11_append 17 = .ok (.aload_n 0, 1) := by decide +kernel
theorem dX11_append_18 : decode cX11_append 18 = .ok (.getfield 9, 3) := by decide +kernel
theorem dX11_append_21 : decode cX11_append 21 = .ok (.aload_n 0, 1) := by decide +kernel
theorem dX11_append_22 : decode cX11_append 22 = .ok (.dup, 1) := by decide +kernel
theorem dX11_append_23 : decode cX11_append 23 = .ok (.getfield 45, 3) := by decide +kernel
theorem dX11_append_26 : decode cX11_append 26 = .ok (.dup_x1, 1) := by decide +kernel
theorem dX11_append_27 : decode cX11_append 27 = .ok (.iconst 1, 1) := by decide +kernel
theorem dX11_append_28 : decode cX11_append 28 = .ok (.iadd, 1) := by decide +kernel
theorem dX11_append_29 : decode cX11_append 29 = .ok (.putfield 45, 3) := by decide +kernel
theorem dX11_append_32 : decode cX11_append 32 = .ok (.iload_n 1, 1) := by decide +kernel
theorem dX11_append_33 : decode cX11_append 33 = .ok (.iload_n 2, 1) := by decide +kernel
theorem dX11_append_34 : decode cX11_append 34 = .ok (.ishr, 1) := by decide +kernel
theorem dX11_append_35 : decode cX11_append 35 = .ok (.i2b, 1) := by decide +kernel
theorem dX11_append_36 : decode cX11_append 36 = .ok (.bastore, 1) := by decide +kernel
theorem dX11_append_37 : decode cX11_append 37 = .ok (.iinc 2 (-8), 3) := by decide +kernel
theorem dX11_append_40 : decode cX11_append 40 = .ok (.goto (-37), 3) := by decide +kernel
theorem dX11_append_43 : decode cX11_append 43 = .ok (.return_, 1) := by decide +kernel
theorem dX11_end_0 : decode cX11_end 0 = .ok (.iload_n 1, 1) := by decide +kernel
theorem dX11_end_1 : decode cX11_end 1 = .ok (.ifCond .lt 11, 3) := by decide +kernel
theorem dX11_end_4 : decode cX11_end 4 = .ok (.iload_n 1, 1) := by decide +kernel
theorem dX11_end_5 : decode cX11_end 5 = .ok (.aload_n 0, 1) := by decide +kernel
theorem dX11_end_6 : decode cX11_end 6 = .ok (.getfield 45, 3) := by decide +kernel
theorem dX11_end_9 : decode cX11_end 9 = .ok (.if_icmp .le 5, 3) := by decide +kernel
theorem dX11_end_12 : decode cX11_end 12 = .ok (.iconst 0, 1) := by decide +kernel
theorem dX11_end_13 : decode cX11_end 13 = .ok (.ireturn, 1) := by decide +kernel
theorem dX11_end_14 : decode cX11_end 14 = .ok (.aload_n 0, 1) := by decide +kernel
theorem dX11_end_15 : decode cX11_end 15 = .ok (.iload_n 1, 1) := by decide +kernel
theorem dX11_end_16 : decode cX11_end 16 = .ok (.putfield 45, 3) := by decide +kernel
theorem dX11_end_19 : decode cX11_end 19 = .ok (.iconst 1, 1) := by decide +kernel
theorem dX11_end_20 : decode cX11_end 20 = .ok (.ireturn, 1) := by decide +kernel
theorem dX11_court_0 : decode cX11_court 0 = .ok (.aload_n 0, 1) := by decide +kernel
theorem dX11_court_1 : decode cX11_court 1 = .ok (.getfield 16, 3) := by decide +kernel
theorem dX11_court_4 : decode cX11_court 4 = .ok (.aload_n 0, 1) := by decide +kernel
theorem dX11_court_5 : decode cX11_court 5 = .ok (.getfield 9, 3) := by decide +kernel
theorem dX11_court_8 : decode cX11_court 8 = .ok (.aload_n 0, 1) := by decide +kernel
theorem dX11_court_9 : decode cX11_court 9 = .ok (.invokevirtual 52, 3) := by decide +kernel
theorem dX11_court_12 : decode cX11_court 12 = .ok (.invokevirtual 56, 3) := by decide +kernel
theorem dX11_court_15 : decode cX11_court 15 = .ok (.aload_n 0, 1) := by decide +kernel
theorem dX11_court_16 : decode cX11_court 16 = .ok (.getfield 23, 3) := by decide +kernel
theorem dX11_court_19 : decode cX11_court 19 = .ok (.aload_n 0, 1) := by decide +kernel
theorem dX11_court_20 : decode cX11_court 20 = .ok (.getfield 30, 3) := by decide +kernel
theorem dX11_court_23 : decode cX11_court 23 = .ok (.getfield 60, 3) := by decide +kernel
theorem dX11_court_26 : decode cX11_court 26 = .ok (.invokevirtual 63, 3) := by decide +kernel
theorem dX11_court_29 : decode cX11_court 29 = .ok (.aload_n 0, 1) := by decide +kernel
theorem dX11_court_30 : decode cX11_court 30 = .ok (.aload_n 0, 1) := by decide +kernel
theorem dX11_court_31 : decode cX11_court 31 = .ok (.getfield 23, 3) := by decide +kernel
theorem dX11_court_34 : decode cX11_court 34 = .ok (.aload_n 0, 1) := by decide +kernel
theorem dX11_court_35 : decode cX11_court 35 = .ok (.getfield 16, 3) := by decide +kernel
theorem dX11_court_38 : decode cX11_court 38 = .ok (.invokevirtual 67, 3) := by decide +kernel
theorem dX11_court_41 : decode cX11_court 41 = .ok (.putfield 41, 3) := by decide +kernel
theorem dX11_court_44 : decode cX11_court 44 = .ok (.aload_n 0, 1) := by decide +kernel
theorem dX11_court_45 : decode cX11_court 45 = .ok (.getfield 41, 3) := by decide +kernel
theorem dX11_court_48 : decode cX11_court 48 = .ok (.iconst (-1), 1) := by decide +kernel
theorem dX11_court_49 : decode cX11_court 49 = .ok (.if_icmp .eq 13, 3) := by decide +kernel
theorem dX11_court_52 : decode cX11_court 52 = .ok (.new 71, 3) := by decide +kernel
theorem dX11_court_55 : decode cX11_court 55 = .ok (.dup, 1) := by decide +kernel
theorem dX11_court_56 : decode cX11_court 56 = .ok (.ldc 73, 2) := by decide +kernel
theorem dX11_court_58 : decode cX11_court 58 = .ok (.invokespecial 75, 3) := by decide +kernel
theorem dX11_court_61 : decode cX11_court 61 = .ok (.athrow, 1) := by decide +kernel
theorem dX11_court_62 : decode cX11_court 62 = .ok (.aload_n 0, 1) := by decide +kernel
theorem dX11_court_63 : decode cX11_court 63 = .ok (.getfield 30, 3) := by decide +kernel
theorem dX11_court_66 : decode cX11_court 66 = .ok (.getfield 60, 3) := by decide +kernel
theorem dX11_court_69 : decode cX11_court 69 = .ok (.getfield 78, 3) := by decide +kernel
theorem dX11_court_72 : decode cX11_court 72 = .ok (.bipush 12, 2) := by decide +kernel
theorem dX11_court_74 : decode cX11_court 74 = .ok (.if_icmp .lt 13, 3) := by decide +kernel
theorem dX11_court_77 : decode cX11_court 77 = .ok (.new 81, 3) := by decide +kernel
theorem dX11_court_80 : decode cX11_court 80 = .ok (.dup, 1) := by decide +kernel
theorem dX11_court_81 : decode cX11_court 81 = .ok (.ldc 83, 2) := by decide +kernel
theorem dX11_court_83 : decode cX11_court 83 = .ok (.invokespecial 85, 3) := by decide +kernel
theorem dX11_court_86 : decode cX11_court 86 = .ok (.athrow, 1) := by decide +kernel
theorem dX11_court_87 : decode cX11_court 87 = .ok (.aload_n 0, 1) := by decide +kernel
theorem dX11_court_88 : decode cX11_court 88 = .ok (.getfield 23, 3) := by decide +kernel
theorem dX11_court_91 : decode cX11_court 91 = .ok (.dup, 1) := by decide +kernel
theorem dX11_court_92 : decode cX11_court 92 = .ok (.getfield 78, 3) := by decide +kernel
theorem dX11_court_95 : decode cX11_court 95 = .ok (.iconst 1, 1) := by decide +kernel
theorem dX11_court_96 : decode cX11_court 96 = .ok (.iadd, 1) := by decide +kernel
theorem dX11_court_97 : decode cX11_court 97 = .ok (.putfield 78, 3) := by decide +kernel
theorem dX11_court_100 : decode cX11_court 100 = .ok (.aload_n 0, 1) := by decide +kernel
theorem dX11_court_101 : decode cX11_court 101 = .ok (.getfield 30, 3) := by decide +kernel
theorem dX11_court_104 : decode cX11_court 104 = .ok (.getfield 60, 3) := by decide +kernel
theorem dX11_court_107 : decode cX11_court 107 = .ok (.aload_n 0, 1) := by decide +kernel
theorem dX11_court_108 : decode cX11_court 108 = .ok (.getfield 23, 3) := by decide +kernel
theorem dX11_court_111 : decode cX11_court 111 = .ok (.invokevirtual 63, 3) := by decide +kernel
theorem dX11_court_114 : decode cX11_court 114 = .ok (.aload_n 0, 1) := by decide +kernel
theorem dX11_court_115 : decode cX11_court 115 = .ok (.getfield 30, 3) := by decide +kernel
theorem dX11_court_118 : decode cX11_court 118 = .ok (.getfield 60, 3) := by decide +kernel
theorem dX11_court_121 : decode cX11_court 121 = .ok (.getfield 78, 3) := by decide +kernel
theorem dX11_court_124 : decode cX11_court 124 = .ok (.ireturn, 1) := by decide +kernel
theorem dX11_rule_0 : decode cX11_rule 0 = .ok (.aload_n 0, 1) := by decide +kernel
theorem dX11_rule_1 : decode cX11_rule 1 = .ok (.getfield 16, 3) := by decide +kernel
theorem dX11_rule_4 : decode cX11_rule 4 = .ok (.aload_n 0, 1) := by decide +kernel
theorem dX11_rule_5 : decode cX11_rule 5 = .ok (.getfield 9, 3) := by decide +kernel
theorem dX11_rule_8 : decode cX11_rule 8 = .ok (.aload_n 0, 1) := by decide +kernel
theorem dX11_rule_9 : decode cX11_rule 9 = .ok (.invokevirtual 52, 3) := by decide +kernel
theorem dX11_rule_12 : decode cX11_rule 12 = .ok (.invokevirtual 56, 3) := by decide +kernel
theorem dX11_rule_15 : decode cX11_rule 15 = .ok (.aload_n 0, 1) := by decide +kernel
theorem dX11_rule_16 : decode cX11_rule 16 = .ok (.getfield 86, 3) := by decide +kernel
theorem dX11_rule_19 : decode cX11_rule 19 = .ok (.ifnonnull 14, 3) := by decide +kernel
theorem dX11_rule_22 : decode cX11_rule 22 = .ok (.aload_n 0, 1) := by decide +kernel
theorem dX11_rule_23 : decode cX11_rule 23 = .ok (.new 90, 3) := by decide +kernel
theorem dX11_rule_26 : decode cX11_rule 26 = .ok (.dup, 1) := by decide +kernel
theorem dX11_rule_27 : decode cX11_rule 27 = .ok (.invokespecial 92, 3) := by decide +kernel
theorem dX11_rule_30 : decode cX11_rule 30 = .ok (.putfield 86, 3) := by decide +kernel
theorem dX11_rule_33 : decode cX11_rule 33 = .ok (.aload_n 0, 1) := by decide +kernel
theorem dX11_rule_34 : decode cX11_rule 34 = .ok (.aload_n 0, 1) := by decide +kernel
theorem dX11_rule_35 : decode cX11_rule 35 = .ok (.getfield 86, 3) := by decide +kernel
theorem dX11_rule_38 : decode cX11_rule 38 = .ok (.aload_n 0, 1) := by decide +kernel
theorem dX11_rule_39 : decode cX11_rule 39 = .ok (.getfield 16, 3) := by decide +kernel
theorem dX11_rule_42 : decode cX11_rule 42 = .ok (.invokevirtual 93, 3) := by decide +kernel
theorem dX11_rule_45 : decode cX11_rule 45 = .ok (.putfield 41, 3) := by decide +kernel
theorem dX11_rule_48 : decode cX11_rule 48 = .ok (.aload_n 0, 1) := by decide +kernel
theorem dX11_rule_49 : decode cX11_rule 49 = .ok (.getfield 41, 3) := by decide +kernel
theorem dX11_rule_52 : decode cX11_rule 52 = .ok (.iconst (-1), 1) := by decide +kernel
theorem dX11_rule_53 : decode cX11_rule 53 = .ok (.if_icmp .eq 13, 3) := by decide +kernel
theorem dX11_rule_56 : decode cX11_rule 56 = .ok (.new 71, 3) := by decide +kernel
theorem dX11_rule_59 : decode cX11_rule 59 = .ok (.dup, 1) := by decide +kernel
theorem dX11_rule_60 : decode cX11_rule 60 = .ok (.ldc 96, 2) := by decide +kernel
theorem dX11_rule_62 : decode cX11_rule 62 = .ok (.invokespecial 75, 3) := by decide +kernel
theorem dX11_rule_65 : decode cX11_rule 65 = .ok (.athrow, 1) := by decide +kernel
theorem dX11_rule_66 : decode cX11_rule 66 = .ok (.aload_n 0, 1) := by decide +kernel
theorem dX11_rule_67 : decode cX11_rule 67 = .ok (.getfield 30, 3) := by decide +kernel
theorem dX11_rule_70 : decode cX11_rule 70 = .ok (.getfield 98, 3) := by decide +kernel
theorem dX11_rule_73 : decode cX11_rule 73 = .ok (.getfield 102, 3) := by decide +kernel
theorem dX11_rule_76 : decode cX11_rule 76 = .ok (.bipush 6, 2) := by decide +kernel
theorem dX11_rule_78 : decode cX11_rule 78 = .ok (.if_icmp .lt 13, 3) := by decide +kernel
theorem dX11_rule_81 : decode cX11_rule 81 = .ok (.new 81, 3) := by decide +kernel
theorem dX11_rule_84 : decode cX11_rule 84 = .ok (.dup, 1) := by decide +kernel
theorem dX11_rule_85 : decode cX11_rule 85 = .ok (.ldc 107, 2) := by decide +kernel
theorem dX11_rule_87 : decode cX11_rule 87 = .ok (.invokespecial 85, 3) := by decide +kernel
theorem dX11_rule_90 : decode cX11_rule 90 = .ok (.athrow, 1) := by decide +kernel
theorem dX11_rule_91 : decode cX11_rule 91 = .ok (.aload_n 0, 1) := by decide +kernel
theorem dX11_rule_92 : decode cX11_rule 92 = .ok (.getfield 30, 3) := by decide +kernel
theorem dX11_rule_95 : decode cX11_rule 95 = .ok (.getfield 98, 3) := by decide +kernel
theorem dX11_rule_98 : decode cX11_rule 98 = .ok (.aload_n 0, 1) := by decide +kernel
theorem dX11_rule_99 : decode cX11_rule 99 = .ok (.getfield 86, 3) := by decide +kernel
theorem dX11_rule_102 : decode cX11_rule 102 = .ok (.invokevirtual 109, 3) := by decide +kernel
theorem dX11_rule_105 : decode cX11_rule 105 = .ok (.invokevirtual 113, 3) := by decide +kernel
theorem dX11_rule_108 : decode cX11_rule 108 = .ok (.ireturn, 1) := by decide +kernel
theorem dX11_fault_0 : decode cX11_fault 0 = .ok (.aload_n 0, 1) := by decide +kernel
theorem dX11_fault_1 : decode cX11_fault 1 = .ok (.getfield 41, 3) := by decide +kernel
theorem dX11_fault_4 : decode cX11_fault 4 = .ok (.ireturn, 1) := by decide +kernel
theorem dX11_look_0 : decode cX11_look 0 = .ok (.iload_n 1, 1) := by decide +kernel
theorem dX11_look_1 : decode cX11_look 1 = .ok (.ifCond .lt 17, 3) := by decide +kernel
theorem dX11_look_4 : decode cX11_look 4 = .ok (.iload_n 1, 1) := by decide +kernel
theorem dX11_look_5 : decode cX11_look 5 = .ok (.iconst 4, 1) := by decide +kernel
theorem dX11_look_6 : decode cX11_look 6 = .ok (.if_icmp .ge 12, 3) := by decide +kernel
theorem dX11_look_9 : decode cX11_look 9 = .ok (.iload_n 2, 1) := by decide +kernel
theorem dX11_look_10 : decode cX11_look 10 = .ok (.ifCond .lt 8, 3) := by decide +kernel
theorem dX11_look_13 : decode cX11_look 13 = .ok (.iload_n 2, 1) := by decide +kernel
theorem dX11_look_14 : decode cX11_look 14 = .ok (.iconst 4, 1) := by decide +kernel
theorem dX11_look_15 : decode cX11_look 15 = .ok (.if_icmp .lt 13, 3) := by decide +kernel
theorem dX11_look_18 : decode cX11_look 18 = .ok (.new 117, 3) := by decide +kernel
theorem dX11_look_21 : decode cX11_look 21 = .ok (.dup, 1) := by decide +kernel
theorem dX11_look_22 : decode cX11_look 22 = .ok (.ldc 119, 2) := by decide +kernel
theorem dX11_look_24 : decode cX11_look 24 = .ok (.invokespecial 121, 3) := by decide +kernel
theorem dX11_look_27 : decode cX11_look 27 = .ok (.athrow, 1) := by decide +kernel
theorem dX11_look_28 : decode cX11_look 28 = .ok (.iload_n 3, 1) := by decide +kernel
theorem dX11_look_29 : decode cX11_look 29 = .ok (.bipush 12, 2) := by decide +kernel
theorem dX11_look_31 : decode cX11_look 31 = .ok (.invokestatic 122, 3) := by decide +kernel
theorem dX11_look_34 : decode cX11_look 34 = .ok (.aload_n 0, 1) := by decide +kernel
theorem dX11_look_35 : decode cX11_look 35 = .ok (.getfield 30, 3) := by decide +kernel
theorem dX11_look_38 : decode cX11_look 38 = .ok (.getfield 60, 3) := by decide +kernel
theorem dX11_look_41 : decode cX11_look 41 = .ok (.getfield 126, 3) := by decide +kernel
theorem dX11_look_44 : decode cX11_look 44 = .ok (.iload_n 1, 1) := by decide +kernel
theorem dX11_look_45 : decode cX11_look 45 = .ok (.iconst 4, 1) := by decide +kernel
theorem dX11_look_46 : decode cX11_look 46 = .ok (.imul, 1) := by decide +kernel
theorem dX11_look_47 : decode cX11_look 47 = .ok (.iload_n 2, 1) := by decide +kernel
theorem dX11_look_48 : decode cX11_look 48 = .ok (.iadd, 1) := by decide +kernel
theorem dX11_look_49 : decode cX11_look 49 = .ok (.bipush 12, 2) := by decide +kernel
theorem dX11_look_51 : decode cX11_look 51 = .ok (.imul, 1) := by decide +kernel
theorem dX11_look_52 : decode cX11_look 52 = .ok (.iload_n 3, 1) := by decide +kernel
theorem dX11_look_53 : decode cX11_look 53 = .ok (.iadd, 1) := by decide +kernel
theorem dX11_look_54 : decode cX11_look 54 = .ok (.iaload, 1) := by decide +kernel
theorem dX11_look_55 : decode cX11_look 55 = .ok (.ireturn, 1) := by decide +kernel
theorem dX11_plays_0 : decode cX11_plays 0 = .ok (.iload_n 1, 1) := by decide +kernel
theorem dX11_plays_1 : decode cX11_plays 1 = .ok (.invokestatic 130, 3) := by decide +kernel
theorem dX11_plays_4 : decode cX11_plays 4 = .ok (.iload_n 2, 1) := by decide +kernel
theorem dX11_plays_5 : decode cX11_plays 5 = .ok (.iconst (-1), 1) := by decide +kernel
theorem dX11_plays_6 : decode cX11_plays 6 = .ok (.if_icmp .lt 17, 3) := by decide +kernel
theorem dX11_plays_9 : decode cX11_plays 9 = .ok (.iload_n 2, 1) := by decide +kernel
theorem dX11_plays_10 : decode cX11_plays 10 = .ok (.aload_n 0, 1) := by decide +kernel
theorem dX11_plays_11 : decode cX11_plays 11 = .ok (.getfield 30, 3) := by decide +kernel
theorem dX11_plays_14 : decode cX11_plays 14 = .ok (.getfield 98, 3) := by decide +kernel
theorem dX11_plays_17 : decode cX11_plays 17 = .ok (.getfield 102, 3) := by decide +kernel
theorem dX11_plays_20 : decode cX11_plays 20 = .ok (.if_icmp .lt 13, 3) := by decide +kernel
theorem dX11_plays_23 : decode cX11_plays 23 = .ok (.new 117, 3) := by decide +kernel
theorem dX11_plays_26 : decode cX11_plays 26 = .ok (.dup, 1) := by decide +kernel
theorem dX11_plays_27 : decode cX11_plays 27 = .ok (.ldc 133, 2) := by decide +kernel
theorem dX11_plays_29 : decode cX11_plays 29 = .ok (.invokespecial 121, 3) := by decide +kernel
theorem dX11_plays_32 : decode cX11_plays 32 = .ok (.athrow, 1) := by decide +kernel
theorem dX11_plays_33 : decode cX11_plays 33 = .ok (.aload_n 0, 1) := by decide +kernel
theorem dX11_plays_34 : decode cX11_plays 34 = .ok (.getfield 30, 3) := by decide +kernel
theorem dX11_plays_37 : decode cX11_plays 37 = .ok (.getfield 98, 3) := by decide +kernel
theorem dX11_plays_40 : decode cX11_plays 40 = .ok (.getfield 135, 3) := by decide +kernel
theorem dX11_plays_43 : decode cX11_plays 43 = .ok (.iload_n 1, 1) := by decide +kernel
theorem dX11_plays_44 : decode cX11_plays 44 = .ok (.iaload, 1) := by decide +kernel
theorem dX11_plays_45 : decode cX11_plays 45 = .ok (.istore_n 3, 1) := by decide +kernel
theorem dX11_plays_46 : decode cX11_plays 46 = .ok (.aload_n 0, 1) := by decide +kernel
theorem dX11_plays_47 : decode cX11_plays 47 = .ok (.getfield 30, 3) := by decide +kernel
theorem dX11_plays_50 : decode cX11_plays 50 = .ok (.getfield 98, 3) := by decide +kernel
theorem dX11_plays_53 : decode cX11_plays 53 = .ok (.getfield 135, 3) := by decide +kernel
theorem dX11_plays_56 : decode cX11_plays 56 = .ok (.iload_n 1, 1) := by decide +kernel
theorem dX11_plays_57 : decode cX11_plays 57 = .ok (.iload_n 2, 1) := by decide +kernel
theorem dX11_plays_58 : decode cX11_plays 58 = .ok (.iastore, 1) := by decide +kernel
theorem dX11_plays_59 : decode cX11_plays 59 = .ok (.iload_n 3, 1) := by decide +kernel
theorem dX11_plays_60 : decode cX11_plays 60 = .ok (.ireturn, 1) := by decide +kernel
theorem dX11_style_0 : decode cX11_style 0 = .ok (.iload_n 1, 1) := by decide +kernel
theorem dX11_style_1 : decode cX11_style 1 = .ok (.invokestatic 130, 3) := by decide +kernel
theorem dX11_style_4 : decode cX11_style 4 = .ok (.aload_n 0, 1) := by decide +kernel
theorem dX11_style_5 : decode cX11_style 5 = .ok (.getfield 30, 3) := by decide +kernel
theorem dX11_style_8 : decode cX11_style 8 = .ok (.getfield 98, 3) := by decide +kernel
theorem dX11_style_11 : decode cX11_style 11 = .ok (.iload_n 1, 1) := by decide +kernel
theorem dX11_style_12 : decode cX11_style 12 = .ok (.aload_n 0, 1) := by decide +kernel
theorem dX11_style_13 : decode cX11_style 13 = .ok (.getfield 30, 3) := by decide +kernel
theorem dX11_style_16 : decode cX11_style 16 = .ok (.getfield 138, 3) := by decide +kernel
theorem dX11_style_19 : decode cX11_style 19 = .ok (.invokevirtual 141, 3) := by decide +kernel
theorem dX11_style_22 : decode cX11_style 22 = .ok (.ireturn, 1) := by decide +kernel
theorem dX11_score_0 : decode cX11_score 0 = .ok (.iload_n 3, 1) := by decide +kernel
theorem dX11_score_1 : decode cX11_score 1 = .ok (.invokestatic 130, 3) := by decide +kernel
theorem dX11_score_4 : decode cX11_score 4 = .ok (.iload_n 1, 1) := by decide +kernel
theorem dX11_score_5 : decode cX11_score 5 = .ok (.bipush (-3), 2) := by decide +kernel
theorem dX11_score_7 : decode cX11_score 7 = .ok (.if_icmp .lt 23, 3) := by decide +kernel
theorem dX11_score_10 : decode cX11_score 10 = .ok (.iload_n 1, 1) := by decide +kernel
theorem dX11_score_11 : decode cX11_score 11 = .ok (.iconst 3, 1) := by decide +kernel
theorem dX11_score_12 : decode cX11_score 12 = .ok (.if_icmp .gt 18, 3) := by decide +kernel
theorem dX11_score_15 : decode cX11_score 15 = .ok (.iload_n 2, 1) := by decide +kernel
theorem dX11_score_16 : decode cX11_score 16 = .ok (.bipush (-3), 2) := by decide +kernel
theorem dX11_score_18 : decode cX11_score 18 = .ok (.if_icmp .lt 12, 3) := by decide +kernel
theorem dX11_score_21 : decode cX11_score 21 = .ok (.iload_n 2, 1) := by decide +kernel
theorem dX11_score_22 : decode cX11_score 22 = .ok (.iconst 3, 1) := by decide +kernel
theorem dX11_score_23 : decode cX11_score 23 = .ok (.if_icmp .gt 7, 3) := by decide +kernel
theorem dX11_score_26 : decode cX11_score 26 = .ok (.iconst 1, 1) := by decide +kernel
theorem dX11_score_27 : decode cX11_score 27 = .ok (.goto 4, 3) := by decide +kernel
theorem dX11_score_30 : decode cX11_score 30 = .ok (.iconst 0, 1) := by decide +kernel
theorem dX11_score_31 : decode cX11_score 31 = .ok (.istore 4, 2) := by decide +kernel
theorem dX11_score_33 : decode cX11_score 33 = .ok (.iload_n 1, 1) := by decide +kernel
theorem dX11_score_34 : decode cX11_score 34 = .ok (.iconst 4, 1) := by decide +kernel
theorem dX11_score_35 : decode cX11_score 35 = .ok (.if_icmp .ne 8, 3) := by decide +kernel
theorem dX11_score_38 : decode cX11_score 38 = .ok (.iload_n 2, 1) := by decide +kernel
theorem dX11_score_39 : decode cX11_score 39 = .ok (.iconst 3, 1) := by decide +kernel
theorem dX11_score_40 : decode cX11_score 40 = .ok (.if_icmp .eq 13, 3) := by decide +kernel
theorem dX11_score_43 : decode cX11_score 43 = .ok (.iload_n 1, 1) := by decide +kernel
theorem dX11_score_44 : decode cX11_score 44 = .ok (.iconst 3, 1) := by decide +kernel
theorem dX11_score_45 : decode cX11_score 45 = .ok (.if_icmp .ne 12, 3) := by decide +kernel
theorem dX11_score_48 : decode cX11_score 48 = .ok (.iload_n 2, 1) := by decide +kernel
theorem dX11_score_49 : decode cX11_score 49 = .ok (.iconst 4, 1) := by decide +kernel
theorem dX11_score_50 : decode cX11_score 50 = .ok (.if_icmp .ne 7, 3) := by decide +kernel
theorem dX11_score_53 : decode cX11_score 53 = .ok (.iconst 1, 1) := by decide +kernel
theorem dX11_score_54 : decode cX11_score 54 = .ok (.goto 4, 3) := by decide +kernel
theorem dX11_score_57 : decode cX11_score 57 = .ok (.iconst 0, 1) := by decide +kernel
theorem dX11_score_58 : decode cX11_score 58 = .ok (.istore 5, 2) := by decide +kernel
theorem dX11_score_60 : decode cX11_score 60 = .ok (.iload 4, 2) := by decide +kernel
theorem dX11_score_62 : decode cX11_score 62 = .ok (.ifCond .ne 18, 3) := by decide +kernel
theorem dX11_score_65 : decode cX11_score 65 = .ok (.iload 5, 2) := by decide +kernel
theorem dX11_score_67 : decode cX11_score 67 = .ok (.ifCond .ne 13, 3) := by decide +kernel
theorem dX11_score_70 : decode cX11_score 70 = .ok (.new 71, 3) := by decide +kernel
theorem dX11_score_73 : decode cX11_score 73 = .ok (.dup, 1) := by decide +kernel
theorem dX11_score_74 : decode cX11_score 74 = .ok (.ldc 145, 2) := by decide +kernel
theorem dX11_score_76 : decode cX11_score 76 = .ok (.invokespecial 75, 3) := by decide +kernel
theorem dX11_score_79 : decode cX11_score 79 = .ok (.athrow, 1) := by decide +kernel
theorem dX11_score_80 : decode cX11_score 80 = .ok (.aload_n 0, 1) := by decide +kernel
theorem dX11_score_81 : decode cX11_score 81 = .ok (.getfield 30, 3) := by decide +kernel
theorem dX11_score_84 : decode cX11_score 84 = .ok (.getfield 138, 3) := by decide +kernel
theorem dX11_score_87 : decode cX11_score 87 = .ok (.iload_n 1, 1) := by decide +kernel
theorem dX11_score_88 : decode cX11_score 88 = .ok (.iload_n 2, 1) := by decide +kernel
theorem dX11_score_89 : decode cX11_score 89 = .ok (.iload_n 3, 1) := by decide +kernel
theorem dX11_score_90 : decode cX11_score 90 = .ok (.invokevirtual 147, 3) := by decide +kernel
theorem dX11_score_93 : decode cX11_score 93 = .ok (.return_, 1) := by decide +kernel
theorem dX11_games_0 : decode cX11_games 0 = .ok (.iload_n 1, 1) := by decide +kernel
theorem dX11_games_1 : decode cX11_games 1 = .ok (.ifCond .lt 19, 3) := by decide +kernel
theorem dX11_games_4 : decode cX11_games 4 = .ok (.iload_n 1, 1) := by decide +kernel
theorem dX11_games_5 : decode cX11_games 5 = .ok (.bipush 6, 2) := by decide +kernel
theorem dX11_games_7 : decode cX11_games 7 = .ok (.if_icmp .gt 13, 3) := by decide +kernel
theorem dX11_games_10 : decode cX11_games 10 = .ok (.iload_n 2, 1) := by decide +kernel
theorem dX11_games_11 : decode cX11_games 11 = .ok (.ifCond .lt 9, 3) := by decide +kernel
theorem dX11_games_14 : decode cX11_games 14 = .ok (.iload_n 2, 1) := by decide +kernel
theorem dX11_games_15 : decode cX11_games 15 = .ok (.bipush 6, 2) := by decide +kernel
theorem dX11_games_17 : decode cX11_games 17 = .ok (.if_icmp .le 13, 3) := by decide +kernel
theorem dX11_games_20 : decode cX11_games 20 = .ok (.new 71, 3) := by decide +kernel
theorem dX11_games_23 : decode cX11_games 23 = .ok (.dup, 1) := by decide +kernel
theorem dX11_games_24 : decode cX11_games 24 = .ok (.ldc 151, 2) := by decide +kernel
theorem dX11_games_26 : decode cX11_games 26 = .ok (.invokespecial 75, 3) := by decide +kernel
theorem dX11_games_29 : decode cX11_games 29 = .ok (.athrow, 1) := by decide +kernel
theorem dX11_games_30 : decode cX11_games 30 = .ok (.aload_n 0, 1) := by decide +kernel
theorem dX11_games_31 : decode cX11_games 31 = .ok (.getfield 30, 3) := by decide +kernel
theorem dX11_games_34 : decode cX11_games 34 = .ok (.getfield 138, 3) := by decide +kernel
theorem dX11_games_37 : decode cX11_games 37 = .ok (.iload_n 1, 1) := by decide +kernel
theorem dX11_games_38 : decode cX11_games 38 = .ok (.putfield 153, 3) := by decide +kernel
theorem dX11_games_41 : decode cX11_games 41 = .ok (.aload_n 0, 1) := by decide +kernel
theorem dX11_games_42 : decode cX11_games 42 = .ok (.getfield 30, 3) := by decide +kernel
theorem dX11_games_45 : decode cX11_games 45 = .ok (.getfield 138, 3) := by decide +kernel
theorem dX11_games_48 : decode cX11_games 48 = .ok (.iload_n 2, 1) := by decide +kernel
theorem dX11_games_49 : decode cX11_games 49 = .ok (.putfield 156, 3) := by decide +kernel
theorem dX11_games_52 : decode cX11_games 52 = .ok (.return_, 1) := by decide +kernel
theorem dX11_begin_0 : decode cX11_begin 0 = .ok (.iload_n 1, 1) := by decide +kernel
theorem dX11_begin_1 : decode cX11_begin 1 = .ok (.ifCond .lt 17, 3) := by decide +kernel
theorem dX11_begin_4 : decode cX11_begin 4 = .ok (.iload_n 1, 1) := by decide +kernel
theorem dX11_begin_5 : decode cX11_begin 5 = .ok (.iconst 3, 1) := by decide +kernel
theorem dX11_begin_6 : decode cX11_begin 6 = .ok (.if_icmp .gt 12, 3) := by decide +kernel
theorem dX11_begin_9 : decode cX11_begin 9 = .ok (.iload_n 2, 1) := by decide +kernel
theorem dX11_begin_10 : decode cX11_begin 10 = .ok (.ifCond .lt 8, 3) := by decide +kernel
theorem dX11_begin_13 : decode cX11_begin 13 = .ok (.iload_n 2, 1) := by decide +kernel
theorem dX11_begin_14 : decode cX11_begin 14 = .ok (.iconst 3, 1) := by decide +kernel
theorem dX11_begin_15 : decode cX11_begin 15 = .ok (.if_icmp .le 13, 3) := by decide +kernel
theorem dX11_begin_18 : decode cX11_begin 18 = .ok (.new 71, 3) := by decide +kernel
theorem dX11_begin_21 : decode cX11_begin 21 = .ok (.dup, 1) := by decide +kernel
theorem dX11_begin_22 : decode cX11_begin 22 = .ok (.ldc 159, 2) := by decide +kernel
theorem dX11_begin_24 : decode cX11_begin 24 = .ok (.invokespecial 75, 3) := by decide +kernel
theorem dX11_begin_27 : decode cX11_begin 27 = .ok (.athrow, 1) := by decide +kernel
theorem dX11_begin_28 : decode cX11_begin 28 = .ok (.aload_n 0, 1) := by decide +kernel
theorem dX11_begin_29 : decode cX11_begin 29 = .ok (.getfield 30, 3) := by decide +kernel
theorem dX11_begin_32 : decode cX11_begin 32 = .ok (.getfield 138, 3) := by decide +kernel
theorem dX11_begin_35 : decode cX11_begin 35 = .ok (.iload_n 1, 1) := by decide +kernel
theorem dX11_begin_36 : decode cX11_begin 36 = .ok (.putfield 161, 3) := by decide +kernel
theorem dX11_begin_39 : decode cX11_begin 39 = .ok (.aload_n 0, 1) := by decide +kernel
theorem dX11_begin_40 : decode cX11_begin 40 = .ok (.getfield 30, 3) := by decide +kernel
theorem dX11_begin_43 : decode cX11_begin 43 = .ok (.getfield 138, 3) := by decide +kernel
theorem dX11_begin_46 : decode cX11_begin 46 = .ok (.iload_n 2, 1) := by decide +kernel
theorem dX11_begin_47 : decode cX11_begin 47 = .ok (.putfield 164, 3) := by decide +kernel
theorem dX11_begin_50 : decode cX11_begin 50 = .ok (.return_, 1) := by decide +kernel
theorem dX11_stands_0 : decode cX11_stands 0 = .ok (.iload_n 1, 1) := by decide +kernel
theorem dX11_stands_1 : decode cX11_stands 1 = .ok (.bipush 10, 2) := by decide +kernel
theorem dX11_stands_3 : decode cX11_stands 3 = .ok (.invokestatic 122, 3) := by decide +kernel
theorem dX11_stands_6 : decode cX11_stands 6 = .ok (.aload_n 0, 1) := by decide +kernel
theorem dX11_stands_7 : decode cX11_stands 7 = .ok (.getfield 30, 3) := by decide +kernel
theorem dX11_stands_10 : decode cX11_stands 10 = .ok (.getfield 138, 3) := by decide +kernel
theorem dX11_stands_13 : decode cX11_stands 13 = .ok (.iload_n 1, 1) := by decide +kernel
theorem dX11_stands_14 : decode cX11_stands 14 = .ok (.invokevirtual 167, 3) := by decide +kernel
theorem dX11_stands_17 : decode cX11_stands 17 = .ok (.ireturn, 1) := by decide +kernel
theorem dX11_rally_0 : decode cX11_rally 0 = .ok (.iload_n 1, 1) := by decide +kernel
theorem dX11_rally_1 : decode cX11_rally 1 = .ok (.iconst 2, 1) := by decide +kernel
theorem dX11_rally_2 : decode cX11_rally 2 = .ok (.if_icmp .ne 7, 3) := by decide +kernel
theorem dX11_rally_5 : decode cX11_rally 5 = .ok (.iload_n 2, 1) := by decide +kernel
theorem dX11_rally_6 : decode cX11_rally 6 = .ok (.invokestatic 171, 3) := by decide +kernel
theorem dX11_rally_9 : decode cX11_rally 9 = .ok (.iload_n 1, 1) := by decide +kernel
theorem dX11_rally_10 : decode cX11_rally 10 = .ok (.ifCond .lt 8, 3) := by decide +kernel
theorem dX11_rally_13 : decode cX11_rally 13 = .ok (.iload_n 1, 1) := by decide +kernel
theorem dX11_rally_14 : decode cX11_rally 14 = .ok (.iconst 2, 1) := by decide +kernel
theorem dX11_rally_15 : decode cX11_rally 15 = .ok (.if_icmp .le 13, 3) := by decide +kernel
theorem dX11_rally_18 : decode cX11_rally 18 = .ok (.new 71, 3) := by decide +kernel
theorem dX11_rally_21 : decode cX11_rally 21 = .ok (.dup, 1) := by decide +kernel
theorem dX11_rally_22 : decode cX11_rally 22 = .ok (.ldc 174, 2) := by decide +kernel
theorem dX11_rally_24 : decode cX11_rally 24 = .ok (.invokespecial 75, 3) := by decide +kernel
theorem dX11_rally_27 : decode cX11_rally 27 = .ok (.athrow, 1) := by decide +kernel
theorem dX11_rally_28 : decode cX11_rally 28 = .ok (.aload_n 0, 1) := by decide +kernel
theorem dX11_rally_29 : decode cX11_rally 29 = .ok (.aload_n 0, 1) := by decide +kernel
theorem dX11_rally_30 : decode cX11_rally 30 = .ok (.getfield 30, 3) := by decide +kernel
theorem dX11_rally_33 : decode cX11_rally 33 = .ok (.getfield 138, 3) := by decide +kernel
theorem dX11_rally_36 : decode cX11_rally 36 = .ok (.invokevirtual 176, 3) := by decide +kernel
theorem dX11_rally_39 : decode cX11_rally 39 = .ok (.aload_n 0, 1) := by decide +kernel
theorem dX11_rally_40 : decode cX11_rally 40 = .ok (.getfield 30, 3) := by decide +kernel
theorem dX11_rally_43 : decode cX11_rally 43 = .ok (.getfield 138, 3) := by decide +kernel
theorem dX11_rally_46 : decode cX11_rally 46 = .ok (.iload_n 1, 1) := by decide +kernel
theorem dX11_rally_47 : decode cX11_rally 47 = .ok (.iload_n 2, 1) := by decide +kernel
theorem dX11_rally_48 : decode cX11_rally 48 = .ok (.aload_n 0, 1) := by decide +kernel
theorem dX11_rally_49 : decode cX11_rally 49 = .ok (.getfield 30, 3) := by decide +kernel
theorem dX11_rally_52 : decode cX11_rally 52 = .ok (.getfield 60, 3) := by decide +kernel
theorem dX11_rally_55 : decode cX11_rally 55 = .ok (.invokevirtual 180, 3) := by decide +kernel
theorem dX11_rally_58 : decode cX11_rally 58 = .ok (.ireturn, 1) := by decide +kernel
theorem dX11_bisque_0 : decode cX11_bisque 0 = .ok (.iload_n 1, 1) := by decide +kernel
theorem dX11_bisque_1 : decode cX11_bisque 1 = .ok (.invokestatic 130, 3) := by decide +kernel
theorem dX11_bisque_4 : decode cX11_bisque 4 = .ok (.aload_n 0, 1) := by decide +kernel
theorem dX11_bisque_5 : decode cX11_bisque 5 = .ok (.aload_n 0, 1) := by decide +kernel
theorem dX11_bisque_6 : decode cX11_bisque 6 = .ok (.getfield 30, 3) := by decide +kernel
theorem dX11_bisque_9 : decode cX11_bisque 9 = .ok (.getfield 138, 3) := by decide +kernel
theorem dX11_bisque_12 : decode cX11_bisque 12 = .ok (.invokevirtual 176, 3) := by decide +kernel
theorem dX11_bisque_15 : decode cX11_bisque 15 = .ok (.aload_n 0, 1) := by decide +kernel
theorem dX11_bisque_16 : decode cX11_bisque 16 = .ok (.getfield 30, 3) := by decide +kernel
theorem dX11_bisque_19 : decode cX11_bisque 19 = .ok (.getfield 138, 3) := by decide +kernel
theorem dX11_bisque_22 : decode cX11_bisque 22 = .ok (.iload_n 1, 1) := by decide +kernel
theorem dX11_bisque_23 : decode cX11_bisque 23 = .ok (.aload_n 0, 1) := by decide +kernel
theorem dX11_bisque_24 : decode cX11_bisque 24 = .ok (.getfield 30, 3) := by decide +kernel
theorem dX11_bisque_27 : decode cX11_bisque 27 = .ok (.getfield 60, 3) := by decide +kernel
theorem dX11_bisque_30 : decode cX11_bisque 30 = .ok (.invokevirtual 184, 3) := by decide +kernel
theorem dX11_bisque_33 : decode cX11_bisque 33 = .ok (.ireturn, 1) := by decide +kernel
theorem dX11_chance_0 : decode cX11_chance 0 = .ok (.iload_n 1, 1) := by decide +kernel
theorem dX11_chance_1 : decode cX11_chance 1 = .ok (.invokestatic 130, 3) := by decide +kernel
theorem dX11_chance_4 : decode cX11_chance 4 = .ok (.iload_n 2, 1) := by decide +kernel
theorem dX11_chance_5 : decode cX11_chance 5 = .ok (.invokestatic 188, 3) := by decide +kernel
theorem dX11_chance_8 : decode cX11_chance 8 = .ok (.aload_n 0, 1) := by decide +kernel
theorem dX11_chance_9 : decode cX11_chance 9 = .ok (.aload_n 0, 1) := by decide +kernel
theorem dX11_chance_10 : decode cX11_chance 10 = .ok (.getfield 30, 3) := by decide +kernel
theorem dX11_chance_13 : decode cX11_chance 13 = .ok (.getfield 138, 3) := by decide +kernel
theorem dX11_chance_16 : decode cX11_chance 16 = .ok (.invokevirtual 176, 3) := by decide +kernel
theorem dX11_chance_19 : decode cX11_chance 19 = .ok (.aload_n 0, 1) := by decide +kernel
theorem dX11_chance_20 : decode cX11_chance 20 = .ok (.iconst (-1), 1) := by decide +kernel
theorem dX11_chance_21 : decode cX11_chance 21 = .ok (.iconst (-1), 1) := by decide +kernel
theorem dX11_chance_22 : decode cX11_chance 22 = .ok (.invokevirtual 191, 3) := by decide +kernel
theorem dX11_chance_25 : decode cX11_chance 25 = .ok (.astore_n 3, 1) := by decide +kernel
theorem dX11_chance_26 : decode cX11_chance 26 = .ok (.aload_n 3, 1) := by decide +kernel
theorem dX11_chance_27 : decode cX11_chance 27 = .ok (.aload_n 0, 1) := by decide +kernel
theorem dX11_chance_28 : decode cX11_chance 28 = .ok (.getfield 30, 3) := by decide +kernel
theorem dX11_chance_31 : decode cX11_chance 31 = .ok (.getfield 138, 3) := by decide +kernel
theorem dX11_chance_34 : decode cX11_chance 34 = .ok (.invokevirtual 195, 3) := by decide +kernel
theorem dX11_chance_37 : decode cX11_chance 37 = .ok (.istore 4, 2) := by decide +kernel
theorem dX11_chance_39 : decode cX11_chance 39 = .ok (.aload_n 3, 1) := by decide +kernel
theorem dX11_chance_40 : decode cX11_chance 40 = .ok (.iload_n 2, 1) := by decide +kernel
theorem dX11_chance_41 : decode cX11_chance 41 = .ok (.invokevirtual 201, 3) := by decide +kernel
theorem dX11_chance_44 : decode cX11_chance 44 = .ok (.aload_n 3, 1) := by decide +kernel
theorem dX11_chance_45 : decode cX11_chance 45 = .ok (.iload_n 2, 1) := by decide +kernel
theorem dX11_chance_46 : decode cX11_chance 46 = .ok (.iload_n 1, 1) := by decide +kernel
theorem dX11_chance_47 : decode cX11_chance 47 = .ok (.invokestatic 204, 3) := by decide +kernel
theorem dX11_chance_50 : decode cX11_chance 50 = .ok (.invokevirtual 207, 3) := by decide +kernel
theorem dX11_chance_53 : decode cX11_chance 53 = .ok (.aload_n 3, 1) := by decide +kernel
theorem dX11_chance_54 : decode cX11_chance 54 = .ok (.iload 4, 2) := by decide +kernel
theorem dX11_chance_56 : decode cX11_chance 56 = .ok (.invokevirtual 210, 3) := by decide +kernel
theorem dX11_chance_59 : decode cX11_chance 59 = .ok (.ireturn, 1) := by decide +kernel
theorem dX11_best_0 : decode cX11_best 0 = .ok (.iload_n 1, 1) := by decide +kernel
theorem dX11_best_1 : decode cX11_best 1 = .ok (.invokestatic 130, 3) := by decide +kernel
theorem dX11_best_4 : decode cX11_best 4 = .ok (.iload_n 2, 1) := by decide +kernel
theorem dX11_best_5 : decode cX11_best 5 = .ok (.invokestatic 188, 3) := by decide +kernel
theorem dX11_best_8 : decode cX11_best 8 = .ok (.aload_n 0, 1) := by decide +kernel
theorem dX11_best_9 : decode cX11_best 9 = .ok (.aload_n 0, 1) := by decide +kernel
theorem dX11_best_10 : decode cX11_best 10 = .ok (.getfield 30, 3) := by decide +kernel
theorem dX11_best_13 : decode cX11_best 13 = .ok (.getfield 138, 3) := by decide +kernel
theorem dX11_best_16 : decode cX11_best 16 = .ok (.invokevirtual 176, 3) := by decide +kernel
theorem dX11_best_19 : decode cX11_best 19 = .ok (.aload_n 0, 1) := by decide +kernel
theorem dX11_best_20 : decode cX11_best 20 = .ok (.iload_n 1, 1) := by decide +kernel
theorem dX11_best_21 : decode cX11_best 21 = .ok (.iconst (-1), 1) := by decide +kernel
theorem dX11_best_22 : decode cX11_best 22 = .ok (.invokevirtual 191, 3) := by decide +kernel
theorem dX11_best_25 : decode cX11_best 25 = .ok (.astore 4, 2) := by decide +kernel
theorem dX11_best_27 : decode cX11_best 27 = .ok (.aload 4, 2) := by decide +kernel
theorem dX11_best_29 : decode cX11_best 29 = .ok (.aload_n 0, 1) := by decide +kernel
theorem dX11_best_30 : decode cX11_best 30 = .ok (.getfield 30, 3) := by decide +kernel
theorem dX11_best_33 : decode cX11_best 33 = .ok (.getfield 138, 3) := by decide +kernel
theorem dX11_best_36 : decode cX11_best 36 = .ok (.invokevirtual 195, 3) := by decide +kernel
theorem dX11_best_39 : decode cX11_best 39 = .ok (.istore 5, 2) := by decide +kernel
theorem dX11_best_41 : decode cX11_best 41 = .ok (.aload 4, 2) := by decide +kernel
theorem dX11_best_43 : decode cX11_best 43 = .ok (.iload_n 2, 1) := by decide +kernel
theorem dX11_best_44 : decode cX11_best 44 = .ok (.invokevirtual 201, 3) := by decide +kernel
theorem dX11_best_47 : decode cX11_best 47 = .ok (.aload 4, 2) := by decide +kernel
theorem dX11_best_49 : decode cX11_best 49 = .ok (.iload_n 2, 1) := by decide +kernel
theorem dX11_best_50 : decode cX11_best 50 = .ok (.iload_n 1, 1) := by decide +kernel
theorem dX11_best_51 : decode cX11_best 51 = .ok (.invokestatic 204, 3) := by decide +kernel
theorem dX11_best_54 : decode cX11_best 54 = .ok (.invokevirtual 207, 3) := by decide +kernel
theorem dX11_best_57 : decode cX11_best 57 = .ok (.iload_n 3, 1) := by decide +kernel
theorem dX11_best_58 : decode cX11_best 58 = .ok (.ifCond .ne 11, 3) := by decide +kernel
theorem dX11_best_61 : decode cX11_best 61 = .ok (.aload 4, 2) := by decide +kernel
theorem dX11_best_63 : decode cX11_best 63 = .ok (.iload 5, 2) := by decide +kernel
theorem dX11_best_65 : decode cX11_best 65 = .ok (.invokevirtual 210, 3) := by decide +kernel
theorem dX11_best_68 : decode cX11_best 68 = .ok (.ireturn, 1) := by decide +kernel
theorem dX11_best_69 : decode cX11_best 69 = .ok (.iload_n 2, 1) := by decide +kernel
theorem dX11_best_70 : decode cX11_best 70 = .ok (.ifCond .ne 7, 3) := by decide +kernel
theorem dX11_best_73 : decode cX11_best 73 = .ok (.iconst (-1), 1) := by decide +kernel
theorem dX11_best_74 : decode cX11_best 74 = .ok (.goto 10, 3) := by decide +kernel
theorem dX11_best_77 : decode cX11_best 77 = .ok (.aload 4, 2) := by decide +kernel
theorem dX11_best_79 : decode cX11_best 79 = .ok (.iload 5, 2) := by decide +kernel
theorem dX11_best_81 : decode cX11_best 81 = .ok (.invokevirtual 213, 3) := by decide +kernel
theorem dX11_best_84 : decode cX11_best 84 = .ok (.ireturn, 1) := by decide +kernel
theorem dX11_saves_0 : decode cX11_saves 0 = .ok (.iload_n 1, 1) := by decide +kernel
theorem dX11_saves_1 : decode cX11_saves 1 = .ok (.invokestatic 130, 3) := by decide +kernel
theorem dX11_saves_4 : decode cX11_saves 4 = .ok (.iload_n 2, 1) := by decide +kernel
theorem dX11_saves_5 : decode cX11_saves 5 = .ok (.invokestatic 188, 3) := by decide +kernel
theorem dX11_saves_8 : decode cX11_saves 8 = .ok (.aload_n 0, 1) := by decide +kernel
theorem dX11_saves_9 : decode cX11_saves 9 = .ok (.aload_n 0, 1) := by decide +kernel
theorem dX11_saves_10 : decode cX11_saves 10 = .ok (.getfield 30, 3) := by decide +kernel
theorem dX11_saves_13 : decode cX11_saves 13 = .ok (.getfield 138, 3) := by decide +kernel
theorem dX11_saves_16 : decode cX11_saves 16 = .ok (.invokevirtual 176, 3) := by decide +kernel
theorem dX11_saves_19 : decode cX11_saves 19 = .ok (.iload_n 3, 1) := by decide +kernel
theorem dX11_saves_20 : decode cX11_saves 20 = .ok (.iconst 3, 1) := by decide +kernel
theorem dX11_saves_21 : decode cX11_saves 21 = .ok (.invokestatic 122, 3) := by decide +kernel
theorem dX11_saves_24 : decode cX11_saves 24 = .ok (.iload_n 2, 1) := by decide +kernel
theorem dX11_saves_25 : decode cX11_saves 25 = .ok (.ifCond .ne 5, 3) := by decide +kernel
theorem dX11_saves_28 : decode cX11_saves 28 = .ok (.iconst 0, 1) := by decide +kernel
theorem dX11_saves_29 : decode cX11_saves 29 = .ok (.ireturn, 1) := by decide +kernel
theorem dX11_saves_30 : decode cX11_saves 30 = .ok (.aload_n 0, 1) := by decide +kernel
theorem dX11_saves_31 : decode cX11_saves 31 = .ok (.iconst (-1), 1) := by decide +kernel
theorem dX11_saves_32 : decode cX11_saves 32 = .ok (.iload_n 1, 1) := by decide +kernel
theorem dX11_saves_33 : decode cX11_saves 33 = .ok (.invokevirtual 191, 3) := by decide +kernel
theorem dX11_saves_36 : decode cX11_saves 36 = .ok (.astore 4, 2) := by decide +kernel
theorem dX11_saves_38 : decode cX11_saves 38 = .ok (.aload 4, 2) := by decide +kernel
theorem dX11_saves_40 : decode cX11_saves 40 = .ok (.aload_n 0, 1) := by decide +kernel
theorem dX11_saves_41 : decode cX11_saves 41 = .ok (.getfield 30, 3) := by decide +kernel
theorem dX11_saves_44 : decode cX11_saves 44 = .ok (.getfield 138, 3) := by decide +kernel
theorem dX11_saves_47 : decode cX11_saves 47 = .ok (.invokevirtual 195, 3) := by decide +kernel
theorem dX11_saves_50 : decode cX11_saves 50 = .ok (.istore 5, 2) := by decide +kernel
theorem dX11_saves_52 : decode cX11_saves 52 = .ok (.aload 4, 2) := by decide +kernel
theorem dX11_saves_54 : decode cX11_saves 54 = .ok (.iload_n 2, 1) := by decide +kernel
theorem dX11_saves_55 : decode cX11_saves 55 = .ok (.invokevirtual 201, 3) := by decide +kernel
theorem dX11_saves_58 : decode cX11_saves 58 = .ok (.aload 4, 2) := by decide +kernel
theorem dX11_saves_60 : decode cX11_saves 60 = .ok (.iload_n 2, 1) := by decide +kernel
theorem dX11_saves_61 : decode cX11_saves 61 = .ok (.iload_n 1, 1) := by decide +kernel
theorem dX11_saves_62 : decode cX11_saves 62 = .ok (.invokestatic 204, 3) := by decide +kernel
theorem dX11_saves_65 : decode cX11_saves 65 = .ok (.invokevirtual 207, 3) := by decide +kernel
theorem dX11_saves_68 : decode cX11_saves 68 = .ok (.iload_n 3, 1) := by decide +kernel
theorem dX11_saves_69 : decode cX11_saves 69 = .ok (.iconst 1, 1) := by decide +kernel
theorem dX11_saves_70 : decode cX11_saves 70 = .ok (.if_icmp .ne 19, 3) := by decide +kernel
theorem dX11_saves_73 : decode cX11_saves 73 = .ok (.aload 4, 2) := by decide +kernel
theorem dX11_saves_75 : decode cX11_saves 75 = .ok (.iload 5, 2) := by decide +kernel
theorem dX11_saves_77 : decode cX11_saves 77 = .ok (.invokevirtual 216, 3) := by decide +kernel
theorem dX11_saves_80 : decode cX11_saves 80 = .ok (.ifCond .eq 7, 3) := by decide +kernel
theorem dX11_saves_83 : decode cX11_saves 83 = .ok (.iconst 1, 1) := by decide +kernel
theorem dX11_saves_84 : decode cX11_saves 84 = .ok (.goto 4, 3) := by decide +kernel
theorem dX11_saves_87 : decode cX11_saves 87 = .ok (.iconst 0, 1) := by decide +kernel
theorem dX11_saves_88 : decode cX11_saves 88 = .ok (.ireturn, 1) := by decide +kernel
theorem dX11_saves_89 : decode cX11_saves 89 = .ok (.aload 4, 2) := by decide +kernel
theorem dX11_saves_91 : decode cX11_saves 91 = .ok (.iload 5, 2) := by decide +kernel
theorem dX11_saves_93 : decode cX11_saves 93 = .ok (.invokevirtual 220, 3) := by decide +kernel
theorem dX11_saves_96 : decode cX11_saves 96 = .ok (.istore 6, 2) := by decide +kernel
theorem dX11_saves_98 : decode cX11_saves 98 = .ok (.iload_n 3, 1) := by decide +kernel
theorem dX11_saves_99 : decode cX11_saves 99 = .ok (.ifCond .ne 8, 3) := by decide +kernel
theorem dX11_saves_102 : decode cX11_saves 102 = .ok (.iload 6, 2) := by decide +kernel
theorem dX11_saves_104 : decode cX11_saves 104 = .ok (.goto 13, 3) := by decide +kernel
theorem dX11_saves_107 : decode cX11_saves 107 = .ok (.iload 6, 2) := by decide +kernel
theorem dX11_saves_109 : decode cX11_saves 109 = .ok (.aload 4, 2) := by decide +kernel
theorem dX11_saves_111 : decode cX11_saves 111 = .ok (.iload 5, 2) := by decide +kernel
theorem dX11_saves_113 : decode cX11_saves 113 = .ok (.invokevirtual 210, 3) := by decide +kernel
theorem dX11_saves_116 : decode cX11_saves 116 = .ok (.isub, 1) := by decide +kernel
theorem dX11_saves_117 : decode cX11_saves 117 = .ok (.ireturn, 1) := by decide +kernel
theorem dX11_worth_0 : decode cX11_worth 0 = .ok (.iload_n 1, 1) := by decide +kernel
theorem dX11_worth_1 : decode cX11_worth 1 = .ok (.invokestatic 130, 3) := by decide +kernel
theorem dX11_worth_4 : decode cX11_worth 4 = .ok (.iload_n 2, 1) := by decide +kernel
theorem dX11_worth_5 : decode cX11_worth 5 = .ok (.invokestatic 171, 3) := by decide +kernel
theorem dX11_worth_8 : decode cX11_worth 8 = .ok (.iload_n 3, 1) := by decide +kernel
theorem dX11_worth_9 : decode cX11_worth 9 = .ok (.invokestatic 188, 3) := by decide +kernel
theorem dX11_worth_12 : decode cX11_worth 12 = .ok (.aload_n 0, 1) := by decide +kernel
theorem dX11_worth_13 : decode cX11_worth 13 = .ok (.aload_n 0, 1) := by decide +kernel
theorem dX11_worth_14 : decode cX11_worth 14 = .ok (.getfield 30, 3) := by decide +kernel
theorem dX11_worth_17 : decode cX11_worth 17 = .ok (.getfield 138, 3) := by decide +kernel
theorem dX11_worth_20 : decode cX11_worth 20 = .ok (.invokevirtual 176, 3) := by decide +kernel
theorem dX11_worth_23 : decode cX11_worth 23 = .ok (.aload_n 0, 1) := by decide +kernel
theorem dX11_worth_24 : decode cX11_worth 24 = .ok (.getfield 30, 3) := by decide +kernel
theorem dX11_worth_27 : decode cX11_worth 27 = .ok (.getfield 138, 3) := by decide +kernel
theorem dX11_worth_30 : decode cX11_worth 30 = .ok (.getfield 223, 3) := by decide +kernel
theorem dX11_worth_33 : decode cX11_worth 33 = .ok (.ifCond .eq 6, 3) := by decide +kernel
theorem dX11_worth_36 : decode cX11_worth 36 = .ok (.ldc 227, 2) := by decide +kernel
theorem dX11_worth_38 : decode cX11_worth 38 = .ok (.ireturn, 1) := by decide +kernel
theorem dX11_worth_39 : decode cX11_worth 39 = .ok (.aload_n 0, 1) := by decide +kernel
theorem dX11_worth_40 : decode cX11_worth 40 = .ok (.getfield 37, 3) := by decide +kernel
theorem dX11_worth_43 : decode cX11_worth 43 = .ok (.aload_n 0, 1) := by decide +kernel
theorem dX11_worth_44 : decode cX11_worth 44 = .ok (.getfield 30, 3) := by decide +kernel
theorem dX11_worth_47 : decode cX11_worth 47 = .ok (.getfield 138, 3) := by decide +kernel
theorem dX11_worth_50 : decode cX11_worth 50 = .ok (.invokevirtual 228, 3) := by decide +kernel
theorem dX11_worth_53 : decode cX11_worth 53 = .ok (.aload_n 0, 1) := by decide +kernel
theorem dX11_worth_54 : decode cX11_worth 54 = .ok (.getfield 37, 3) := by decide +kernel
theorem dX11_worth_57 : decode cX11_worth 57 = .ok (.iconst 2, 1) := by decide +kernel
theorem dX11_worth_58 : decode cX11_worth 58 = .ok (.iload_n 2, 1) := by decide +kernel
theorem dX11_worth_59 : decode cX11_worth 59 = .ok (.aload_n 0, 1) := by decide +kernel
theorem dX11_worth_60 : decode cX11_worth 60 = .ok (.getfield 30, 3) := by decide +kernel
theorem dX11_worth_63 : decode cX11_worth 63 = .ok (.getfield 60, 3) := by decide +kernel
theorem dX11_worth_66 : decode cX11_worth 66 = .ok (.invokevirtual 180, 3) := by decide +kernel
theorem dX11_worth_69 : decode cX11_worth 69 = .ok (.pop, 1) := by decide +kernel
theorem dX11_worth_70 : decode cX11_worth 70 = .ok (.aload_n 0, 1) := by decide +kernel
theorem dX11_worth_71 : decode cX11_worth 71 = .ok (.iconst (-1), 1) := by decide +kernel
theorem dX11_worth_72 : decode cX11_worth 72 = .ok (.iconst (-1), 1) := by decide +kernel
theorem dX11_worth_73 : decode cX11_worth 73 = .ok (.invokevirtual 191, 3) := by decide +kernel
theorem dX11_worth_76 : decode cX11_worth 76 = .ok (.astore 4, 2) := by decide +kernel
theorem dX11_worth_78 : decode cX11_worth 78 = .ok (.aload 4, 2) := by decide +kernel
theorem dX11_worth_80 : decode cX11_worth 80 = .ok (.aload_n 0, 1) := by decide +kernel
theorem dX11_worth_81 : decode cX11_worth 81 = .ok (.getfield 30, 3) := by decide +kernel
theorem dX11_worth_84 : decode cX11_worth 84 = .ok (.getfield 138, 3) := by decide +kernel
theorem dX11_worth_87 : decode cX11_worth 87 = .ok (.invokevirtual 195, 3) := by decide +kernel
theorem dX11_worth_90 : decode cX11_worth 90 = .ok (.istore 5, 2) := by decide +kernel
theorem dX11_worth_92 : decode cX11_worth 92 = .ok (.aload 4, 2) := by decide +kernel
theorem dX11_worth_94 : decode cX11_worth 94 = .ok (.aload_n 0, 1) := by decide +kernel
theorem dX11_worth_95 : decode cX11_worth 95 = .ok (.getfield 37, 3) := by decide +kernel
theorem dX11_worth_98 : decode cX11_worth 98 = .ok (.invokevirtual 195, 3) := by decide +kernel
theorem dX11_worth_101 : decode cX11_worth 101 = .ok (.istore 6, 2) := by decide +kernel
theorem dX11_worth_103 : decode cX11_worth 103 = .ok (.aload 4, 2) := by decide +kernel
theorem dX11_worth_105 : decode cX11_worth 105 = .ok (.iload_n 3, 1) := by decide +kernel
theorem dX11_worth_106 : decode cX11_worth 106 = .ok (.invokevirtual 201, 3) := by decide +kernel
theorem dX11_worth_109 : decode cX11_worth 109 = .ok (.aload 4, 2) := by decide +kernel
theorem dX11_worth_111 : decode cX11_worth 111 = .ok (.iload_n 3, 1) := by decide +kernel
theorem dX11_worth_112 : decode cX11_worth 112 = .ok (.iload_n 1, 1) := by decide +kernel
theorem dX11_worth_113 : decode cX11_worth 113 = .ok (.invokestatic 204, 3) := by decide +kernel
theorem dX11_worth_116 : decode cX11_worth 116 = .ok (.invokevirtual 207, 3) := by decide +kernel
theorem dX11_worth_119 : decode cX11_worth 119 = .ok (.aload 4, 2) := by decide +kernel
theorem dX11_worth_121 : decode cX11_worth 121 = .ok (.iload 6, 2) := by decide +kernel
theorem dX11_worth_123 : decode cX11_worth 123 = .ok (.invokevirtual 210, 3) := by decide +kernel
theorem dX11_worth_126 : decode cX11_worth 126 = .ok (.aload 4, 2) := by decide +kernel
theorem dX11_worth_128 : decode cX11_worth 128 = .ok (.iload 5, 2) := by decide +kernel
theorem dX11_worth_130 : decode cX11_worth 130 = .ok (.invokevirtual 210, 3) := by decide +kernel
theorem dX11_worth_133 : decode cX11_worth 133 = .ok (.isub, 1) := by decide +kernel
theorem dX11_worth_134 : decode cX11_worth 134 = .ok (.ireturn, 1) := by decide +kernel
theorem dX11_set_0 : decode cX11_set 0 = .ok (.iload_n 1, 1) := by decide +kernel
theorem dX11_set_1 : decode cX11_set 1 = .ok (.invokestatic 130, 3) := by decide +kernel
theorem dX11_set_4 : decode cX11_set 4 = .ok (.iload_n 2, 1) := by decide +kernel
theorem dX11_set_5 : decode cX11_set 5 = .ok (.invokestatic 188, 3) := by decide +kernel
theorem dX11_set_8 : decode cX11_set 8 = .ok (.aload_n 0, 1) := by decide +kernel
theorem dX11_set_9 : decode cX11_set 9 = .ok (.aload_n 0, 1) := by decide +kernel
theorem dX11_set_10 : decode cX11_set 10 = .ok (.getfield 30, 3) := by decide +kernel
theorem dX11_set_13 : decode cX11_set 13 = .ok (.getfield 138, 3) := by decide +kernel
theorem dX11_set_16 : decode cX11_set 16 = .ok (.invokevirtual 176, 3) := by decide +kernel
theorem dX11_set_19 : decode cX11_set 19 = .ok (.aload_n 0, 1) := by decide +kernel
theorem dX11_set_20 : decode cX11_set 20 = .ok (.iconst (-1), 1) := by decide +kernel
theorem dX11_set_21 : decode cX11_set 21 = .ok (.iconst (-1), 1) := by decide +kernel
theorem dX11_set_22 : decode cX11_set 22 = .ok (.invokevirtual 191, 3) := by decide +kernel
theorem dX11_set_25 : decode cX11_set 25 = .ok (.astore_n 3, 1) := by decide +kernel
theorem dX11_set_26 : decode cX11_set 26 = .ok (.aload_n 3, 1) := by decide +kernel
theorem dX11_set_27 : decode cX11_set 27 = .ok (.aload_n 0, 1) := by decide +kernel
theorem dX11_set_28 : decode cX11_set 28 = .ok (.getfield 30, 3) := by decide +kernel
theorem dX11_set_31 : decode cX11_set 31 = .ok (.getfield 138, 3) := by decide +kernel
theorem dX11_set_34 : decode cX11_set 34 = .ok (.invokevirtual 195, 3) := by decide +kernel
theorem dX11_set_37 : decode cX11_set 37 = .ok (.istore 4, 2) := by decide +kernel
theorem dX11_set_39 : decode cX11_set 39 = .ok (.aload_n 3, 1) := by decide +kernel
theorem dX11_set_40 : decode cX11_set 40 = .ok (.aload_n 0, 1) := by decide +kernel
theorem dX11_set_41 : decode cX11_set 41 = .ok (.iconst 0, 1) := by decide +kernel
theorem dX11_set_42 : decode cX11_set 42 = .ok (.invokevirtual 230, 3) := by decide +kernel
theorem dX11_set_45 : decode cX11_set 45 = .ok (.invokevirtual 195, 3) := by decide +kernel
theorem dX11_set_48 : decode cX11_set 48 = .ok (.istore 5, 2) := by decide +kernel
theorem dX11_set_50 : decode cX11_set 50 = .ok (.aload_n 3, 1) := by decide +kernel
theorem dX11_set_51 : decode cX11_set 51 = .ok (.aload_n 0, 1) := by decide +kernel
theorem dX11_set_52 : decode cX11_set 52 = .ok (.iconst 1, 1) := by decide +kernel
theorem dX11_set_53 : decode cX11_set 53 = .ok (.invokevirtual 230, 3) := by decide +kernel
theorem dX11_set_56 : decode cX11_set 56 = .ok (.invokevirtual 195, 3) := by decide +kernel
theorem dX11_set_59 : decode cX11_set 59 = .ok (.istore 6, 2) := by decide +kernel
theorem dX11_set_61 : decode cX11_set 61 = .ok (.aload_n 3, 1) := by decide +kernel
theorem dX11_set_62 : decode cX11_set 62 = .ok (.iload_n 2, 1) := by decide +kernel
theorem dX11_set_63 : decode cX11_set 63 = .ok (.invokevirtual 201, 3) := by decide +kernel
theorem dX11_set_66 : decode cX11_set 66 = .ok (.new 234, 3) := by decide +kernel
theorem dX11_set_69 : decode cX11_set 69 = .ok (.dup, 1) := by decide +kernel
theorem dX11_set_70 : decode cX11_set 70 = .ok (.invokespecial 236, 3) := by decide +kernel
theorem dX11_set_73 : decode cX11_set 73 = .ok (.astore 7, 2) := by decide +kernel
theorem dX11_set_75 : decode cX11_set 75 = .ok (.iconst 0, 1) := by decide +kernel
theorem dX11_set_76 : decode cX11_set 76 = .ok (.istore 8, 2) := by decide +kernel
theorem dX11_set_78 : decode cX11_set 78 = .ok (.iload 8, 2) := by decide +kernel
theorem dX11_set_80 : decode cX11_set 80 = .ok (.iconst 4, 1) := by decide +kernel
theorem dX11_set_81 : decode cX11_set 81 = .ok (.if_icmp .ge 62, 3) := by decide +kernel
theorem dX11_set_84 : decode cX11_set 84 = .ok (.aload_n 3, 1) := by decide +kernel
theorem dX11_set_85 : decode cX11_set 85 = .ok (.iload_n 2, 1) := by decide +kernel
theorem dX11_set_86 : decode cX11_set 86 = .ok (.iconst 1, 1) := by decide +kernel
theorem dX11_set_87 : decode cX11_set 87 = .ok (.iload 8, 2) := by decide +kernel
theorem dX11_set_89 : decode cX11_set 89 = .ok (.ishl, 1) := by decide +kernel
theorem dX11_set_90 : decode cX11_set 90 = .ok (.invokevirtual 207, 3) := by decide +kernel
theorem dX11_set_93 : decode cX11_set 93 = .ok (.aload 7, 2) := by decide +kernel
theorem dX11_set_95 : decode cX11_set 95 = .ok (.getfield 237, 3) := by decide +kernel
theorem dX11_set_98 : decode cX11_set 98 = .ok (.iload 8, 2) := by decide +kernel
theorem dX11_set_100 : decode cX11_set 100 = .ok (.aload_n 3, 1) := by decide +kernel
theorem dX11_set_101 : decode cX11_set 101 = .ok (.iload 4, 2) := by decide +kernel
theorem dX11_set_103 : decode cX11_set 103 = .ok (.invokevirtual 210, 3) := by decide +kernel
theorem dX11_set_106 : decode cX11_set 106 = .ok (.iastore, 1) := by decide +kernel
theorem dX11_set_107 : decode cX11_set 107 = .ok (.aload 7, 2) := by decide +kernel
theorem dX11_set_109 : decode cX11_set 109 = .ok (.getfield 240, 3) := by decide +kernel
theorem dX11_set_112 : decode cX11_set 112 = .ok (.iload 8, 2) := by decide +kernel
theorem dX11_set_114 : decode cX11_set 114 = .ok (.aload_n 3, 1) := by decide +kernel
theorem dX11_set_115 : decode cX11_set 115 = .ok (.iload 5, 2) := by decide +kernel
theorem dX11_set_117 : decode cX11_set 117 = .ok (.invokevirtual 210, 3) := by decide +kernel
theorem dX11_set_120 : decode cX11_set 120 = .ok (.iastore, 1) := by decide +kernel
theorem dX11_set_121 : decode cX11_set 121 = .ok (.aload 7, 2) := by decide +kernel
theorem dX11_set_123 : decode cX11_set 123 = .ok (.getfield 240, 3) := by decide +kernel
theorem dX11_set_126 : decode cX11_set 126 = .ok (.iconst 4, 1) := by decide +kernel
theorem dX11_set_127 : decode cX11_set 127 = .ok (.iload 8, 2) := by decide +kernel
theorem dX11_set_129 : decode cX11_set 129 = .ok (.iadd, 1) := by decide +kernel
theorem dX11_set_130 : decode cX11_set 130 = .ok (.aload_n 3, 1) := by decide +kernel
theorem dX11_set_131 : decode cX11_set 131 = .ok (.iload 6, 2) := by decide +kernel
theorem dX11_set_133 : decode cX11_set 133 = .ok (.invokevirtual 210, 3) := by decide +kernel
theorem dX11_set_136 : decode cX11_set 136 = .ok (.iastore, 1) := by decide +kernel
theorem dX11_set_137 : decode cX11_set 137 = .ok (.iinc 8 1, 3) := by decide +kernel
theorem dX11_set_140 : decode cX11_set 140 = .ok (.goto (-62), 3) := by decide +kernel
theorem dX11_set_143 : decode cX11_set 143 = .ok (.aload 7, 2) := by decide +kernel
theorem dX11_set_145 : decode cX11_set 145 = .ok (.iload_n 1, 1) := by decide +kernel
theorem dX11_set_146 : decode cX11_set 146 = .ok (.aload_n 0, 1) := by decide +kernel
theorem dX11_set_147 : decode cX11_set 147 = .ok (.getfield 30, 3) := by decide +kernel
theorem dX11_set_150 : decode cX11_set 150 = .ok (.invokevirtual 243, 3) := by decide +kernel
theorem dX11_set_153 : decode cX11_set 153 = .ok (.ireturn, 1) := by decide +kernel
theorem dX11_ways_0 : decode cX11_ways 0 = .ok (.iload_n 1, 1) := by decide +kernel
theorem dX11_ways_1 : decode cX11_ways 1 = .ok (.invokestatic 130, 3) := by decide +kernel
theorem dX11_ways_4 : decode cX11_ways 4 = .ok (.iload_n 2, 1) := by decide +kernel
theorem dX11_ways_5 : decode cX11_ways 5 = .ok (.invokestatic 130, 3) := by decide +kernel
theorem dX11_ways_8 : decode cX11_ways 8 = .ok (.iload_n 3, 1) := by decide +kernel
theorem dX11_ways_9 : decode cX11_ways 9 = .ok (.invokestatic 130, 3) := by decide +kernel
theorem dX11_ways_12 : decode cX11_ways 12 = .ok (.iload 4, 2) := by decide +kernel
theorem dX11_ways_14 : decode cX11_ways 14 = .ok (.invokestatic 188, 3) := by decide +kernel
theorem dX11_ways_17 : decode cX11_ways 17 = .ok (.aload_n 0, 1) := by decide +kernel
theorem dX11_ways_18 : decode cX11_ways 18 = .ok (.iconst (-1), 1) := by decide +kernel
theorem dX11_ways_19 : decode cX11_ways 19 = .ok (.iconst (-1), 1) := by decide +kernel
theorem dX11_ways_20 : decode cX11_ways 20 = .ok (.invokevirtual 191, 3) := by decide +kernel
theorem dX11_ways_23 : decode cX11_ways 23 = .ok (.astore 5, 2) := by decide +kernel
theorem dX11_ways_25 : decode cX11_ways 25 = .ok (.aload 5, 2) := by decide +kernel
theorem dX11_ways_27 : decode cX11_ways 27 = .ok (.aload_n 0, 1) := by decide +kernel
theorem dX11_ways_28 : decode cX11_ways 28 = .ok (.iload_n 1, 1) := by decide +kernel
theorem dX11_ways_29 : decode cX11_ways 29 = .ok (.invokevirtual 230, 3) := by decide +kernel
theorem dX11_ways_32 : decode cX11_ways 32 = .ok (.invokevirtual 195, 3) := by decide +kernel
theorem dX11_ways_35 : decode cX11_ways 35 = .ok (.istore 6, 2) := by decide +kernel
theorem dX11_ways_37 : decode cX11_ways 37 = .ok (.aload 5, 2) := by decide +kernel
theorem dX11_ways_39 : decode cX11_ways 39 = .ok (.iload 4, 2) := by decide +kernel
theorem dX11_ways_41 : decode cX11_ways 41 = .ok (.invokevirtual 201, 3) := by decide +kernel
theorem dX11_ways_44 : decode cX11_ways 44 = .ok (.aload 5, 2) := by decide +kernel
theorem dX11_ways_46 : decode cX11_ways 46 = .ok (.iload 4, 2) := by decide +kernel
theorem dX11_ways_48 : decode cX11_ways 48 = .ok (.iconst 1, 1) := by decide +kernel
theorem dX11_ways_49 : decode cX11_ways 49 = .ok (.iload_n 2, 1) := by decide +kernel
theorem dX11_ways_50 : decode cX11_ways 50 = .ok (.iconst 2, 1) := by decide +kernel
theorem dX11_ways_51 : decode cX11_ways 51 = .ok (.imul, 1) := by decide +kernel
theorem dX11_ways_52 : decode cX11_ways 52 = .ok (.iload_n 3, 1) := by decide +kernel
theorem dX11_ways_53 : decode cX11_ways 53 = .ok (.iadd, 1) := by decide +kernel
theorem dX11_ways_54 : decode cX11_ways 54 = .ok (.ishl, 1) := by decide +kernel
theorem dX11_ways_55 : decode cX11_ways 55 = .ok (.invokevirtual 207, 3) := by decide +kernel
theorem dX11_ways_58 : decode cX11_ways 58 = .ok (.aload 5, 2) := by decide +kernel
theorem dX11_ways_60 : decode cX11_ways 60 = .ok (.iload 6, 2) := by decide +kernel
theorem dX11_ways_62 : decode cX11_ways 62 = .ok (.invokevirtual 210, 3) := by decide +kernel
theorem dX11_ways_65 : decode cX11_ways 65 = .ok (.ireturn, 1) := by decide +kernel
theorem dX11_even_0 : decode cX11_even 0 = .ok (.iload_n 1, 1) := by decide +kernel
theorem dX11_even_1 : decode cX11_even 1 = .ok (.invokestatic 188, 3) := by decide +kernel
theorem dX11_even_4 : decode cX11_even 4 = .ok (.iload_n 2, 1) := by decide +kernel
theorem dX11_even_5 : decode cX11_even 5 = .ok (.ifCond .lt 9, 3) := by decide +kernel
theorem dX11_even_8 : decode cX11_even 8 = .ok (.iload_n 2, 1) := by decide +kernel
theorem dX11_even_9 : decode cX11_even 9 = .ok (.ldc 247, 2) := by decide +kernel
theorem dX11_even_11 : decode cX11_even 11 = .ok (.if_icmp .le 13, 3) := by decide +kernel
theorem dX11_even_14 : decode cX11_even 14 = .ok (.new 71, 3) := by decide +kernel
theorem dX11_even_17 : decode cX11_even 17 = .ok (.dup, 1) := by decide +kernel
theorem dX11_even_18 : decode cX11_even 18 = .ok (.ldc 248, 2) := by decide +kernel
theorem dX11_even_20 : decode cX11_even 20 = .ok (.invokespecial 75, 3) := by decide +kernel
theorem dX11_even_23 : decode cX11_even 23 = .ok (.athrow, 1) := by decide +kernel
theorem dX11_even_24 : decode cX11_even 24 = .ok (.aload_n 0, 1) := by decide +kernel
theorem dX11_even_25 : decode cX11_even 25 = .ok (.iconst (-1), 1) := by decide +kernel
theorem dX11_even_26 : decode cX11_even 26 = .ok (.iconst (-1), 1) := by decide +kernel
theorem dX11_even_27 : decode cX11_even 27 = .ok (.invokevirtual 191, 3) := by decide +kernel
theorem dX11_even_30 : decode cX11_even 30 = .ok (.astore_n 3, 1) := by decide +kernel
theorem dX11_even_31 : decode cX11_even 31 = .ok (.bipush 16, 2) := by decide +kernel
theorem dX11_even_33 : decode cX11_even 33 = .ok (.newarray .int, 2) := by decide +kernel
theorem dX11_even_35 : decode cX11_even 35 = .ok (.astore 4, 2) := by decide +kernel
theorem dX11_even_37 : decode cX11_even 37 = .ok (.iconst 0, 1) := by decide +kernel
theorem dX11_even_38 : decode cX11_even 38 = .ok (.istore 5, 2) := by decide +kernel
theorem dX11_even_40 : decode cX11_even 40 = .ok (.iload 5, 2) := by decide +kernel
theorem dX11_even_42 : decode cX11_even 42 = .ok (.bipush 16, 2) := by decide +kernel
theorem dX11_even_44 : decode cX11_even 44 = .ok (.if_icmp .ge 48, 3) := by decide +kernel
theorem dX11_even_47 : decode cX11_even 47 = .ok (.aload_n 0, 1) := by decide +kernel
theorem dX11_even_48 : decode cX11_even 48 = .ok (.getfield 37, 3) := by decide +kernel
theorem dX11_even_51 : decode cX11_even 51 = .ok (.iload 5, 2) := by decide +kernel
theorem dX11_even_53 : decode cX11_even 53 = .ok (.iconst 4, 1) := by decide +kernel
theorem dX11_even_54 : decode cX11_even 54 = .ok (.idiv, 1) := by decide +kernel
theorem dX11_even_55 : decode cX11_even 55 = .ok (.ineg, 1) := by decide +kernel
theorem dX11_even_56 : decode cX11_even 56 = .ok (.iload 5, 2) := by decide +kernel
theorem dX11_even_58 : decode cX11_even 58 = .ok (.iconst 4, 1) := by decide +kernel
theorem dX11_even_59 : decode cX11_even 59 = .ok (.irem, 1) := by decide +kernel
theorem dX11_even_60 : decode cX11_even 60 = .ok (.aload_n 0, 1) := by decide +kernel
theorem dX11_even_61 : decode cX11_even 61 = .ok (.getfield 30, 3) := by decide +kernel
theorem dX11_even_64 : decode cX11_even 64 = .ok (.getfield 138, 3) := by decide +kernel
theorem dX11_even_67 : decode cX11_even 67 = .ok (.getfield 250, 3) := by decide +kernel
theorem dX11_even_70 : decode cX11_even 70 = .ok (.invokevirtual 147, 3) := by decide +kernel
theorem dX11_even_73 : decode cX11_even 73 = .ok (.aload 4, 2) := by decide +kernel
theorem dX11_even_75 : decode cX11_even 75 = .ok (.iload 5, 2) := by decide +kernel
theorem dX11_even_77 : decode cX11_even 77 = .ok (.aload_n 3, 1) := by decide +kernel
theorem dX11_even_78 : decode cX11_even 78 = .ok (.aload_n 0, 1) := by decide +kernel
theorem dX11_even_79 : decode cX11_even 79 = .ok (.getfield 37, 3) := by decide +kernel
theorem dX11_even_82 : decode cX11_even 82 = .ok (.invokevirtual 195, 3) := by decide +kernel
theorem dX11_even_85 : decode cX11_even 85 = .ok (.iastore, 1) := by decide +kernel
theorem dX11_even_86 : decode cX11_even 86 = .ok (.iinc 5 1, 3) := by decide +kernel
theorem dX11_even_89 : decode cX11_even 89 = .ok (.goto (-49), 3) := by decide +kernel
theorem dX11_even_92 : decode cX11_even 92 = .ok (.aload_n 3, 1) := by decide +kernel
theorem dX11_even_93 : decode cX11_even 93 = .ok (.iload_n 1, 1) := by decide +kernel
theorem dX11_even_94 : decode cX11_even 94 = .ok (.invokevirtual 201, 3) := by decide +kernel
theorem dX11_even_97 : decode cX11_even 97 = .ok (.aload_n 3, 1) := by decide +kernel
theorem dX11_even_98 : decode cX11_even 98 = .ok (.iload_n 1, 1) := by decide +kernel
theorem dX11_even_99 : decode cX11_even 99 = .ok (.iconst 0, 1) := by decide +kernel
theorem dX11_even_100 : decode cX11_even 100 = .ok (.invokestatic 204, 3) := by decide +kernel
theorem dX11_even_103 : decode cX11_even 103 = .ok (.invokevirtual 207, 3) := by decide +kernel
theorem dX11_even_106 : decode cX11_even 106 = .ok (.iconst 0, 1) := by decide +kernel
theorem dX11_even_107 : decode cX11_even 107 = .ok (.istore 5, 2) := by decide +kernel
theorem dX11_even_109 : decode cX11_even 109 = .ok (.iload 5, 2) := by decide +kernel
theorem dX11_even_111 : decode cX11_even 111 = .ok (.bipush 6, 2) := by decide +kernel
theorem dX11_even_113 : decode cX11_even 113 = .ok (.if_icmp .gt 93, 3) := by decide +kernel
theorem dX11_even_116 : decode cX11_even 116 = .ok (.iconst 0, 1) := by decide +kernel
theorem dX11_even_117 : decode cX11_even 117 = .ok (.iload 5, 2) := by decide +kernel
theorem dX11_even_119 : decode cX11_even 119 = .ok (.iconst 3, 1) := by decide +kernel
theorem dX11_even_120 : decode cX11_even 120 = .ok (.isub, 1) := by decide +kernel
theorem dX11_even_121 : decode cX11_even 121 = .ok (.invokestatic 253, 3) := by decide +kernel
theorem dX11_even_124 : decode cX11_even 124 = .ok (.istore 6, 2) := by decide +kernel
theorem dX11_even_126 : decode cX11_even 126 = .ok (.iconst 3, 1) := by decide +kernel
theorem dX11_even_127 : decode cX11_even 127 = .ok (.iload 5, 2) := by decide +kernel
theorem dX11_even_129 : decode cX11_even 129 = .ok (.invokestatic 259, 3) := by decide +kernel
theorem dX11_even_132 : decode cX11_even 132 = .ok (.istore 7, 2) := by decide +kernel
theorem dX11_even_134 : decode cX11_even 134 = .ok (.iload 6, 2) := by decide +kernel
theorem dX11_even_136 : decode cX11_even 136 = .ok (.istore 8, 2) := by decide +kernel
theorem dX11_even_138 : decode cX11_even 138 = .ok (.iload 8, 2) := by decide +kernel
theorem dX11_even_140 : decode cX11_even 140 = .ok (.iload 7, 2) := by decide +kernel
theorem dX11_even_142 : decode cX11_even 142 = .ok (.if_icmp .gt 58, 3) := by decide +kernel
theorem dX11_even_145 : decode cX11_even 145 = .ok (.iload 5, 2) := by decide +kernel
theorem dX11_even_147 : decode cX11_even 147 = .ok (.iload 8, 2) := by decide +kernel
theorem dX11_even_149 : decode cX11_even 149 = .ok (.isub, 1) := by decide +kernel
theorem dX11_even_150 : decode cX11_even 150 = .ok (.istore 9, 2) := by decide +kernel
theorem dX11_even_152 : decode cX11_even 152 = .ok (.aload_n 3, 1) := by decide +kernel
theorem dX11_even_153 : decode cX11_even 153 = .ok (.aload 4, 2) := by decide +kernel
theorem dX11_even_155 : decode cX11_even 155 = .ok (.iload 9, 2) := by decide +kernel
theorem dX11_even_157 : decode cX11_even 157 = .ok (.iconst 4, 1) := by decide +kernel
theorem dX11_even_158 : decode cX11_even 158 = .ok (.imul, 1) := by decide +kernel
theorem dX11_even_159 : decode cX11_even 159 = .ok (.iload 8, 2) := by decide +kernel
theorem dX11_even_161 : decode cX11_even 161 = .ok (.iadd, 1) := by decide +kernel
theorem dX11_even_162 : decode cX11_even 162 = .ok (.iaload, 1) := by decide +kernel
theorem dX11_even_163 : decode cX11_even 163 = .ok (.invokevirtual 210, 3) := by decide +kernel
theorem dX11_even_166 : decode cX11_even 166 = .ok (.ldc_w 262, 3) := by decide +kernel
theorem dX11_even_169 : decode cX11_even 169 = .ok (.isub, 1) := by decide +kernel
theorem dX11_even_170 : decode cX11_even 170 = .ok (.invokestatic 263, 3) := by decide +kernel
theorem dX11_even_173 : decode cX11_even 173 = .ok (.istore 10, 2) := by decide +kernel
theorem dX11_even_175 : decode cX11_even 175 = .ok (.iload 10, 2) := by decide +kernel
theorem dX11_even_177 : decode cX11_even 177 = .ok (.iload_n 2, 1) := by decide +kernel
theorem dX11_even_178 : decode cX11_even 178 = .ok (.sipush 1000, 3) := by decide +kernel
theorem dX11_even_181 : decode cX11_even 181 = .ok (.imul, 1) := by decide +kernel
theorem dX11_even_182 : decode cX11_even 182 = .ok (.if_icmp .gt 12, 3) := by decide +kernel
theorem dX11_even_185 : decode cX11_even 185 = .ok (.bipush 10, 2) := by decide +kernel
theorem dX11_even_187 : decode cX11_even 187 = .ok (.iload 9, 2) := by decide +kernel
theorem dX11_even_189 : decode cX11_even 189 = .ok (.imul, 1) := by decide +kernel
theorem dX11_even_190 : decode cX11_even 190 = .ok (.iload 8, 2) := by decide +kernel
theorem dX11_even_192 : decode cX11_even 192 = .ok (.iadd, 1) := by decide +kernel
theorem dX11_even_193 : decode cX11_even 193 = .ok (.ireturn, 1) := by decide +kernel
theorem dX11_even_194 : decode cX11_even 194 = .ok (.iinc 8 1, 3) := by decide +kernel
theorem dX11_even_197 : decode cX11_even 197 = .ok (.goto (-59), 3) := by decide +kernel
theorem dX11_even_200 : decode cX11_even 200 = .ok (.iinc 5 1, 3) := by decide +kernel
theorem dX11_even_203 : decode cX11_even 203 = .ok (.goto (-94), 3) := by decide +kernel
theorem dX11_even_206 : decode cX11_even 206 = .ok (.iconst (-1), 1) := by decide +kernel
theorem dX11_even_207 : decode cX11_even 207 = .ok (.ireturn, 1) := by decide +kernel
theorem dX11_log_0 : decode cX11_log 0 = .ok (.aload_n 0, 1) := by decide +kernel
theorem dX11_log_1 : decode cX11_log 1 = .ok (.invokevirtual 52, 3) := by decide +kernel
theorem dX11_log_4 : decode cX11_log 4 = .ok (.istore_n 2, 1) := by decide +kernel
theorem dX11_log_5 : decode cX11_log 5 = .ok (.aload_n 0, 1) := by decide +kernel
theorem dX11_log_6 : decode cX11_log 6 = .ok (.iload_n 2, 1) := by decide +kernel
theorem dX11_log_7 : decode cX11_log 7 = .ok (.invokevirtual 266, 3) := by decide +kernel
theorem dX11_log_10 : decode cX11_log 10 = .ok (.aload_n 0, 1) := by decide +kernel
theorem dX11_log_11 : decode cX11_log 11 = .ok (.getfield 37, 3) := by decide +kernel
theorem dX11_log_14 : decode cX11_log 14 = .ok (.aload_n 0, 1) := by decide +kernel
theorem dX11_log_15 : decode cX11_log 15 = .ok (.getfield 30, 3) := by decide +kernel
theorem dX11_log_18 : decode cX11_log 18 = .ok (.getfield 138, 3) := by decide +kernel
theorem dX11_log_21 : decode cX11_log 21 = .ok (.invokevirtual 228, 3) := by decide +kernel
theorem dX11_log_24 : decode cX11_log 24 = .ok (.iconst 0, 1) := by decide +kernel
theorem dX11_log_25 : decode cX11_log 25 = .ok (.istore_n 3, 1) := by decide +kernel
theorem dX11_log_26 : decode cX11_log 26 = .ok (.iload_n 3, 1) := by decide +kernel
theorem dX11_log_27 : decode cX11_log 27 = .ok (.iconst 1, 1) := by decide +kernel
theorem dX11_log_28 : decode cX11_log 28 = .ok (.iadd, 1) := by decide +kernel
theorem dX11_log_29 : decode cX11_log 29 = .ok (.iload_n 2, 1) := by decide +kernel
theorem dX11_log_30 : decode cX11_log 30 = .ok (.if_icmp .ge 52, 3) := by decide +kernel
theorem dX11_log_33 : decode cX11_log 33 = .ok (.aload_n 0, 1) := by decide +kernel
theorem dX11_log_34 : decode cX11_log 34 = .ok (.aload_n 0, 1) := by decide +kernel
theorem dX11_log_35 : decode cX11_log 35 = .ok (.getfield 37, 3) := by decide +kernel
theorem dX11_log_38 : decode cX11_log 38 = .ok (.invokevirtual 176, 3) := by decide +kernel
theorem dX11_log_41 : decode cX11_log 41 = .ok (.aload_n 0, 1) := by decide +kernel
theorem dX11_log_42 : decode cX11_log 42 = .ok (.getfield 37, 3) := by decide +kernel
theorem dX11_log_45 : decode cX11_log 45 = .ok (.aload_n 0, 1) := by decide +kernel
theorem dX11_log_46 : decode cX11_log 46 = .ok (.getfield 9, 3) := by decide +kernel
theorem dX11_log_49 : decode cX11_log 49 = .ok (.iload_n 3, 1) := by decide +kernel
theorem dX11_log_50 : decode cX11_log 50 = .ok (.baload, 1) := by decide +kernel
theorem dX11_log_51 : decode cX11_log 51 = .ok (.invokestatic 269, 3) := by decide +kernel
theorem dX11_log_54 : decode cX11_log 54 = .ok (.aload_n 0, 1) := by decide +kernel
theorem dX11_log_55 : decode cX11_log 55 = .ok (.getfield 9, 3) := by decide +kernel
theorem dX11_log_58 : decode cX11_log 58 = .ok (.iload_n 3, 1) := by decide +kernel
theorem dX11_log_59 : decode cX11_log 59 = .ok (.iconst 1, 1) := by decide +kernel
theorem dX11_log_60 : decode cX11_log 60 = .ok (.iadd, 1) := by decide +kernel
theorem dX11_log_61 : decode cX11_log 61 = .ok (.baload, 1) := by decide +kernel
theorem dX11_log_62 : decode cX11_log 62 = .ok (.bipush 48, 2) := by decide +kernel
theorem dX11_log_64 : decode cX11_log 64 = .ok (.isub, 1) := by decide +kernel
theorem dX11_log_65 : decode cX11_log 65 = .ok (.aload_n 0, 1) := by decide +kernel
theorem dX11_log_66 : decode cX11_log 66 = .ok (.getfield 30, 3) := by decide +kernel
theorem dX11_log_69 : decode cX11_log 69 = .ok (.getfield 60, 3) := by decide +kernel
theorem dX11_log_72 : decode cX11_log 72 = .ok (.invokevirtual 180, 3) := by decide +kernel
theorem dX11_log_75 : decode cX11_log 75 = .ok (.pop, 1) := by decide +kernel
theorem dX11_log_76 : decode cX11_log 76 = .ok (.iinc 3 2, 3) := by decide +kernel
theorem dX11_log_79 : decode cX11_log 79 = .ok (.goto (-53), 3) := by decide +kernel
theorem dX11_log_82 : decode cX11_log 82 = .ok (.iload_n 1, 1) := by decide +kernel
theorem dX11_log_83 : decode cX11_log 83 = .ok (.bipush 10, 2) := by decide +kernel
theorem dX11_log_85 : decode cX11_log 85 = .ok (.invokestatic 122, 3) := by decide +kernel
theorem dX11_log_88 : decode cX11_log 88 = .ok (.aload_n 0, 1) := by decide +kernel
theorem dX11_log_89 : decode cX11_log 89 = .ok (.getfield 37, 3) := by decide +kernel
theorem dX11_log_92 : decode cX11_log 92 = .ok (.iload_n 1, 1) := by decide +kernel
theorem dX11_log_93 : decode cX11_log 93 = .ok (.invokevirtual 167, 3) := by decide +kernel
theorem dX11_log_96 : decode cX11_log 96 = .ok (.ireturn, 1) := by decide +kernel
theorem dX11_mends_0 : decode cX11_mends 0 = .ok (.aload_n 0, 1) := by decide +kernel
theorem dX11_mends_1 : decode cX11_mends 1 = .ok (.invokevirtual 52, 3) := by decide +kernel
theorem dX11_mends_4 : decode cX11_mends 4 = .ok (.istore 6, 2) := by decide +kernel
theorem dX11_mends_6 : decode cX11_mends 6 = .ok (.aload_n 0, 1) := by decide +kernel
theorem dX11_mends_7 : decode cX11_mends 7 = .ok (.iload 6, 2) := by decide +kernel
theorem dX11_mends_9 : decode cX11_mends 9 = .ok (.invokevirtual 266, 3) := by decide +kernel
theorem dX11_mends_12 : decode cX11_mends 12 = .ok (.aload_n 0, 1) := by decide +kernel
theorem dX11_mends_13 : decode cX11_mends 13 = .ok (.getfield 272, 3) := by decide +kernel
theorem dX11_mends_16 : decode cX11_mends 16 = .ok (.ifnonnull 14, 3) := by decide +kernel
theorem dX11_mends_19 : decode cX11_mends 19 = .ok (.aload_n 0, 1) := by decide +kernel
theorem dX11_mends_20 : decode cX11_mends 20 = .ok (.new 276, 3) := by decide +kernel
theorem dX11_mends_23 : decode cX11_mends 23 = .ok (.dup, 1) := by decide +kernel
theorem dX11_mends_24 : decode cX11_mends 24 = .ok (.invokespecial 278, 3) := by decide +kernel
theorem dX11_mends_27 : decode cX11_mends 27 = .ok (.putfield 272, 3) := by decide +kernel
theorem dX11_mends_30 : decode cX11_mends 30 = .ok (.aload_n 0, 1) := by decide +kernel
theorem dX11_mends_31 : decode cX11_mends 31 = .ok (.getfield 272, 3) := by decide +kernel
theorem dX11_mends_34 : decode cX11_mends 34 = .ok (.aload_n 0, 1) := by decide +kernel
theorem dX11_mends_35 : decode cX11_mends 35 = .ok (.getfield 30, 3) := by decide +kernel
theorem dX11_mends_38 : decode cX11_mends 38 = .ok (.invokevirtual 279, 3) := by decide +kernel
theorem dX11_mends_41 : decode cX11_mends 41 = .ok (.iconst 0, 1) := by decide +kernel
theorem dX11_mends_42 : decode cX11_mends 42 = .ok (.istore 7, 2) := by decide +kernel
theorem dX11_mends_44 : decode cX11_mends 44 = .ok (.iload 7, 2) := by decide +kernel
theorem dX11_mends_46 : decode cX11_mends 46 = .ok (.iconst 1, 1) := by decide +kernel
theorem dX11_mends_47 : decode cX11_mends 47 = .ok (.iadd, 1) := by decide +kernel
theorem dX11_mends_48 : decode cX11_mends 48 = .ok (.iload 6, 2) := by decide +kernel
theorem dX11_mends_50 : decode cX11_mends 50 = .ok (.if_icmp .ge 38, 3) := by decide +kernel
theorem dX11_mends_53 : decode cX11_mends 53 = .ok (.aload_n 0, 1) := by decide +kernel
theorem dX11_mends_54 : decode cX11_mends 54 = .ok (.getfield 272, 3) := by decide +kernel
theorem dX11_mends_57 : decode cX11_mends 57 = .ok (.aload_n 0, 1) := by decide +kernel
theorem dX11_mends_58 : decode cX11_mends 58 = .ok (.getfield 9, 3) := by decide +kernel
theorem dX11_mends_61 : decode cX11_mends 61 = .ok (.iload 7, 2) := by decide +kernel
theorem dX11_mends_63 : decode cX11_mends 63 = .ok (.baload, 1) := by decide +kernel
theorem dX11_mends_64 : decode cX11_mends 64 = .ok (.invokestatic 269, 3) := by decide +kernel
theorem dX11_mends_67 : decode cX11_mends 67 = .ok (.aload_n 0, 1) := by decide +kernel
theorem dX11_mends_68 : decode cX11_mends 68 = .ok (.getfield 9, 3) := by decide +kernel
theorem dX11_mends_71 : decode cX11_mends 71 = .ok (.iload 7, 2) := by decide +kernel
theorem dX11_mends_73 : decode cX11_mends 73 = .ok (.iconst 1, 1) := by decide +kernel
theorem dX11_mends_74 : decode cX11_mends 74 = .ok (.iadd, 1) := by decide +kernel
theorem dX11_mends_75 : decode cX11_mends 75 = .ok (.baload, 1) := by decide +kernel
theorem dX11_mends_76 : decode cX11_mends 76 = .ok (.bipush 48, 2) := by decide +kernel
theorem dX11_mends_78 : decode cX11_mends 78 = .ok (.isub, 1) := by decide +kernel
theorem dX11_mends_79 : decode cX11_mends 79 = .ok (.invokevirtual 283, 3) := by decide +kernel
theorem dX11_mends_82 : decode cX11_mends 82 = .ok (.iinc 7 2, 3) := by decide +kernel
theorem dX11_mends_85 : decode cX11_mends 85 = .ok (.goto (-41), 3) := by decide +kernel
theorem dX11_mends_88 : decode cX11_mends 88 = .ok (.aload_n 0, 1) := by decide +kernel
theorem dX11_mends_89 : decode cX11_mends 89 = .ok (.getfield 272, 3) := by decide +kernel
theorem dX11_mends_92 : decode cX11_mends 92 = .ok (.iload_n 1, 1) := by decide +kernel
theorem dX11_mends_93 : decode cX11_mends 93 = .ok (.iload_n 2, 1) := by decide +kernel
theorem dX11_mends_94 : decode cX11_mends 94 = .ok (.iload_n 3, 1) := by decide +kernel
theorem dX11_mends_95 : decode cX11_mends 95 = .ok (.iload 4, 2) := by decide +kernel
theorem dX11_mends_97 : decode cX11_mends 97 = .ok (.invokevirtual 286, 3) := by decide +kernel
theorem dX11_mends_100 : decode cX11_mends 100 = .ok (.iload 5, 2) := by decide +kernel
theorem dX11_mends_102 : decode cX11_mends 102 = .ok (.ifCond .eq 13, 3) := by decide +kernel
theorem dX11_mends_105 : decode cX11_mends 105 = .ok (.aload_n 0, 1) := by decide +kernel
theorem dX11_mends_106 : decode cX11_mends 106 = .ok (.getfield 272, 3) := by decide +kernel
theorem dX11_mends_109 : decode cX11_mends 109 = .ok (.getfield 290, 3) := by decide +kernel
theorem dX11_mends_112 : decode cX11_mends 112 = .ok (.goto 11, 3) := by decide +kernel
theorem dX11_mends_115 : decode cX11_mends 115 = .ok (.aload_n 0, 1) := by decide +kernel
theorem dX11_mends_116 : decode cX11_mends 116 = .ok (.getfield 272, 3) := by decide +kernel
theorem dX11_mends_119 : decode cX11_mends 119 = .ok (.getfield 293, 3) := by decide +kernel
theorem dX11_mends_122 : decode cX11_mends 122 = .ok (.i2l, 1) := by decide +kernel
theorem dX11_mends_123 : decode cX11_mends 123 = .ok (.lreturn, 1) := by decide +kernel
theorem dX11_play_0 : decode cX11_play 0 = .ok (.iload_n 2, 1) := by decide +kernel
theorem dX11_play_1 : decode cX11_play 1 = .ok (.ifCond .lt 10, 3) := by decide +kernel
theorem dX11_play_4 : decode cX11_play 4 = .ok (.iload_n 2, 1) := by decide +kernel
theorem dX11_play_5 : decode cX11_play 5 = .ok (.sipush 200, 3) := by decide +kernel
theorem dX11_play_8 : decode cX11_play 8 = .ok (.if_icmp .le 14, 3) := by decide +kernel
theorem dX11_play_11 : decode cX11_play 11 = .ok (.new 71, 3) := by decide +kernel
theorem dX11_play_14 : decode cX11_play 14 = .ok (.dup, 1) := by decide +kernel
theorem dX11_play_15 : decode cX11_play 15 = .ok (.ldc_w 296, 3) := by decide +kernel
theorem dX11_play_18 : decode cX11_play 18 = .ok (.invokespecial 75, 3) := by decide +kernel
theorem dX11_play_21 : decode cX11_play 21 = .ok (.athrow, 1) := by decide +kernel
theorem dX11_play_22 : decode cX11_play 22 = .ok (.iload_n 3, 1) := by decide +kernel
theorem dX11_play_23 : decode cX11_play 23 = .ok (.bipush 11, 2) := by decide +kernel
theorem dX11_play_25 : decode cX11_play 25 = .ok (.invokestatic 122, 3) := by decide +kernel
theorem dX11_play_28 : decode cX11_play 28 = .ok (.aload_n 0, 1) := by decide +kernel
theorem dX11_play_29 : decode cX11_play 29 = .ok (.getfield 37, 3) := by decide +kernel
theorem dX11_play_32 : decode cX11_play 32 = .ok (.aload_n 0, 1) := by decide +kernel
theorem dX11_play_33 : decode cX11_play 33 = .ok (.getfield 30, 3) := by decide +kernel
theorem dX11_play_36 : decode cX11_play 36 = .ok (.getfield 138, 3) := by decide +kernel
theorem dX11_play_39 : decode cX11_play 39 = .ok (.invokevirtual 228, 3) := by decide +kernel
theorem dX11_play_42 : decode cX11_play 42 = .ok (.iconst 0, 1) := by decide +kernel
theorem dX11_play_43 : decode cX11_play 43 = .ok (.istore 4, 2) := by decide +kernel
theorem dX11_play_45 : decode cX11_play 45 = .ok (.iload_n 1, 1) := by decide +kernel
theorem dX11_play_46 : decode cX11_play 46 = .ok (.istore 5, 2) := by decide +kernel
theorem dX11_play_48 : decode cX11_play 48 = .ok (.iload 4, 2) := by decide +kernel
theorem dX11_play_50 : decode cX11_play 50 = .ok (.iload_n 2, 1) := by decide +kernel
theorem dX11_play_51 : decode cX11_play 51 = .ok (.if_icmp .ge 98, 3) := by decide +kernel
theorem dX11_play_54 : decode cX11_play 54 = .ok (.aload_n 0, 1) := by decide +kernel
theorem dX11_play_55 : decode cX11_play 55 = .ok (.getfield 37, 3) := by decide +kernel
theorem dX11_play_58 : decode cX11_play 58 = .ok (.aload_n 0, 1) := by decide +kernel
theorem dX11_play_59 : decode cX11_play 59 = .ok (.getfield 30, 3) := by decide +kernel
theorem dX11_play_62 : decode cX11_play 62 = .ok (.getfield 60, 3) := by decide +kernel
theorem dX11_play_65 : decode cX11_play 65 = .ok (.invokevirtual 298, 3) := by decide +kernel
theorem dX11_play_68 : decode cX11_play 68 = .ok (.ifCond .ne 81, 3) := by decide +kernel
theorem dX11_play_71 : decode cX11_play 71 = .ok (.iload 5, 2) := by decide +kernel
theorem dX11_play_73 : decode cX11_play 73 = .ok (.ldc_w 302, 3) := by decide +kernel
theorem dX11_play_76 : decode cX11_play 76 = .ok (.imul, 1) := by decide +kernel
theorem dX11_play_77 : decode cX11_play 77 = .ok (.sipush 12345, 3) := by decide +kernel
theorem dX11_play_80 : decode cX11_play 80 = .ok (.iadd, 1) := by decide +kernel
theorem dX11_play_81 : decode cX11_play 81 = .ok (.istore 5, 2) := by decide +kernel
theorem dX11_play_83 : decode cX11_play 83 = .ok (.aload_n 0, 1) := by decide +kernel
theorem dX11_play_84 : decode cX11_play 84 = .ok (.getfield 30, 3) := by decide +kernel
theorem dX11_play_87 : decode cX11_play 87 = .ok (.getfield 60, 3) := by decide +kernel
theorem dX11_play_90 : decode cX11_play 90 = .ok (.aload_n 0, 1) := by decide +kernel
theorem dX11_play_91 : decode cX11_play 91 = .ok (.getfield 30, 3) := by decide +kernel
theorem dX11_play_94 : decode cX11_play 94 = .ok (.aload_n 0, 1) := by decide +kernel
theorem dX11_play_95 : decode cX11_play 95 = .ok (.getfield 37, 3) := by decide +kernel
theorem dX11_play_98 : decode cX11_play 98 = .ok (.invokevirtual 303, 3) := by decide +kernel
theorem dX11_play_101 : decode cX11_play 101 = .ok (.iload 5, 2) := by decide +kernel
theorem dX11_play_103 : decode cX11_play 103 = .ok (.bipush 16, 2) := by decide +kernel
theorem dX11_play_105 : decode cX11_play 105 = .ok (.ishr, 1) := by decide +kernel
theorem dX11_play_106 : decode cX11_play 106 = .ok (.sipush 32767, 3) := by decide +kernel
theorem dX11_play_109 : decode cX11_play 109 = .ok (.iand, 1) := by decide +kernel
theorem dX11_play_110 : decode cX11_play 110 = .ok (.bipush 100, 2) := by decide +kernel
theorem dX11_play_112 : decode cX11_play 112 = .ok (.irem, 1) := by decide +kernel
theorem dX11_play_113 : decode cX11_play 113 = .ok (.invokevirtual 306, 3) := by decide +kernel
theorem dX11_play_116 : decode cX11_play 116 = .ok (.istore 6, 2) := by decide +kernel
theorem dX11_play_118 : decode cX11_play 118 = .ok (.aload_n 0, 1) := by decide +kernel
theorem dX11_play_119 : decode cX11_play 119 = .ok (.getfield 37, 3) := by decide +kernel
theorem dX11_play_122 : decode cX11_play 122 = .ok (.iload 6, 2) := by decide +kernel
theorem dX11_play_124 : decode cX11_play 124 = .ok (.iconst 2, 1) := by decide +kernel
theorem dX11_play_125 : decode cX11_play 125 = .ok (.invokestatic 259, 3) := by decide +kernel
theorem dX11_play_128 : decode cX11_play 128 = .ok (.iload 6, 2) := by decide +kernel
theorem dX11_play_130 : decode cX11_play 130 = .ok (.iconst 2, 1) := by decide +kernel
theorem dX11_play_131 : decode cX11_play 131 = .ok (.isub, 1) := by decide +kernel
theorem dX11_play_132 : decode cX11_play 132 = .ok (.aload_n 0, 1) := by decide +kernel
theorem dX11_play_133 : decode cX11_play 133 = .ok (.getfield 30, 3) := by decide +kernel
theorem dX11_play_136 : decode cX11_play 136 = .ok (.getfield 60, 3) := by decide +kernel
theorem dX11_play_139 : decode cX11_play 139 = .ok (.invokevirtual 180, 3) := by decide +kernel
theorem dX11_play_142 : decode cX11_play 142 = .ok (.pop, 1) := by decide +kernel
theorem dX11_play_143 : decode cX11_play 143 = .ok (.iinc 4 1, 3) := by decide +kernel
theorem dX11_play_146 : decode cX11_play 146 = .ok (.goto (-98), 3) := by decide +kernel
theorem dX11_play_149 : decode cX11_play 149 = .ok (.iload_n 3, 1) := by decide +kernel
theorem dX11_play_150 : decode cX11_play 150 = .ok (.bipush 10, 2) := by decide +kernel
theorem dX11_play_152 : decode cX11_play 152 = .ok (.if_icmp .ne 8, 3) := by decide +kernel
theorem dX11_play_155 : decode cX11_play 155 = .ok (.iload 4, 2) := by decide +kernel
theorem dX11_play_157 : decode cX11_play 157 = .ok (.goto 11, 3) := by decide +kernel
theorem dX11_play_160 : decode cX11_play 160 = .ok (.aload_n 0, 1) := by decide +kernel
theorem dX11_play_161 : decode cX11_play 161 = .ok (.getfield 37, 3) := by decide +kernel
theorem dX11_play_164 : decode cX11_play 164 = .ok (.iload_n 3, 1) := by decide +kernel
theorem dX11_play_165 : decode cX11_play 165 = .ok (.invokevirtual 167, 3) := by decide +kernel
theorem dX11_play_168 : decode cX11_play 168 = .ok (.ireturn, 1) := by decide +kernel
theorem dX11_image_0 : decode cX11_image 0 = .ok (.aload_n 0, 1) := by decide +kernel
theorem dX11_image_1 : decode cX11_image 1 = .ok (.getfield 309, 3) := by decide +kernel
theorem dX11_image_4 : decode cX11_image 4 = .ok (.ifnonnull 14, 3) := by decide +kernel
theorem dX11_image_7 : decode cX11_image 7 = .ok (.aload_n 0, 1) := by decide +kernel
theorem dX11_image_8 : decode cX11_image 8 = .ok (.new 27, 3) := by decide +kernel
theorem dX11_image_11 : decode cX11_image 11 = .ok (.dup, 1) := by decide +kernel
theorem dX11_image_12 : decode cX11_image 12 = .ok (.invokespecial 29, 3) := by decide +kernel
theorem dX11_image_15 : decode cX11_image 15 = .ok (.putfield 309, 3) := by decide +kernel
theorem dX11_image_18 : decode cX11_image 18 = .ok (.aload_n 0, 1) := by decide +kernel
theorem dX11_image_19 : decode cX11_image 19 = .ok (.getfield 309, 3) := by decide +kernel
theorem dX11_image_22 : decode cX11_image 22 = .ok (.aload_n 0, 1) := by decide +kernel
theorem dX11_image_23 : decode cX11_image 23 = .ok (.getfield 30, 3) := by decide +kernel
theorem dX11_image_26 : decode cX11_image 26 = .ok (.invokevirtual 312, 3) := by decide +kernel
theorem dX11_image_29 : decode cX11_image 29 = .ok (.return_, 1) := by decide +kernel
theorem dX11_back_0 : decode cX11_back 0 = .ok (.aload_n 0, 1) := by decide +kernel
theorem dX11_back_1 : decode cX11_back 1 = .ok (.getfield 309, 3) := by decide +kernel
theorem dX11_back_4 : decode cX11_back 4 = .ok (.ifnonnull 5, 3) := by decide +kernel
theorem dX11_back_7 : decode cX11_back 7 = .ok (.iconst 0, 1) := by decide +kernel
theorem dX11_back_8 : decode cX11_back 8 = .ok (.ireturn, 1) := by decide +kernel
theorem dX11_back_9 : decode cX11_back 9 = .ok (.aload_n 0, 1) := by decide +kernel
theorem dX11_back_10 : decode cX11_back 10 = .ok (.getfield 30, 3) := by decide +kernel
theorem dX11_back_13 : decode cX11_back 13 = .ok (.aload_n 0, 1) := by decide +kernel
theorem dX11_back_14 : decode cX11_back 14 = .ok (.getfield 309, 3) := by decide +kernel
theorem dX11_back_17 : decode cX11_back 17 = .ok (.invokevirtual 312, 3) := by decide +kernel
theorem dX11_back_20 : decode cX11_back 20 = .ok (.iconst 1, 1) := by decide +kernel
theorem dX11_back_21 : decode cX11_back 21 = .ok (.ireturn, 1) := by decide +kernel
theorem dX11_count_0 : decode cX11_count 0 = .ok (.iload_n 1, 1) := by decide +kernel
theorem dX11_count_1 : decode cX11_count 1 = .ok (.tableswitch 120 0 6 #[43, 54, 65, 76, 87, 98, 109], 43) := by decide +kernel
theorem dX11_count_44 : decode cX11_count 44 = .ok (.aload_n 0, 1) := by decide +kernel
theorem dX11_count_45 : decode cX11_count 45 = .ok (.getfield 30, 3) := by decide +kernel
theorem dX11_count_48 : decode cX11_count 48 = .ok (.getfield 60, 3) := by decide +kernel
theorem dX11_count_51 : decode cX11_count 51 = .ok (.getfield 78, 3) := by decide +kernel
theorem dX11_count_54 : decode cX11_count 54 = .ok (.ireturn, 1) := by decide +kernel
theorem dX11_count_55 : decode cX11_count 55 = .ok (.aload_n 0, 1) := by decide +kernel
theorem dX11_count_56 : decode cX11_count 56 = .ok (.getfield 30, 3) := by decide +kernel
theorem dX11_count_59 : decode cX11_count 59 = .ok (.getfield 98, 3) := by decide +kernel
theorem dX11_count_62 : decode cX11_count 62 = .ok (.getfield 102, 3) := by decide +kernel
theorem dX11_count_65 : decode cX11_count 65 = .ok (.ireturn, 1) := by decide +kernel
theorem dX11_count_66 : decode cX11_count 66 = .ok (.aload_n 0, 1) := by decide +kernel
theorem dX11_count_67 : decode cX11_count 67 = .ok (.getfield 30, 3) := by decide +kernel
theorem dX11_count_70 : decode cX11_count 70 = .ok (.getfield 60, 3) := by decide +kernel
theorem dX11_count_73 : decode cX11_count 73 = .ok (.getfield 314, 3) := by decide +kernel
theorem dX11_count_76 : decode cX11_count 76 = .ok (.ireturn, 1) := by decide +kernel
theorem dX11_count_77 : decode cX11_count 77 = .ok (.aload_n 0, 1) := by decide +kernel
theorem dX11_count_78 : decode cX11_count 78 = .ok (.getfield 30, 3) := by decide +kernel
theorem dX11_count_81 : decode cX11_count 81 = .ok (.getfield 60, 3) := by decide +kernel
theorem dX11_count_84 : decode cX11_count 84 = .ok (.getfield 317, 3) := by decide +kernel
theorem dX11_count_87 : decode cX11_count 87 = .ok (.ireturn, 1) := by decide +kernel
theorem dX11_count_88 : decode cX11_count 88 = .ok (.aload_n 0, 1) := by decide +kernel
theorem dX11_count_89 : decode cX11_count 89 = .ok (.getfield 30, 3) := by decide +kernel
theorem dX11_count_92 : decode cX11_count 92 = .ok (.getfield 60, 3) := by decide +kernel
theorem dX11_count_95 : decode cX11_count 95 = .ok (.getfield 320, 3) := by decide +kernel
theorem dX11_count_98 : decode cX11_count 98 = .ok (.ireturn, 1) := by decide +kernel
theorem dX11_count_99 : decode cX11_count 99 = .ok (.aload_n 0, 1) := by decide +kernel
theorem dX11_count_100 : decode cX11_count 100 = .ok (.getfield 30, 3) := by decide +kernel
theorem dX11_count_103 : decode cX11_count 103 = .ok (.getfield 138, 3) := by decide +kernel
theorem dX11_count_106 : decode cX11_count 106 = .ok (.getfield 161, 3) := by decide +kernel
theorem dX11_count_109 : decode cX11_count 109 = .ok (.ireturn, 1) := by decide +kernel
theorem dX11_count_110 : decode cX11_count 110 = .ok (.aload_n 0, 1) := by decide +kernel
theorem dX11_count_111 : decode cX11_count 111 = .ok (.getfield 30, 3) := by decide +kernel
theorem dX11_count_114 : decode cX11_count 114 = .ok (.getfield 138, 3) := by decide +kernel
theorem dX11_count_117 : decode cX11_count 117 = .ok (.getfield 164, 3) := by decide +kernel
theorem dX11_count_120 : decode cX11_count 120 = .ok (.ireturn, 1) := by decide +kernel
theorem dX11_count_121 : decode cX11_count 121 = .ok (.iconst (-1), 1) := by decide +kernel
theorem dX11_count_122 : decode cX11_count 122 = .ok (.ireturn, 1) := by decide +kernel
theorem dX11_needPlayer_0 : decode cX11_needPlayer 0 = .ok (.iload_n 0, 1) := by decide +kernel
theorem dX11_needPlayer_1 : decode cX11_needPlayer 1 = .ok (.ifCond .eq 19, 3) := by decide +kernel
theorem dX11_needPlayer_4 : decode cX11_needPlayer 4 = .ok (.iload_n 0, 1) := by decide +kernel
theorem dX11_needPlayer_5 : decode cX11_needPlayer 5 = .ok (.iconst 1, 1) := by decide +kernel
theorem dX11_needPlayer_6 : decode cX11_needPlayer 6 = .ok (.if_icmp .eq 14, 3) := by decide +kernel
theorem dX11_needPlayer_9 : decode cX11_needPlayer 9 = .ok (.new 117, 3) := by decide +kernel
theorem dX11_needPlayer_12 : decode cX11_needPlayer 12 = .ok (.dup, 1) := by decide +kernel
theorem dX11_needPlayer_13 : decode cX11_needPlayer 13 = .ok (.ldc_w 323, 3) := by decide +kernel
theorem dX11_needPlayer_16 : decode cX11_needPlayer 16 = .ok (.invokespecial 121, 3) := by decide +kernel
theorem dX11_needPlayer_19 : decode cX11_needPlayer 19 = .ok (.athrow, 1) := by decide +kernel
theorem dX11_needPlayer_20 : decode cX11_needPlayer 20 = .ok (.return_, 1) := by decide +kernel
theorem dX11_needLine_0 : decode cX11_needLine 0 = .ok (.iload_n 0, 1) := by decide +kernel
theorem dX11_needLine_1 : decode cX11_needLine 1 = .ok (.ifCond .lt 9, 3) := by decide +kernel
theorem dX11_needLine_4 : decode cX11_needLine 4 = .ok (.iload_n 0, 1) := by decide +kernel
theorem dX11_needLine_5 : decode cX11_needLine 5 = .ok (.bipush 10, 2) := by decide +kernel
theorem dX11_needLine_7 : decode cX11_needLine 7 = .ok (.if_icmp .lt 14, 3) := by decide +kernel
theorem dX11_needLine_10 : decode cX11_needLine 10 = .ok (.new 117, 3) := by decide +kernel
theorem dX11_needLine_13 : decode cX11_needLine 13 = .ok (.dup, 1) := by decide +kernel
theorem dX11_needLine_14 : decode cX11_needLine 14 = .ok (.ldc_w 325, 3) := by decide +kernel
theorem dX11_needLine_17 : decode cX11_needLine 17 = .ok (.invokespecial 121, 3) := by decide +kernel
theorem dX11_needLine_20 : decode cX11_needLine 20 = .ok (.athrow, 1) := by decide +kernel
theorem dX11_needLine_21 : decode cX11_needLine 21 = .ok (.return_, 1) := by decide +kernel
theorem dX11_needRallies_0 : decode cX11_needRallies 0 = .ok (.iload_n 0, 1) := by decide +kernel
theorem dX11_needRallies_1 : decode cX11_needRallies 1 = .ok (.ifCond .lt 9, 3) := by decide +kernel
theorem dX11_needRallies_4 : decode cX11_needRallies 4 = .ok (.iload_n 0, 1) := by decide +kernel
theorem dX11_needRallies_5 : decode cX11_needRallies 5 = .ok (.bipush 30, 2) := by decide +kernel
theorem dX11_needRallies_7 : decode cX11_needRallies 7 = .ok (.if_icmp .le 14, 3) := by decide +kernel
theorem dX11_needRallies_10 : decode cX11_needRallies 10 = .ok (.new 71, 3) := by decide +kernel
theorem dX11_needRallies_13 : decode cX11_needRallies 13 = .ok (.dup, 1) := by decide +kernel
theorem dX11_needRallies_14 : decode cX11_needRallies 14 = .ok (.ldc_w 327, 3) := by decide +kernel
theorem dX11_needRallies_17 : decode cX11_needRallies 17 = .ok (.invokespecial 75, 3) := by decide +kernel
