theorem dX0_init_0 : decode cX0_init 0 = .ok (.aload_n 0, 1) := by decide +kernel
theorem dX0_init_1 : decode cX0_init 1 = .ok (.invokespecial 3, 3) := by decide +kernel
theorem dX0_init_4 : decode cX0_init 4 = .ok (.aload_n 0, 1) := by decide +kernel
theorem dX0_init_5 : decode cX0_init 5 = .ok (.sipush 192, 3) := by decide +kernel
theorem dX0_init_8 : decode cX0_init 8 = .ok (.newarray .int, 2) := by decide +kernel
theorem dX0_init_10 : decode cX0_init 10 = .ok (.putfield 9, 3) := by decide +kernel
theorem dX0_init_13 : decode cX0_init 13 = .ok (.aload_n 0, 1) := by decide +kernel
theorem dX0_init_14 : decode cX0_init 14 = .ok (.iconst 1, 1) := by decide +kernel
theorem dX0_init_15 : decode cX0_init 15 = .ok (.putfield 15, 3) := by decide +kernel
theorem dX0_init_18 : decode cX0_init 18 = .ok (.iconst 0, 1) := by decide +kernel
theorem dX0_init_19 : decode cX0_init 19 = .ok (.istore_n 1, 1) := by decide +kernel
theorem dX0_init_20 : decode cX0_init 20 = .ok (.iload_n 1, 1) := by decide +kernel
theorem dX0_init_21 : decode cX0_init 21 = .ok (.bipush 16, 2) := by decide +kernel
theorem dX0_init_23 : decode cX0_init 23 = .ok (.if_icmp .ge 35, 3) := by decide +kernel
theorem dX0_init_26 : decode cX0_init 26 = .ok (.aload_n 0, 1) := by decide +kernel
theorem dX0_init_27 : decode cX0_init 27 = .ok (.getfield 9, 3) := by decide +kernel
theorem dX0_init_30 : decode cX0_init 30 = .ok (.iload_n 1, 1) := by decide +kernel
theorem dX0_init_31 : decode cX0_init 31 = .ok (.bipush 12, 2) := by decide +kernel
theorem dX0_init_33 : decode cX0_init 33 = .ok (.imul, 1) := by decide +kernel
theorem dX0_init_34 : decode cX0_init 34 = .ok (.iconst 0, 1) := by decide +kernel
theorem dX0_init_35 : decode cX0_init 35 = .ok (.iadd, 1) := by decide +kernel
theorem dX0_init_36 : decode cX0_init 36 = .ok (.bipush 50, 2) := by decide +kernel
theorem dX0_init_38 : decode cX0_init 38 = .ok (.iastore, 1) := by decide +kernel
theorem dX0_init_39 : decode cX0_init 39 = .ok (.aload_n 0, 1) := by decide +kernel
theorem dX0_init_40 : decode cX0_init 40 = .ok (.getfield 9, 3) := by decide +kernel
theorem dX0_init_43 : decode cX0_init 43 = .ok (.iload_n 1, 1) := by decide +kernel
theorem dX0_init_44 : decode cX0_init 44 = .ok (.bipush 12, 2) := by decide +kernel
theorem dX0_init_46 : decode cX0_init 46 = .ok (.imul, 1) := by decide +kernel
theorem dX0_init_47 : decode cX0_init 47 = .ok (.iconst 1, 1) := by decide +kernel
theorem dX0_init_48 : decode cX0_init 48 = .ok (.iadd, 1) := by decide +kernel
theorem dX0_init_49 : decode cX0_init 49 = .ok (.bipush 50, 2) := by decide +kernel
theorem dX0_init_51 : decode cX0_init 51 = .ok (.iastore, 1) := by decide +kernel
theorem dX0_init_52 : decode cX0_init 52 = .ok (.iinc 1 1, 3) := by decide +kernel
theorem dX0_init_55 : decode cX0_init 55 = .ok (.goto (-35), 3) := by decide +kernel
theorem dX0_init_58 : decode cX0_init 58 = .ok (.return_, 1) := by decide +kernel
theorem dX0_takeFrom_0 : decode cX0_takeFrom 0 = .ok (.aload_n 1, 1) := by decide +kernel
theorem dX0_takeFrom_1 : decode cX0_takeFrom 1 = .ok (.getfield 9, 3) := by decide +kernel
theorem dX0_takeFrom_4 : decode cX0_takeFrom 4 = .ok (.iconst 0, 1) := by decide +kernel
theorem dX0_takeFrom_5 : decode cX0_takeFrom 5 = .ok (.aload_n 0, 1) := by decide +kernel
theorem dX0_takeFrom_6 : decode cX0_takeFrom 6 = .ok (.getfield 9, 3) := by decide +kernel
theorem dX0_takeFrom_9 : decode cX0_takeFrom 9 = .ok (.iconst 0, 1) := by decide +kernel
theorem dX0_takeFrom_10 : decode cX0_takeFrom 10 = .ok (.aload_n 0, 1) := by decide +kernel
theorem dX0_takeFrom_11 : decode cX0_takeFrom 11 = .ok (.getfield 9, 3) := by decide +kernel
theorem dX0_takeFrom_14 : decode cX0_takeFrom 14 = .ok (.arraylength, 1) := by decide +kernel
theorem dX0_takeFrom_15 : decode cX0_takeFrom 15 = .ok (.invokestatic 19, 3) := by decide +kernel
theorem dX0_takeFrom_18 : decode cX0_takeFrom 18 = .ok (.aload_n 0, 1) := by decide +kernel
theorem dX0_takeFrom_19 : decode cX0_takeFrom 19 = .ok (.aload_n 1, 1) := by decide +kernel
theorem dX0_takeFrom_20 : decode cX0_takeFrom 20 = .ok (.getfield 15, 3) := by decide +kernel
theorem dX0_takeFrom_23 : decode cX0_takeFrom 23 = .ok (.putfield 15, 3) := by decide +kernel
theorem dX0_takeFrom_26 : decode cX0_takeFrom 26 = .ok (.aload_n 0, 1) := by decide +kernel
theorem dX0_takeFrom_27 : decode cX0_takeFrom 27 = .ok (.aload_n 1, 1) := by decide +kernel
theorem dX0_takeFrom_28 : decode cX0_takeFrom 28 = .ok (.getfield 25, 3) := by decide +kernel
theorem dX0_takeFrom_31 : decode cX0_takeFrom 31 = .ok (.putfield 25, 3) := by decide +kernel
theorem dX0_takeFrom_34 : decode cX0_takeFrom 34 = .ok (.aload_n 0, 1) := by decide +kernel
theorem dX0_takeFrom_35 : decode cX0_takeFrom 35 = .ok (.aload_n 1, 1) := by decide +kernel
theorem dX0_takeFrom_36 : decode cX0_takeFrom 36 = .ok (.getfield 28, 3) := by decide +kernel
theorem dX0_takeFrom_39 : decode cX0_takeFrom 39 = .ok (.putfield 28, 3) := by decide +kernel
theorem dX0_takeFrom_42 : decode cX0_takeFrom 42 = .ok (.aload_n 0, 1) := by decide +kernel
theorem dX0_takeFrom_43 : decode cX0_takeFrom 43 = .ok (.aload_n 1, 1) := by decide +kernel
theorem dX0_takeFrom_44 : decode cX0_takeFrom 44 = .ok (.getfield 31, 3) := by decide +kernel
theorem dX0_takeFrom_47 : decode cX0_takeFrom 47 = .ok (.putfield 31, 3) := by decide +kernel
theorem dX0_takeFrom_50 : decode cX0_takeFrom 50 = .ok (.return_, 1) := by decide +kernel
theorem dX0_readText_0 : decode cX0_readText 0 = .ok (.aload_n 1, 1) := by decide +kernel
theorem dX0_readText_1 : decode cX0_readText 1 = .ok (.invokevirtual 34, 3) := by decide +kernel
theorem dX0_readText_4 : decode cX0_readText 4 = .ok (.ifCond .ne 5, 3) := by decide +kernel
theorem dX0_readText_7 : decode cX0_readText 7 = .ok (.iconst (-1), 1) := by decide +kernel
theorem dX0_readText_8 : decode cX0_readText 8 = .ok (.ireturn, 1) := by decide +kernel
theorem dX0_readText_9 : decode cX0_readText 9 = .ok (.iconst 0, 1) := by decide +kernel
theorem dX0_readText_10 : decode cX0_readText 10 = .ok (.istore_n 2, 1) := by decide +kernel
theorem dX0_readText_11 : decode cX0_readText 11 = .ok (.iload_n 2, 1) := by decide +kernel
theorem dX0_readText_12 : decode cX0_readText 12 = .ok (.bipush 12, 2) := by decide +kernel
theorem dX0_readText_14 : decode cX0_readText 14 = .ok (.if_icmp .ge 60, 3) := by decide +kernel
theorem dX0_readText_17 : decode cX0_readText 17 = .ok (.aload_n 0, 1) := by decide +kernel
theorem dX0_readText_18 : decode cX0_readText 18 = .ok (.aload_n 1, 1) := by decide +kernel
theorem dX0_readText_19 : decode cX0_readText 19 = .ok (.invokevirtual 40, 3) := by decide +kernel
theorem dX0_readText_22 : decode cX0_readText 22 = .ok (.ifCond .ne 8, 3) := by decide +kernel
theorem dX0_readText_25 : decode cX0_readText 25 = .ok (.aload_n 1, 1) := by decide +kernel
theorem dX0_readText_26 : decode cX0_readText 26 = .ok (.invokevirtual 44, 3) := by decide +kernel
theorem dX0_readText_29 : decode cX0_readText 29 = .ok (.ireturn, 1) := by decide +kernel
theorem dX0_readText_30 : decode cX0_readText 30 = .ok (.aload_n 1, 1) := by decide +kernel
theorem dX0_readText_31 : decode cX0_readText 31 = .ok (.invokevirtual 34, 3) := by decide +kernel
theorem dX0_readText_34 : decode cX0_readText 34 = .ok (.ifCond .ne 19, 3) := by decide +kernel
theorem dX0_readText_37 : decode cX0_readText 37 = .ok (.aload_n 0, 1) := by decide +kernel
theorem dX0_readText_38 : decode cX0_readText 38 = .ok (.invokevirtual 47, 3) := by decide +kernel
theorem dX0_readText_41 : decode cX0_readText 41 = .ok (.ifCond .eq 7, 3) := by decide +kernel
theorem dX0_readText_44 : decode cX0_readText 44 = .ok (.iconst (-1), 1) := by decide +kernel
theorem dX0_readText_45 : decode cX0_readText 45 = .ok (.goto 7, 3) := by decide +kernel
theorem dX0_readText_48 : decode cX0_readText 48 = .ok (.aload_n 1, 1) := by decide +kernel
theorem dX0_readText_49 : decode cX0_readText 49 = .ok (.invokevirtual 44, 3) := by decide +kernel
theorem dX0_readText_52 : decode cX0_readText 52 = .ok (.ireturn, 1) := by decide +kernel
theorem dX0_readText_53 : decode cX0_readText 53 = .ok (.aload_n 1, 1) := by decide +kernel
theorem dX0_readText_54 : decode cX0_readText 54 = .ok (.sipush 159, 3) := by decide +kernel
theorem dX0_readText_57 : decode cX0_readText 57 = .ok (.invokevirtual 51, 3) := by decide +kernel
theorem dX0_readText_60 : decode cX0_readText 60 = .ok (.ifCond .ne 8, 3) := by decide +kernel
theorem dX0_readText_63 : decode cX0_readText 63 = .ok (.aload_n 1, 1) := by decide +kernel
theorem dX0_readText_64 : decode cX0_readText 64 = .ok (.invokevirtual 44, 3) := by decide +kernel
theorem dX0_readText_67 : decode cX0_readText 67 = .ok (.ireturn, 1) := by decide +kernel
theorem dX0_readText_68 : decode cX0_readText 68 = .ok (.iinc 2 1, 3) := by decide +kernel
theorem dX0_readText_71 : decode cX0_readText 71 = .ok (.goto (-60), 3) := by decide +kernel
theorem dX0_readText_74 : decode cX0_readText 74 = .ok (.aload_n 1, 1) := by decide +kernel
theorem dX0_readText_75 : decode cX0_readText 75 = .ok (.invokevirtual 44, 3) := by decide +kernel
theorem dX0_readText_78 : decode cX0_readText 78 = .ok (.ireturn, 1) := by decide +kernel
theorem dX0_readLine_0 : decode cX0_readLine 0 = .ok (.aload_n 1, 1) := by decide +kernel
theorem dX0_readLine_1 : decode cX0_readLine 1 = .ok (.iconst 2, 1) := by decide +kernel
theorem dX0_readLine_2 : decode cX0_readLine 2 = .ok (.invokevirtual 51, 3) := by decide +kernel
theorem dX0_readLine_5 : decode cX0_readLine 5 = .ok (.ifCond .eq 9, 3) := by decide +kernel
theorem dX0_readLine_8 : decode cX0_readLine 8 = .ok (.aload_n 0, 1) := by decide +kernel
theorem dX0_readLine_9 : decode cX0_readLine 9 = .ok (.aload_n 1, 1) := by decide +kernel
theorem dX0_readLine_10 : decode cX0_readLine 10 = .ok (.invokevirtual 55, 3) := by decide +kernel
theorem dX0_readLine_13 : decode cX0_readLine 13 = .ok (.ireturn, 1) := by decide +kernel
theorem dX0_readLine_14 : decode cX0_readLine 14 = .ok (.aload_n 1, 1) := by decide +kernel
theorem dX0_readLine_15 : decode cX0_readLine 15 = .ok (.bipush 6, 2) := by decide +kernel
theorem dX0_readLine_17 : decode cX0_readLine 17 = .ok (.invokevirtual 51, 3) := by decide +kernel
theorem dX0_readLine_20 : decode cX0_readLine 20 = .ok (.ifCond .eq 28, 3) := by decide +kernel
theorem dX0_readLine_23 : decode cX0_readLine 23 = .ok (.aload_n 0, 1) := by decide +kernel
theorem dX0_readLine_24 : decode cX0_readLine 24 = .ok (.aload_n 1, 1) := by decide +kernel
theorem dX0_readLine_25 : decode cX0_readLine 25 = .ok (.iconst 1, 1) := by decide +kernel
theorem dX0_readLine_26 : decode cX0_readLine 26 = .ok (.bipush 6, 2) := by decide +kernel
theorem dX0_readLine_28 : decode cX0_readLine 28 = .ok (.invokevirtual 58, 3) := by decide +kernel
theorem dX0_readLine_31 : decode cX0_readLine 31 = .ok (.putfield 15, 3) := by decide +kernel
theorem dX0_readLine_34 : decode cX0_readLine 34 = .ok (.aload_n 0, 1) := by decide +kernel
theorem dX0_readLine_35 : decode cX0_readLine 35 = .ok (.getfield 15, 3) := by decide +kernel
theorem dX0_readLine_38 : decode cX0_readLine 38 = .ok (.iconst (-1), 1) := by decide +kernel
theorem dX0_readLine_39 : decode cX0_readLine 39 = .ok (.if_icmp .eq 7, 3) := by decide +kernel
theorem dX0_readLine_42 : decode cX0_readLine 42 = .ok (.iconst 1, 1) := by decide +kernel
theorem dX0_readLine_43 : decode cX0_readLine 43 = .ok (.goto 4, 3) := by decide +kernel
theorem dX0_readLine_46 : decode cX0_readLine 46 = .ok (.iconst 0, 1) := by decide +kernel
theorem dX0_readLine_47 : decode cX0_readLine 47 = .ok (.ireturn, 1) := by decide +kernel
theorem dX0_readLine_48 : decode cX0_readLine 48 = .ok (.aload_n 1, 1) := by decide +kernel
theorem dX0_readLine_49 : decode cX0_readLine 49 = .ok (.bipush 7, 2) := by decide +kernel
theorem dX0_readLine_51 : decode cX0_readLine 51 = .ok (.invokevirtual 51, 3) := by decide +kernel
theorem dX0_readLine_54 : decode cX0_readLine 54 = .ok (.ifCond .eq 27, 3) := by decide +kernel
theorem dX0_readLine_57 : decode cX0_readLine 57 = .ok (.aload_n 0, 1) := by decide +kernel
theorem dX0_readLine_58 : decode cX0_readLine 58 = .ok (.aload_n 1, 1) := by decide +kernel
theorem dX0_readLine_59 : decode cX0_readLine 59 = .ok (.iconst 0, 1) := by decide +kernel
theorem dX0_readLine_60 : decode cX0_readLine 60 = .ok (.iconst 2, 1) := by decide +kernel
theorem dX0_readLine_61 : decode cX0_readLine 61 = .ok (.invokevirtual 58, 3) := by decide +kernel
theorem dX0_readLine_64 : decode cX0_readLine 64 = .ok (.putfield 25, 3) := by decide +kernel
theorem dX0_readLine_67 : decode cX0_readLine 67 = .ok (.aload_n 0, 1) := by decide +kernel
theorem dX0_readLine_68 : decode cX0_readLine 68 = .ok (.getfield 25, 3) := by decide +kernel
theorem dX0_readLine_71 : decode cX0_readLine 71 = .ok (.iconst (-1), 1) := by decide +kernel
theorem dX0_readLine_72 : decode cX0_readLine 72 = .ok (.if_icmp .eq 7, 3) := by decide +kernel
theorem dX0_readLine_75 : decode cX0_readLine 75 = .ok (.iconst 1, 1) := by decide +kernel
theorem dX0_readLine_76 : decode cX0_readLine 76 = .ok (.goto 4, 3) := by decide +kernel
theorem dX0_readLine_79 : decode cX0_readLine 79 = .ok (.iconst 0, 1) := by decide +kernel
theorem dX0_readLine_80 : decode cX0_readLine 80 = .ok (.ireturn, 1) := by decide +kernel
theorem dX0_readLine_81 : decode cX0_readLine 81 = .ok (.aload_n 1, 1) := by decide +kernel
theorem dX0_readLine_82 : decode cX0_readLine 82 = .ok (.bipush 8, 2) := by decide +kernel
theorem dX0_readLine_84 : decode cX0_readLine 84 = .ok (.invokevirtual 51, 3) := by decide +kernel
theorem dX0_readLine_87 : decode cX0_readLine 87 = .ok (.ifCond .eq 27, 3) := by decide +kernel
theorem dX0_readLine_90 : decode cX0_readLine 90 = .ok (.aload_n 0, 1) := by decide +kernel
theorem dX0_readLine_91 : decode cX0_readLine 91 = .ok (.aload_n 1, 1) := by decide +kernel
theorem dX0_readLine_92 : decode cX0_readLine 92 = .ok (.iconst 0, 1) := by decide +kernel
theorem dX0_readLine_93 : decode cX0_readLine 93 = .ok (.iconst 1, 1) := by decide +kernel
theorem dX0_readLine_94 : decode cX0_readLine 94 = .ok (.invokevirtual 58, 3) := by decide +kernel
theorem dX0_readLine_97 : decode cX0_readLine 97 = .ok (.putfield 28, 3) := by decide +kernel
theorem dX0_readLine_100 : decode cX0_readLine 100 = .ok (.aload_n 0, 1) := by decide +kernel
theorem dX0_readLine_101 : decode cX0_readLine 101 = .ok (.getfield 28, 3) := by decide +kernel
theorem dX0_readLine_104 : decode cX0_readLine 104 = .ok (.iconst (-1), 1) := by decide +kernel
theorem dX0_readLine_105 : decode cX0_readLine 105 = .ok (.if_icmp .eq 7, 3) := by decide +kernel
theorem dX0_readLine_108 : decode cX0_readLine 108 = .ok (.iconst 1, 1) := by decide +kernel
theorem dX0_readLine_109 : decode cX0_readLine 109 = .ok (.goto 4, 3) := by decide +kernel
theorem dX0_readLine_112 : decode cX0_readLine 112 = .ok (.iconst 0, 1) := by decide +kernel
theorem dX0_readLine_113 : decode cX0_readLine 113 = .ok (.ireturn, 1) := by decide +kernel
theorem dX0_readLine_114 : decode cX0_readLine 114 = .ok (.iconst 0, 1) := by decide +kernel
theorem dX0_readLine_115 : decode cX0_readLine 115 = .ok (.ireturn, 1) := by decide +kernel
theorem dX0_readRally_0 : decode cX0_readRally 0 = .ok (.aload_n 1, 1) := by decide +kernel
theorem dX0_readRally_1 : decode cX0_readRally 1 = .ok (.iconst 0, 1) := by decide +kernel
theorem dX0_readRally_2 : decode cX0_readRally 2 = .ok (.iconst 3, 1) := by decide +kernel
theorem dX0_readRally_3 : decode cX0_readRally 3 = .ok (.invokevirtual 58, 3) := by decide +kernel
theorem dX0_readRally_6 : decode cX0_readRally 6 = .ok (.istore_n 2, 1) := by decide +kernel
theorem dX0_readRally_7 : decode cX0_readRally 7 = .ok (.iload_n 2, 1) := by decide +kernel
theorem dX0_readRally_8 : decode cX0_readRally 8 = .ok (.iconst (-1), 1) := by decide +kernel
theorem dX0_readRally_9 : decode cX0_readRally 9 = .ok (.if_icmp .ne 5, 3) := by decide +kernel
theorem dX0_readRally_12 : decode cX0_readRally 12 = .ok (.iconst 0, 1) := by decide +kernel
theorem dX0_readRally_13 : decode cX0_readRally 13 = .ok (.ireturn, 1) := by decide +kernel
theorem dX0_readRally_14 : decode cX0_readRally 14 = .ok (.aload_n 1, 1) := by decide +kernel
theorem dX0_readRally_15 : decode cX0_readRally 15 = .ok (.iconst 0, 1) := by decide +kernel
theorem dX0_readRally_16 : decode cX0_readRally 16 = .ok (.iconst 3, 1) := by decide +kernel
theorem dX0_readRally_17 : decode cX0_readRally 17 = .ok (.invokevirtual 58, 3) := by decide +kernel
theorem dX0_readRally_20 : decode cX0_readRally 20 = .ok (.istore_n 3, 1) := by decide +kernel
theorem dX0_readRally_21 : decode cX0_readRally 21 = .ok (.iload_n 3, 1) := by decide +kernel
theorem dX0_readRally_22 : decode cX0_readRally 22 = .ok (.iconst (-1), 1) := by decide +kernel
theorem dX0_readRally_23 : decode cX0_readRally 23 = .ok (.if_icmp .ne 5, 3) := by decide +kernel
theorem dX0_readRally_26 : decode cX0_readRally 26 = .ok (.iconst 0, 1) := by decide +kernel
theorem dX0_readRally_27 : decode cX0_readRally 27 = .ok (.ireturn, 1) := by decide +kernel
theorem dX0_readRally_28 : decode cX0_readRally 28 = .ok (.aload_n 1, 1) := by decide +kernel
theorem dX0_readRally_29 : decode cX0_readRally 29 = .ok (.invokestatic 62, 3) := by decide +kernel
theorem dX0_readRally_32 : decode cX0_readRally 32 = .ok (.istore 4, 2) := by decide +kernel
theorem dX0_readRally_34 : decode cX0_readRally 34 = .ok (.iload 4, 2) := by decide +kernel
theorem dX0_readRally_36 : decode cX0_readRally 36 = .ok (.iconst (-1), 1) := by decide +kernel
theorem dX0_readRally_37 : decode cX0_readRally 37 = .ok (.if_icmp .ne 5, 3) := by decide +kernel
theorem dX0_readRally_40 : decode cX0_readRally 40 = .ok (.iconst 0, 1) := by decide +kernel
theorem dX0_readRally_41 : decode cX0_readRally 41 = .ok (.ireturn, 1) := by decide +kernel
theorem dX0_readRally_42 : decode cX0_readRally 42 = .ok (.aload_n 1, 1) := by decide +kernel
theorem dX0_readRally_43 : decode cX0_readRally 43 = .ok (.iconst 0, 1) := by decide +kernel
theorem dX0_readRally_44 : decode cX0_readRally 44 = .ok (.bipush 100, 2) := by decide +kernel
theorem dX0_readRally_46 : decode cX0_readRally 46 = .ok (.invokevirtual 58, 3) := by decide +kernel
theorem dX0_readRally_49 : decode cX0_readRally 49 = .ok (.istore 5, 2) := by decide +kernel
theorem dX0_readRally_51 : decode cX0_readRally 51 = .ok (.iload 5, 2) := by decide +kernel
theorem dX0_readRally_53 : decode cX0_readRally 53 = .ok (.iconst (-1), 1) := by decide +kernel
theorem dX0_readRally_54 : decode cX0_readRally 54 = .ok (.if_icmp .ne 5, 3) := by decide +kernel
theorem dX0_readRally_57 : decode cX0_readRally 57 = .ok (.iconst 0, 1) := by decide +kernel
theorem dX0_readRally_58 : decode cX0_readRally 58 = .ok (.ireturn, 1) := by decide +kernel
theorem dX0_readRally_59 : decode cX0_readRally 59 = .ok (.aload_n 0, 1) := by decide +kernel
theorem dX0_readRally_60 : decode cX0_readRally 60 = .ok (.getfield 9, 3) := by decide +kernel
theorem dX0_readRally_63 : decode cX0_readRally 63 = .ok (.iload_n 2, 1) := by decide +kernel
theorem dX0_readRally_64 : decode cX0_readRally 64 = .ok (.iconst 4, 1) := by decide +kernel
theorem dX0_readRally_65 : decode cX0_readRally 65 = .ok (.imul, 1) := by decide +kernel
theorem dX0_readRally_66 : decode cX0_readRally 66 = .ok (.iload_n 3, 1) := by decide +kernel
theorem dX0_readRally_67 : decode cX0_readRally 67 = .ok (.iadd, 1) := by decide +kernel
theorem dX0_readRally_68 : decode cX0_readRally 68 = .ok (.bipush 12, 2) := by decide +kernel
theorem dX0_readRally_70 : decode cX0_readRally 70 = .ok (.imul, 1) := by decide +kernel
theorem dX0_readRally_71 : decode cX0_readRally 71 = .ok (.iload 4, 2) := by decide +kernel
theorem dX0_readRally_73 : decode cX0_readRally 73 = .ok (.iadd, 1) := by decide +kernel
theorem dX0_readRally_74 : decode cX0_readRally 74 = .ok (.iload 5, 2) := by decide +kernel
theorem dX0_readRally_76 : decode cX0_readRally 76 = .ok (.iastore, 1) := by decide +kernel
theorem dX0_readRally_77 : decode cX0_readRally 77 = .ok (.iconst 1, 1) := by decide +kernel
theorem dX0_readRally_78 : decode cX0_readRally 78 = .ok (.ireturn, 1) := by decide +kernel
theorem dX0_readOutcome_0 : decode cX0_readOutcome 0 = .ok (.aload_n 0, 1) := by decide +kernel
theorem dX0_readOutcome_1 : decode cX0_readOutcome 1 = .ok (.iconst 3, 1) := by decide +kernel
theorem dX0_readOutcome_2 : decode cX0_readOutcome 2 = .ok (.invokevirtual 51, 3) := by decide +kernel
theorem dX0_readOutcome_5 : decode cX0_readOutcome 5 = .ok (.ifCond .eq 5, 3) := by decide +kernel
theorem dX0_readOutcome_8 : decode cX0_readOutcome 8 = .ok (.iconst 0, 1) := by decide +kernel
theorem dX0_readOutcome_9 : decode cX0_readOutcome 9 = .ok (.ireturn, 1) := by decide +kernel
theorem dX0_readOutcome_10 : decode cX0_readOutcome 10 = .ok (.aload_n 0, 1) := by decide +kernel
theorem dX0_readOutcome_11 : decode cX0_readOutcome 11 = .ok (.iconst 4, 1) := by decide +kernel
theorem dX0_readOutcome_12 : decode cX0_readOutcome 12 = .ok (.invokevirtual 51, 3) := by decide +kernel
theorem dX0_readOutcome_15 : decode cX0_readOutcome 15 = .ok (.ifCond .eq 5, 3) := by decide +kernel
theorem dX0_readOutcome_18 : decode cX0_readOutcome 18 = .ok (.iconst 1, 1) := by decide +kernel
theorem dX0_readOutcome_19 : decode cX0_readOutcome 19 = .ok (.ireturn, 1) := by decide +kernel
theorem dX0_readOutcome_20 : decode cX0_readOutcome 20 = .ok (.aload_n 0, 1) := by decide +kernel
theorem dX0_readOutcome_21 : decode cX0_readOutcome 21 = .ok (.iconst 5, 1) := by decide +kernel
theorem dX0_readOutcome_22 : decode cX0_readOutcome 22 = .ok (.invokevirtual 51, 3) := by decide +kernel
theorem dX0_readOutcome_25 : decode cX0_readOutcome 25 = .ok (.ifCond .ne 5, 3) := by decide +kernel
theorem dX0_readOutcome_28 : decode cX0_readOutcome 28 = .ok (.iconst (-1), 1) := by decide +kernel
theorem dX0_readOutcome_29 : decode cX0_readOutcome 29 = .ok (.ireturn, 1) := by decide +kernel
theorem dX0_readOutcome_30 : decode cX0_readOutcome 30 = .ok (.aload_n 0, 1) := by decide +kernel
theorem dX0_readOutcome_31 : decode cX0_readOutcome 31 = .ok (.iconst 0, 1) := by decide +kernel
theorem dX0_readOutcome_32 : decode cX0_readOutcome 32 = .ok (.bipush 9, 2) := by decide +kernel
theorem dX0_readOutcome_34 : decode cX0_readOutcome 34 = .ok (.invokevirtual 58, 3) := by decide +kernel
theorem dX0_readOutcome_37 : decode cX0_readOutcome 37 = .ok (.istore_n 1, 1) := by decide +kernel
theorem dX0_readOutcome_38 : decode cX0_readOutcome 38 = .ok (.iload_n 1, 1) := by decide +kernel
theorem dX0_readOutcome_39 : decode cX0_readOutcome 39 = .ok (.iconst (-1), 1) := by decide +kernel
theorem dX0_readOutcome_40 : decode cX0_readOutcome 40 = .ok (.if_icmp .ne 7, 3) := by decide +kernel
theorem dX0_readOutcome_43 : decode cX0_readOutcome 43 = .ok (.iconst (-1), 1) := by decide +kernel
theorem dX0_readOutcome_44 : decode cX0_readOutcome 44 = .ok (.goto 6, 3) := by decide +kernel
theorem dX0_readOutcome_47 : decode cX0_readOutcome 47 = .ok (.iconst 2, 1) := by decide +kernel
theorem dX0_readOutcome_48 : decode cX0_readOutcome 48 = .ok (.iload_n 1, 1) := by decide +kernel
theorem dX0_readOutcome_49 : decode cX0_readOutcome 49 = .ok (.iadd, 1) := by decide +kernel
theorem dX0_readOutcome_50 : decode cX0_readOutcome 50 = .ok (.ireturn, 1) := by decide +kernel
theorem dX0_addUp_0 : decode cX0_addUp 0 = .ok (.iconst 0, 1) := by decide +kernel
theorem dX0_addUp_1 : decode cX0_addUp 1 = .ok (.istore_n 1, 1) := by decide +kernel
theorem dX0_addUp_2 : decode cX0_addUp 2 = .ok (.iload_n 1, 1) := by decide +kernel
theorem dX0_addUp_3 : decode cX0_addUp 3 = .ok (.bipush 16, 2) := by decide +kernel
theorem dX0_addUp_5 : decode cX0_addUp 5 = .ok (.if_icmp .ge 47, 3) := by decide +kernel
theorem dX0_addUp_8 : decode cX0_addUp 8 = .ok (.iconst 0, 1) := by decide +kernel
theorem dX0_addUp_9 : decode cX0_addUp 9 = .ok (.istore_n 2, 1) := by decide +kernel
theorem dX0_addUp_10 : decode cX0_addUp 10 = .ok (.iconst 0, 1) := by decide +kernel
theorem dX0_addUp_11 : decode cX0_addUp 11 = .ok (.istore_n 3, 1) := by decide +kernel
theorem dX0_addUp_12 : decode cX0_addUp 12 = .ok (.iload_n 3, 1) := by decide +kernel
theorem dX0_addUp_13 : decode cX0_addUp 13 = .ok (.bipush 12, 2) := by decide +kernel
theorem dX0_addUp_15 : decode cX0_addUp 15 = .ok (.if_icmp .ge 23, 3) := by decide +kernel
theorem dX0_addUp_18 : decode cX0_addUp 18 = .ok (.iload_n 2, 1) := by decide +kernel
theorem dX0_addUp_19 : decode cX0_addUp 19 = .ok (.aload_n 0, 1) := by decide +kernel
theorem dX0_addUp_20 : decode cX0_addUp 20 = .ok (.getfield 9, 3) := by decide +kernel
theorem dX0_addUp_23 : decode cX0_addUp 23 = .ok (.iload_n 1, 1) := by decide +kernel
theorem dX0_addUp_24 : decode cX0_addUp 24 = .ok (.bipush 12, 2) := by decide +kernel
theorem dX0_addUp_26 : decode cX0_addUp 26 = .ok (.imul, 1) := by decide +kernel
theorem dX0_addUp_27 : decode cX0_addUp 27 = .ok (.iload_n 3, 1) := by decide +kernel
theorem dX0_addUp_28 : decode cX0_addUp 28 = .ok (.iadd, 1) := by decide +kernel
theorem dX0_addUp_29 : decode cX0_addUp 29 = .ok (.iaload, 1) := by decide +kernel
theorem dX0_addUp_30 : decode cX0_addUp 30 = .ok (.iadd, 1) := by decide +kernel
theorem dX0_addUp_31 : decode cX0_addUp 31 = .ok (.istore_n 2, 1) := by decide +kernel
theorem dX0_addUp_32 : decode cX0_addUp 32 = .ok (.iinc 3 1, 3) := by decide +kernel
theorem dX0_addUp_35 : decode cX0_addUp 35 = .ok (.goto (-23), 3) := by decide +kernel
theorem dX0_addUp_38 : decode cX0_addUp 38 = .ok (.iload_n 2, 1) := by decide +kernel
theorem dX0_addUp_39 : decode cX0_addUp 39 = .ok (.bipush 100, 2) := by decide +kernel
theorem dX0_addUp_41 : decode cX0_addUp 41 = .ok (.if_icmp .eq 5, 3) := by decide +kernel
theorem dX0_addUp_44 : decode cX0_addUp 44 = .ok (.iconst 0, 1) := by decide +kernel
theorem dX0_addUp_45 : decode cX0_addUp 45 = .ok (.ireturn, 1) := by decide +kernel
theorem dX0_addUp_46 : decode cX0_addUp 46 = .ok (.iinc 1 1, 3) := by decide +kernel
theorem dX0_addUp_49 : decode cX0_addUp 49 = .ok (.goto (-47), 3) := by decide +kernel
theorem dX0_addUp_52 : decode cX0_addUp 52 = .ok (.iconst 1, 1) := by decide +kernel
theorem dX0_addUp_53 : decode cX0_addUp 53 = .ok (.ireturn, 1) := by decide +kernel
theorem dX0_pointBy_0 : decode cX0_pointBy 0 = .ok (.iload_n 1, 1) := by decide +kernel
theorem dX0_pointBy_1 : decode cX0_pointBy 1 = .ok (.ifCond .ne 17, 3) := by decide +kernel
theorem dX0_pointBy_4 : decode cX0_pointBy 4 = .ok (.aload_n 0, 1) := by decide +kernel
theorem dX0_pointBy_5 : decode cX0_pointBy 5 = .ok (.getfield 28, 3) := by decide +kernel
theorem dX0_pointBy_8 : decode cX0_pointBy 8 = .ok (.iconst 1, 1) := by decide +kernel
theorem dX0_pointBy_9 : decode cX0_pointBy 9 = .ok (.if_icmp .ne 7, 3) := by decide +kernel
theorem dX0_pointBy_12 : decode cX0_pointBy 12 = .ok (.iconst 1, 1) := by decide +kernel
theorem dX0_pointBy_13 : decode cX0_pointBy 13 = .ok (.goto 4, 3) := by decide +kernel
theorem dX0_pointBy_16 : decode cX0_pointBy 16 = .ok (.iconst 0, 1) := by decide +kernel
theorem dX0_pointBy_17 : decode cX0_pointBy 17 = .ok (.ireturn, 1) := by decide +kernel
theorem dX0_pointBy_18 : decode cX0_pointBy 18 = .ok (.iload_n 1, 1) := by decide +kernel
theorem dX0_pointBy_19 : decode cX0_pointBy 19 = .ok (.ifCond .ge 7, 3) := by decide +kernel
theorem dX0_pointBy_22 : decode cX0_pointBy 22 = .ok (.iconst 2, 1) := by decide +kernel
theorem dX0_pointBy_23 : decode cX0_pointBy 23 = .ok (.goto 4, 3) := by decide +kernel
theorem dX0_pointBy_26 : decode cX0_pointBy 26 = .ok (.iconst 1, 1) := by decide +kernel
theorem dX0_pointBy_27 : decode cX0_pointBy 27 = .ok (.ireturn, 1) := by decide +kernel
theorem dX0_drawOutcome_0 : decode cX0_drawOutcome 0 = .ok (.iconst 0, 1) := by decide +kernel
theorem dX0_drawOutcome_1 : decode cX0_drawOutcome 1 = .ok (.istore_n 3, 1) := by decide +kernel
theorem dX0_drawOutcome_2 : decode cX0_drawOutcome 2 = .ok (.iconst 0, 1) := by decide +kernel
theorem dX0_drawOutcome_3 : decode cX0_drawOutcome 3 = .ok (.istore 4, 2) := by decide +kernel
theorem dX0_drawOutcome_5 : decode cX0_drawOutcome 5 = .ok (.iload 4, 2) := by decide +kernel
theorem dX0_drawOutcome_7 : decode cX0_drawOutcome 7 = .ok (.bipush 11, 2) := by decide +kernel
theorem dX0_drawOutcome_9 : decode cX0_drawOutcome 9 = .ok (.if_icmp .ge 32, 3) := by decide +kernel
theorem dX0_drawOutcome_12 : decode cX0_drawOutcome 12 = .ok (.iload_n 3, 1) := by decide +kernel
theorem dX0_drawOutcome_13 : decode cX0_drawOutcome 13 = .ok (.aload_n 0, 1) := by decide +kernel
theorem dX0_drawOutcome_14 : decode cX0_drawOutcome 14 = .ok (.getfield 9, 3) := by decide +kernel
theorem dX0_drawOutcome_17 : decode cX0_drawOutcome 17 = .ok (.iload_n 1, 1) := by decide +kernel
theorem dX0_drawOutcome_18 : decode cX0_drawOutcome 18 = .ok (.bipush 12, 2) := by decide +kernel
theorem dX0_drawOutcome_20 : decode cX0_drawOutcome 20 = .ok (.imul, 1) := by decide +kernel
theorem dX0_drawOutcome_21 : decode cX0_drawOutcome 21 = .ok (.iload 4, 2) := by decide +kernel
theorem dX0_drawOutcome_23 : decode cX0_drawOutcome 23 = .ok (.iadd, 1) := by decide +kernel
theorem dX0_drawOutcome_24 : decode cX0_drawOutcome 24 = .ok (.iaload, 1) := by decide +kernel
theorem dX0_drawOutcome_25 : decode cX0_drawOutcome 25 = .ok (.iadd, 1) := by decide +kernel
theorem dX0_drawOutcome_26 : decode cX0_drawOutcome 26 = .ok (.istore_n 3, 1) := by decide +kernel
theorem dX0_drawOutcome_27 : decode cX0_drawOutcome 27 = .ok (.iload_n 2, 1) := by decide +kernel
theorem dX0_drawOutcome_28 : decode cX0_drawOutcome 28 = .ok (.iload_n 3, 1) := by decide +kernel
theorem dX0_drawOutcome_29 : decode cX0_drawOutcome 29 = .ok (.if_icmp .ge 6, 3) := by decide +kernel
theorem dX0_drawOutcome_32 : decode cX0_drawOutcome 32 = .ok (.iload 4, 2) := by decide +kernel
theorem dX0_drawOutcome_34 : decode cX0_drawOutcome 34 = .ok (.ireturn, 1) := by decide +kernel
theorem dX0_drawOutcome_35 : decode cX0_drawOutcome 35 = .ok (.iinc 4 1, 3) := by decide +kernel
theorem dX0_drawOutcome_38 : decode cX0_drawOutcome 38 = .ok (.goto (-33), 3) := by decide +kernel
theorem dX0_drawOutcome_41 : decode cX0_drawOutcome 41 = .ok (.bipush 11, 2) := by decide +kernel
theorem dX0_drawOutcome_43 : decode cX0_drawOutcome 43 = .ok (.ireturn, 1) := by decide +kernel
theorem dX1_init_0 : decode cX1_init 0 = .ok (.aload_n 0, 1) := by decide +kernel
theorem dX1_init_1 : decode cX1_init 1 = .ok (.invokespecial 3, 3) := by decide +kernel
theorem dX1_init_4 : decode cX1_init 4 = .ok (.aload_n 0, 1) := by decide +kernel
theorem dX1_init_5 : decode cX1_init 5 = .ok (.new 9, 3) := by decide +kernel
theorem dX1_init_8 : decode cX1_init 8 = .ok (.dup, 1) := by decide +kernel
theorem dX1_init_9 : decode cX1_init 9 = .ok (.invokespecial 11, 3) := by decide +kernel
theorem dX1_init_12 : decode cX1_init 12 = .ok (.putfield 12, 3) := by decide +kernel
theorem dX1_init_15 : decode cX1_init 15 = .ok (.aload_n 0, 1) := by decide +kernel
theorem dX1_init_16 : decode cX1_init 16 = .ok (.new 9, 3) := by decide +kernel
theorem dX1_init_19 : decode cX1_init 19 = .ok (.dup, 1) := by decide +kernel
theorem dX1_init_20 : decode cX1_init 20 = .ok (.invokespecial 11, 3) := by decide +kernel
theorem dX1_init_23 : decode cX1_init 23 = .ok (.putfield 18, 3) := by decide +kernel
theorem dX1_init_26 : decode cX1_init 26 = .ok (.aload_n 0, 1) := by decide +kernel
theorem dX1_init_27 : decode cX1_init 27 = .ok (.new 21, 3) := by decide +kernel
theorem dX1_init_30 : decode cX1_init 30 = .ok (.dup, 1) := by decide +kernel
theorem dX1_init_31 : decode cX1_init 31 = .ok (.invokespecial 23, 3) := by decide +kernel
theorem dX1_init_34 : decode cX1_init 34 = .ok (.putfield 24, 3) := by decide +kernel
theorem dX1_init_37 : decode cX1_init 37 = .ok (.aload_n 0, 1) := by decide +kernel
theorem dX1_init_38 : decode cX1_init 38 = .ok (.new 21, 3) := by decide +kernel
theorem dX1_init_41 : decode cX1_init 41 = .ok (.dup, 1) := by decide +kernel
theorem dX1_init_42 : decode cX1_init 42 = .ok (.invokespecial 23, 3) := by decide +kernel
theorem dX1_init_45 : decode cX1_init 45 = .ok (.putfield 28, 3) := by decide +kernel
theorem dX1_init_48 : decode cX1_init 48 = .ok (.aload_n 0, 1) := by decide +kernel
theorem dX1_init_49 : decode cX1_init 49 = .ok (.bipush 16, 2) := by decide +kernel
theorem dX1_init_51 : decode cX1_init 51 = .ok (.newarray .int, 2) := by decide +kernel
theorem dX1_init_53 : decode cX1_init 53 = .ok (.putfield 31, 3) := by decide +kernel
theorem dX1_init_56 : decode cX1_init 56 = .ok (.aload_n 0, 1) := by decide +kernel
theorem dX1_init_57 : decode cX1_init 57 = .ok (.bipush 16, 2) := by decide +kernel
theorem dX1_init_59 : decode cX1_init 59 = .ok (.newarray .int, 2) := by decide +kernel
theorem dX1_init_61 : decode cX1_init 61 = .ok (.putfield 35, 3) := by decide +kernel
theorem dX1_init_64 : decode cX1_init 64 = .ok (.aload_n 0, 1) := by decide +kernel
theorem dX1_init_65 : decode cX1_init 65 = .ok (.bipush 16, 2) := by decide +kernel
theorem dX1_init_67 : decode cX1_init 67 = .ok (.newarray .long, 2) := by decide +kernel
theorem dX1_init_69 : decode cX1_init 69 = .ok (.putfield 38, 3) := by decide +kernel
theorem dX1_init_72 : decode cX1_init 72 = .ok (.aload_n 0, 1) := by decide +kernel
theorem dX1_init_73 : decode cX1_init 73 = .ok (.bipush 16, 2) := by decide +kernel
theorem dX1_init_75 : decode cX1_init 75 = .ok (.newarray .long, 2) := by decide +kernel
theorem dX1_init_77 : decode cX1_init 77 = .ok (.putfield 42, 3) := by decide +kernel
theorem dX1_init_80 : decode cX1_init 80 = .ok (.return_, 1) := by decide +kernel
theorem dX1_open_0 : decode cX1_open 0 = .ok (.aload_n 0, 1) := by decide +kernel
theorem dX1_open_1 : decode cX1_open 1 = .ok (.aload_n 1, 1) := by decide +kernel
theorem dX1_open_2 : decode cX1_open 2 = .ok (.putfield 45, 3) := by decide +kernel
theorem dX1_open_5 : decode cX1_open 5 = .ok (.aload_n 0, 1) := by decide +kernel
theorem dX1_open_6 : decode cX1_open 6 = .ok (.getfield 12, 3) := by decide +kernel
theorem dX1_open_9 : decode cX1_open 9 = .ok (.aload_n 1, 1) := by decide +kernel
theorem dX1_open_10 : decode cX1_open 10 = .ok (.getfield 49, 3) := by decide +kernel
theorem dX1_open_13 : decode cX1_open 13 = .ok (.invokevirtual 54, 3) := by decide +kernel
theorem dX1_open_16 : decode cX1_open 16 = .ok (.aload_n 0, 1) := by decide +kernel
theorem dX1_open_17 : decode cX1_open 17 = .ok (.getfield 18, 3) := by decide +kernel
theorem dX1_open_20 : decode cX1_open 20 = .ok (.aload_n 1, 1) := by decide +kernel
theorem dX1_open_21 : decode cX1_open 21 = .ok (.getfield 49, 3) := by decide +kernel
theorem dX1_open_24 : decode cX1_open 24 = .ok (.invokevirtual 54, 3) := by decide +kernel
theorem dX1_open_27 : decode cX1_open 27 = .ok (.aload_n 0, 1) := by decide +kernel
theorem dX1_open_28 : decode cX1_open 28 = .ok (.getfield 28, 3) := by decide +kernel
theorem dX1_open_31 : decode cX1_open 31 = .ok (.invokevirtual 58, 3) := by decide +kernel
theorem dX1_open_34 : decode cX1_open 34 = .ok (.aload_n 0, 1) := by decide +kernel
theorem dX1_open_35 : decode cX1_open 35 = .ok (.iconst 0, 1) := by decide +kernel
theorem dX1_open_36 : decode cX1_open 36 = .ok (.lconst 1, 1) := by decide +kernel
theorem dX1_open_37 : decode cX1_open 37 = .ok (.invokevirtual 61, 3) := by decide +kernel
theorem dX1_open_40 : decode cX1_open 40 = .ok (.aload_n 0, 1) := by decide +kernel
theorem dX1_open_41 : decode cX1_open 41 = .ok (.invokevirtual 65, 3) := by decide +kernel
theorem dX1_open_44 : decode cX1_open 44 = .ok (.return_, 1) := by decide +kernel
theorem dX1_step_0 : decode cX1_step 0 = .ok (.aload_n 0, 1) := by decide +kernel
theorem dX1_step_1 : decode cX1_step 1 = .ok (.getfield 28, 3) := by decide +kernel
theorem dX1_step_4 : decode cX1_step 4 = .ok (.invokevirtual 58, 3) := by decide +kernel
theorem dX1_step_7 : decode cX1_step 7 = .ok (.iconst 0, 1) := by decide +kernel
theorem dX1_step_8 : decode cX1_step 8 = .ok (.istore_n 3, 1) := by decide +kernel
theorem dX1_step_9 : decode cX1_step 9 = .ok (.iload_n 3, 1) := by decide +kernel
theorem dX1_step_10 : decode cX1_step 10 = .ok (.aload_n 0, 1) := by decide +kernel
theorem dX1_step_11 : decode cX1_step 11 = .ok (.getfield 24, 3) := by decide +kernel
theorem dX1_step_14 : decode cX1_step 14 = .ok (.getfield 68, 3) := by decide +kernel
theorem dX1_step_17 : decode cX1_step 17 = .ok (.if_icmp .ge 49, 3) := by decide +kernel
theorem dX1_step_20 : decode cX1_step 20 = .ok (.aload_n 0, 1) := by decide +kernel
theorem dX1_step_21 : decode cX1_step 21 = .ok (.iload_n 3, 1) := by decide +kernel
theorem dX1_step_22 : decode cX1_step 22 = .ok (.invokevirtual 72, 3) := by decide +kernel
theorem dX1_step_25 : decode cX1_step 25 = .ok (.aload_n 0, 1) := by decide +kernel
theorem dX1_step_26 : decode cX1_step 26 = .ok (.getfield 12, 3) := by decide +kernel
theorem dX1_step_29 : decode cX1_step 29 = .ok (.aload_n 0, 1) := by decide +kernel
theorem dX1_step_30 : decode cX1_step 30 = .ok (.getfield 45, 3) := by decide +kernel
theorem dX1_step_33 : decode cX1_step 33 = .ok (.getfield 76, 3) := by decide +kernel
theorem dX1_step_36 : decode cX1_step 36 = .ok (.invokevirtual 80, 3) := by decide +kernel
theorem dX1_step_39 : decode cX1_step 39 = .ok (.ifCond .ne 21, 3) := by decide +kernel
theorem dX1_step_42 : decode cX1_step 42 = .ok (.aload_n 0, 1) := by decide +kernel
theorem dX1_step_43 : decode cX1_step 43 = .ok (.iload_n 1, 1) := by decide +kernel
theorem dX1_step_44 : decode cX1_step 44 = .ok (.iload_n 2, 1) := by decide +kernel
theorem dX1_step_45 : decode cX1_step 45 = .ok (.aload_n 0, 1) := by decide +kernel
theorem dX1_step_46 : decode cX1_step 46 = .ok (.getfield 31, 3) := by decide +kernel
theorem dX1_step_49 : decode cX1_step 49 = .ok (.iload_n 3, 1) := by decide +kernel
theorem dX1_step_50 : decode cX1_step 50 = .ok (.iaload, 1) := by decide +kernel
theorem dX1_step_51 : decode cX1_step 51 = .ok (.aload_n 0, 1) := by decide +kernel
theorem dX1_step_52 : decode cX1_step 52 = .ok (.getfield 38, 3) := by decide +kernel
theorem dX1_step_55 : decode cX1_step 55 = .ok (.iload_n 3, 1) := by decide +kernel
theorem dX1_step_56 : decode cX1_step 56 = .ok (.laload, 1) := by decide +kernel
theorem dX1_step_57 : decode cX1_step 57 = .ok (.invokevirtual 84, 3) := by decide +kernel
theorem dX1_step_60 : decode cX1_step 60 = .ok (.iinc 3 1, 3) := by decide +kernel
theorem dX1_step_63 : decode cX1_step 63 = .ok (.goto (-54), 3) := by decide +kernel
theorem dX1_step_66 : decode cX1_step 66 = .ok (.aload_n 0, 1) := by decide +kernel
theorem dX1_step_67 : decode cX1_step 67 = .ok (.invokevirtual 65, 3) := by decide +kernel
theorem dX1_step_70 : decode cX1_step 70 = .ok (.return_, 1) := by decide +kernel
theorem dX1_follow_0 : decode cX1_follow 0 = .ok (.iload_n 1, 1) := by decide +kernel
theorem dX1_follow_1 : decode cX1_follow 1 = .ok (.iconst 2, 1) := by decide +kernel
theorem dX1_follow_2 : decode cX1_follow 2 = .ok (.if_icmp .ne 13, 3) := by decide +kernel
theorem dX1_follow_5 : decode cX1_follow 5 = .ok (.aload_n 0, 1) := by decide +kernel
theorem dX1_follow_6 : decode cX1_follow 6 = .ok (.getfield 12, 3) := by decide +kernel
theorem dX1_follow_9 : decode cX1_follow 9 = .ok (.getfield 88, 3) := by decide +kernel
theorem dX1_follow_12 : decode cX1_follow 12 = .ok (.ifCond .ne 39, 3) := by decide +kernel
theorem dX1_follow_15 : decode cX1_follow 15 = .ok (.aload_n 0, 1) := by decide +kernel
theorem dX1_follow_16 : decode cX1_follow 16 = .ok (.getfield 18, 3) := by decide +kernel
theorem dX1_follow_19 : decode cX1_follow 19 = .ok (.aload_n 0, 1) := by decide +kernel
theorem dX1_follow_20 : decode cX1_follow 20 = .ok (.getfield 12, 3) := by decide +kernel
theorem dX1_follow_23 : decode cX1_follow 23 = .ok (.invokevirtual 54, 3) := by decide +kernel
theorem dX1_follow_26 : decode cX1_follow 26 = .ok (.aload_n 0, 1) := by decide +kernel
theorem dX1_follow_27 : decode cX1_follow 27 = .ok (.getfield 18, 3) := by decide +kernel
theorem dX1_follow_30 : decode cX1_follow 30 = .ok (.iload_n 1, 1) := by decide +kernel
theorem dX1_follow_31 : decode cX1_follow 31 = .ok (.iload_n 2, 1) := by decide +kernel
theorem dX1_follow_32 : decode cX1_follow 32 = .ok (.aload_n 0, 1) := by decide +kernel
theorem dX1_follow_33 : decode cX1_follow 33 = .ok (.getfield 45, 3) := by decide +kernel
theorem dX1_follow_36 : decode cX1_follow 36 = .ok (.getfield 76, 3) := by decide +kernel
theorem dX1_follow_39 : decode cX1_follow 39 = .ok (.invokevirtual 92, 3) := by decide +kernel
theorem dX1_follow_42 : decode cX1_follow 42 = .ok (.pop, 1) := by decide +kernel
theorem dX1_follow_43 : decode cX1_follow 43 = .ok (.aload_n 0, 1) := by decide +kernel
theorem dX1_follow_44 : decode cX1_follow 44 = .ok (.iload_n 3, 1) := by decide +kernel
theorem dX1_follow_45 : decode cX1_follow 45 = .ok (.lload 4, 2) := by decide +kernel
theorem dX1_follow_47 : decode cX1_follow 47 = .ok (.invokevirtual 61, 3) := by decide +kernel
theorem dX1_follow_50 : decode cX1_follow 50 = .ok (.return_, 1) := by decide +kernel
theorem dX1_follow_51 : decode cX1_follow 51 = .ok (.iload_n 2, 1) := by decide +kernel
theorem dX1_follow_52 : decode cX1_follow 52 = .ok (.aload_n 0, 1) := by decide +kernel
theorem dX1_follow_53 : decode cX1_follow 53 = .ok (.getfield 12, 3) := by decide +kernel
theorem dX1_follow_56 : decode cX1_follow 56 = .ok (.getfield 96, 3) := by decide +kernel
theorem dX1_follow_59 : decode cX1_follow 59 = .ok (.invokestatic 99, 3) := by decide +kernel
theorem dX1_follow_62 : decode cX1_follow 62 = .ok (.istore 6, 2) := by decide +kernel
theorem dX1_follow_64 : decode cX1_follow 64 = .ok (.iconst (-1), 1) := by decide +kernel
theorem dX1_follow_65 : decode cX1_follow 65 = .ok (.istore 7, 2) := by decide +kernel
theorem dX1_follow_67 : decode cX1_follow 67 = .ok (.iload 7, 2) := by decide +kernel
theorem dX1_follow_69 : decode cX1_follow 69 = .ok (.iconst 1, 1) := by decide +kernel
theorem dX1_follow_70 : decode cX1_follow 70 = .ok (.if_icmp .gt 59, 3) := by decide +kernel
theorem dX1_follow_73 : decode cX1_follow 73 = .ok (.aload_n 0, 1) := by decide +kernel
theorem dX1_follow_74 : decode cX1_follow 74 = .ok (.getfield 18, 3) := by decide +kernel
theorem dX1_follow_77 : decode cX1_follow 77 = .ok (.aload_n 0, 1) := by decide +kernel
theorem dX1_follow_78 : decode cX1_follow 78 = .ok (.getfield 12, 3) := by decide +kernel
theorem dX1_follow_81 : decode cX1_follow 81 = .ok (.invokevirtual 54, 3) := by decide +kernel
theorem dX1_follow_84 : decode cX1_follow 84 = .ok (.aload_n 0, 1) := by decide +kernel
theorem dX1_follow_85 : decode cX1_follow 85 = .ok (.getfield 18, 3) := by decide +kernel
theorem dX1_follow_88 : decode cX1_follow 88 = .ok (.aload_n 0, 1) := by decide +kernel
theorem dX1_follow_89 : decode cX1_follow 89 = .ok (.getfield 45, 3) := by decide +kernel
theorem dX1_follow_92 : decode cX1_follow 92 = .ok (.getfield 76, 3) := by decide +kernel
theorem dX1_follow_95 : decode cX1_follow 95 = .ok (.iload 7, 2) := by decide +kernel
theorem dX1_follow_97 : decode cX1_follow 97 = .ok (.invokevirtual 105, 3) := by decide +kernel
theorem dX1_follow_100 : decode cX1_follow 100 = .ok (.invokevirtual 111, 3) := by decide +kernel
theorem dX1_follow_103 : decode cX1_follow 103 = .ok (.aload_n 0, 1) := by decide +kernel
theorem dX1_follow_104 : decode cX1_follow 104 = .ok (.iload 7, 2) := by decide +kernel
theorem dX1_follow_106 : decode cX1_follow 106 = .ok (.iload 6, 2) := by decide +kernel
theorem dX1_follow_108 : decode cX1_follow 108 = .ok (.if_icmp .ne 7, 3) := by decide +kernel
theorem dX1_follow_111 : decode cX1_follow 111 = .ok (.iload_n 3, 1) := by decide +kernel
theorem dX1_follow_112 : decode cX1_follow 112 = .ok (.goto 6, 3) := by decide +kernel
theorem dX1_follow_115 : decode cX1_follow 115 = .ok (.iload_n 3, 1) := by decide +kernel
theorem dX1_follow_116 : decode cX1_follow 116 = .ok (.iconst 1, 1) := by decide +kernel
theorem dX1_follow_117 : decode cX1_follow 117 = .ok (.iadd, 1) := by decide +kernel
theorem dX1_follow_118 : decode cX1_follow 118 = .ok (.lload 4, 2) := by decide +kernel
theorem dX1_follow_120 : decode cX1_follow 120 = .ok (.invokevirtual 61, 3) := by decide +kernel
theorem dX1_follow_123 : decode cX1_follow 123 = .ok (.iinc 7 1, 3) := by decide +kernel
theorem dX1_follow_126 : decode cX1_follow 126 = .ok (.goto (-59), 3) := by decide +kernel
theorem dX1_follow_129 : decode cX1_follow 129 = .ok (.return_, 1) := by decide +kernel
theorem dX1_fetch_0 : decode cX1_fetch 0 = .ok (.aload_n 0, 1) := by decide +kernel
theorem dX1_fetch_1 : decode cX1_fetch 1 = .ok (.getfield 24, 3) := by decide +kernel
theorem dX1_fetch_4 : decode cX1_fetch 4 = .ok (.iload_n 1, 1) := by decide +kernel
theorem dX1_fetch_5 : decode cX1_fetch 5 = .ok (.invokevirtual 114, 3) := by decide +kernel
theorem dX1_fetch_8 : decode cX1_fetch 8 = .ok (.istore_n 2, 1) := by decide +kernel
theorem dX1_fetch_9 : decode cX1_fetch 9 = .ok (.aload_n 0, 1) := by decide +kernel
theorem dX1_fetch_10 : decode cX1_fetch 10 = .ok (.getfield 12, 3) := by decide +kernel
theorem dX1_fetch_13 : decode cX1_fetch 13 = .ok (.iload_n 2, 1) := by decide +kernel
theorem dX1_fetch_14 : decode cX1_fetch 14 = .ok (.bipush 49, 2) := by decide +kernel
theorem dX1_fetch_16 : decode cX1_fetch 16 = .ok (.idiv, 1) := by decide +kernel
theorem dX1_fetch_17 : decode cX1_fetch 17 = .ok (.invokevirtual 117, 3) := by decide +kernel
theorem dX1_fetch_20 : decode cX1_fetch 20 = .ok (.aload_n 0, 1) := by decide +kernel
theorem dX1_fetch_21 : decode cX1_fetch 21 = .ok (.getfield 12, 3) := by decide +kernel
theorem dX1_fetch_24 : decode cX1_fetch 24 = .ok (.iload_n 2, 1) := by decide +kernel
theorem dX1_fetch_25 : decode cX1_fetch 25 = .ok (.bipush 7, 2) := by decide +kernel
theorem dX1_fetch_27 : decode cX1_fetch 27 = .ok (.idiv, 1) := by decide +kernel
theorem dX1_fetch_28 : decode cX1_fetch 28 = .ok (.bipush 7, 2) := by decide +kernel
theorem dX1_fetch_30 : decode cX1_fetch 30 = .ok (.irem, 1) := by decide +kernel
theorem dX1_fetch_31 : decode cX1_fetch 31 = .ok (.putfield 120, 3) := by decide +kernel
theorem dX1_fetch_34 : decode cX1_fetch 34 = .ok (.aload_n 0, 1) := by decide +kernel
theorem dX1_fetch_35 : decode cX1_fetch 35 = .ok (.getfield 12, 3) := by decide +kernel
theorem dX1_fetch_38 : decode cX1_fetch 38 = .ok (.iload_n 2, 1) := by decide +kernel
theorem dX1_fetch_39 : decode cX1_fetch 39 = .ok (.bipush 7, 2) := by decide +kernel
theorem dX1_fetch_41 : decode cX1_fetch 41 = .ok (.irem, 1) := by decide +kernel
theorem dX1_fetch_42 : decode cX1_fetch 42 = .ok (.putfield 123, 3) := by decide +kernel
theorem dX1_fetch_45 : decode cX1_fetch 45 = .ok (.return_, 1) := by decide +kernel
theorem dX1_reach_0 : decode cX1_reach 0 = .ok (.aload_n 0, 1) := by decide +kernel
theorem dX1_reach_1 : decode cX1_reach 1 = .ok (.getfield 28, 3) := by decide +kernel
theorem dX1_reach_4 : decode cX1_reach 4 = .ok (.getfield 68, 3) := by decide +kernel
theorem dX1_reach_7 : decode cX1_reach 7 = .ok (.istore 4, 2) := by decide +kernel
theorem dX1_reach_9 : decode cX1_reach 9 = .ok (.aload_n 0, 1) := by decide +kernel
theorem dX1_reach_10 : decode cX1_reach 10 = .ok (.getfield 18, 3) := by decide +kernel
theorem dX1_reach_13 : decode cX1_reach 13 = .ok (.getfield 120, 3) := by decide +kernel
theorem dX1_reach_16 : decode cX1_reach 16 = .ok (.bipush 7, 2) := by decide +kernel
theorem dX1_reach_18 : decode cX1_reach 18 = .ok (.imul, 1) := by decide +kernel
theorem dX1_reach_19 : decode cX1_reach 19 = .ok (.aload_n 0, 1) := by decide +kernel
theorem dX1_reach_20 : decode cX1_reach 20 = .ok (.getfield 18, 3) := by decide +kernel
theorem dX1_reach_23 : decode cX1_reach 23 = .ok (.getfield 123, 3) := by decide +kernel
theorem dX1_reach_26 : decode cX1_reach 26 = .ok (.iadd, 1) := by decide +kernel
theorem dX1_reach_27 : decode cX1_reach 27 = .ok (.istore 5, 2) := by decide +kernel
theorem dX1_reach_29 : decode cX1_reach 29 = .ok (.aload_n 0, 1) := by decide +kernel
theorem dX1_reach_30 : decode cX1_reach 30 = .ok (.getfield 28, 3) := by decide +kernel
theorem dX1_reach_33 : decode cX1_reach 33 = .ok (.aload_n 0, 1) := by decide +kernel
theorem dX1_reach_34 : decode cX1_reach 34 = .ok (.getfield 18, 3) := by decide +kernel
theorem dX1_reach_37 : decode cX1_reach 37 = .ok (.invokevirtual 126, 3) := by decide +kernel
theorem dX1_reach_40 : decode cX1_reach 40 = .ok (.bipush 49, 2) := by decide +kernel
theorem dX1_reach_42 : decode cX1_reach 42 = .ok (.imul, 1) := by decide +kernel
theorem dX1_reach_43 : decode cX1_reach 43 = .ok (.iload 5, 2) := by decide +kernel
theorem dX1_reach_45 : decode cX1_reach 45 = .ok (.iadd, 1) := by decide +kernel
theorem dX1_reach_46 : decode cX1_reach 46 = .ok (.invokevirtual 130, 3) := by decide +kernel
theorem dX1_reach_49 : decode cX1_reach 49 = .ok (.istore 6, 2) := by decide +kernel
theorem dX1_reach_51 : decode cX1_reach 51 = .ok (.aload_n 0, 1) := by decide +kernel
theorem dX1_reach_52 : decode cX1_reach 52 = .ok (.getfield 35, 3) := by decide +kernel
theorem dX1_reach_55 : decode cX1_reach 55 = .ok (.arraylength, 1) := by decide +kernel
theorem dX1_reach_56 : decode cX1_reach 56 = .ok (.aload_n 0, 1) := by decide +kernel
theorem dX1_reach_57 : decode cX1_reach 57 = .ok (.getfield 28, 3) := by decide +kernel
theorem dX1_reach_60 : decode cX1_reach 60 = .ok (.invokevirtual 133, 3) := by decide +kernel
theorem dX1_reach_63 : decode cX1_reach 63 = .ok (.if_icmp .ge 39, 3) := by decide +kernel
theorem dX1_reach_66 : decode cX1_reach 66 = .ok (.aload_n 0, 1) := by decide +kernel
theorem dX1_reach_67 : decode cX1_reach 67 = .ok (.aload_n 0, 1) := by decide +kernel
theorem dX1_reach_68 : decode cX1_reach 68 = .ok (.getfield 35, 3) := by decide +kernel
theorem dX1_reach_71 : decode cX1_reach 71 = .ok (.aload_n 0, 1) := by decide +kernel
theorem dX1_reach_72 : decode cX1_reach 72 = .ok (.getfield 28, 3) := by decide +kernel
theorem dX1_reach_75 : decode cX1_reach 75 = .ok (.invokevirtual 133, 3) := by decide +kernel
theorem dX1_reach_78 : decode cX1_reach 78 = .ok (.invokestatic 136, 3) := by decide +kernel
theorem dX1_reach_81 : decode cX1_reach 81 = .ok (.putfield 35, 3) := by decide +kernel
theorem dX1_reach_84 : decode cX1_reach 84 = .ok (.aload_n 0, 1) := by decide +kernel
theorem dX1_reach_85 : decode cX1_reach 85 = .ok (.aload_n 0, 1) := by decide +kernel
theorem dX1_reach_86 : decode cX1_reach 86 = .ok (.getfield 42, 3) := by decide +kernel
theorem dX1_reach_89 : decode cX1_reach 89 = .ok (.aload_n 0, 1) := by decide +kernel
theorem dX1_reach_90 : decode cX1_reach 90 = .ok (.getfield 28, 3) := by decide +kernel
theorem dX1_reach_93 : decode cX1_reach 93 = .ok (.invokevirtual 133, 3) := by decide +kernel
theorem dX1_reach_96 : decode cX1_reach 96 = .ok (.invokestatic 142, 3) := by decide +kernel
theorem dX1_reach_99 : decode cX1_reach 99 = .ok (.putfield 42, 3) := by decide +kernel
theorem dX1_reach_102 : decode cX1_reach 102 = .ok (.iload 6, 2) := by decide +kernel
theorem dX1_reach_104 : decode cX1_reach 104 = .ok (.iload 4, 2) := by decide +kernel
theorem dX1_reach_106 : decode cX1_reach 106 = .ok (.if_icmp .eq 14, 3) := by decide +kernel
theorem dX1_reach_109 : decode cX1_reach 109 = .ok (.iload_n 1, 1) := by decide +kernel
theorem dX1_reach_110 : decode cX1_reach 110 = .ok (.aload_n 0, 1) := by decide +kernel
theorem dX1_reach_111 : decode cX1_reach 111 = .ok (.getfield 35, 3) := by decide +kernel
theorem dX1_reach_114 : decode cX1_reach 114 = .ok (.iload 6, 2) := by decide +kernel
theorem dX1_reach_116 : decode cX1_reach 116 = .ok (.iaload, 1) := by decide +kernel
theorem dX1_reach_117 : decode cX1_reach 117 = .ok (.if_icmp .ge 22, 3) := by decide +kernel
theorem dX1_reach_120 : decode cX1_reach 120 = .ok (.aload_n 0, 1) := by decide +kernel
theorem dX1_reach_121 : decode cX1_reach 121 = .ok (.getfield 35, 3) := by decide +kernel
theorem dX1_reach_124 : decode cX1_reach 124 = .ok (.iload 6, 2) := by decide +kernel
theorem dX1_reach_126 : decode cX1_reach 126 = .ok (.iload_n 1, 1) := by decide +kernel
theorem dX1_reach_127 : decode cX1_reach 127 = .ok (.iastore, 1) := by decide +kernel
theorem dX1_reach_128 : decode cX1_reach 128 = .ok (.aload_n 0, 1) := by decide +kernel
theorem dX1_reach_129 : decode cX1_reach 129 = .ok (.getfield 42, 3) := by decide +kernel
theorem dX1_reach_132 : decode cX1_reach 132 = .ok (.iload 6, 2) := by decide +kernel
theorem dX1_reach_134 : decode cX1_reach 134 = .ok (.lload_n 2, 1) := by decide +kernel
theorem dX1_reach_135 : decode cX1_reach 135 = .ok (.lastore, 1) := by decide +kernel
theorem dX1_reach_136 : decode cX1_reach 136 = .ok (.goto 25, 3) := by decide +kernel
theorem dX1_reach_139 : decode cX1_reach 139 = .ok (.iload_n 1, 1) := by decide +kernel
theorem dX1_reach_140 : decode cX1_reach 140 = .ok (.aload_n 0, 1) := by decide +kernel
theorem dX1_reach_141 : decode cX1_reach 141 = .ok (.getfield 35, 3) := by decide +kernel
theorem dX1_reach_144 : decode cX1_reach 144 = .ok (.iload 6, 2) := by decide +kernel
theorem dX1_reach_146 : decode cX1_reach 146 = .ok (.iaload, 1) := by decide +kernel
theorem dX1_reach_147 : decode cX1_reach 147 = .ok (.if_icmp .ne 14, 3) := by decide +kernel
theorem dX1_reach_150 : decode cX1_reach 150 = .ok (.aload_n 0, 1) := by decide +kernel
theorem dX1_reach_151 : decode cX1_reach 151 = .ok (.getfield 42, 3) := by decide +kernel
theorem dX1_reach_154 : decode cX1_reach 154 = .ok (.iload 6, 2) := by decide +kernel
theorem dX1_reach_156 : decode cX1_reach 156 = .ok (.dup2, 1) := by decide +kernel
theorem dX1_reach_157 : decode cX1_reach 157 = .ok (.laload, 1) := by decide +kernel
theorem dX1_reach_158 : decode cX1_reach 158 = .ok (.lload_n 2, 1) := by decide +kernel
theorem dX1_reach_159 : decode cX1_reach 159 = .ok (.ladd, 1) := by decide +kernel
theorem dX1_reach_160 : decode cX1_reach 160 = .ok (.lastore, 1) := by decide +kernel
theorem dX1_reach_161 : decode cX1_reach 161 = .ok (.return_, 1) := by decide +kernel
theorem dX1_turn_0 : decode cX1_turn 0 = .ok (.aload_n 0, 1) := by decide +kernel
theorem dX1_turn_1 : decode cX1_turn 1 = .ok (.getfield 24, 3) := by decide +kernel
theorem dX1_turn_4 : decode cX1_turn 4 = .ok (.astore_n 1, 1) := by decide +kernel
theorem dX1_turn_5 : decode cX1_turn 5 = .ok (.aload_n 0, 1) := by decide +kernel
theorem dX1_turn_6 : decode cX1_turn 6 = .ok (.aload_n 0, 1) := by decide +kernel
theorem dX1_turn_7 : decode cX1_turn 7 = .ok (.getfield 28, 3) := by decide +kernel
theorem dX1_turn_10 : decode cX1_turn 10 = .ok (.putfield 24, 3) := by decide +kernel
theorem dX1_turn_13 : decode cX1_turn 13 = .ok (.aload_n 0, 1) := by decide +kernel
theorem dX1_turn_14 : decode cX1_turn 14 = .ok (.aload_n 1, 1) := by decide +kernel
theorem dX1_turn_15 : decode cX1_turn 15 = .ok (.putfield 28, 3) := by decide +kernel
theorem dX1_turn_18 : decode cX1_turn 18 = .ok (.aload_n 0, 1) := by decide +kernel
theorem dX1_turn_19 : decode cX1_turn 19 = .ok (.getfield 31, 3) := by decide +kernel
theorem dX1_turn_22 : decode cX1_turn 22 = .ok (.astore_n 2, 1) := by decide +kernel
theorem dX1_turn_23 : decode cX1_turn 23 = .ok (.aload_n 0, 1) := by decide +kernel
theorem dX1_turn_24 : decode cX1_turn 24 = .ok (.aload_n 0, 1) := by decide +kernel
theorem dX1_turn_25 : decode cX1_turn 25 = .ok (.getfield 35, 3) := by decide +kernel
theorem dX1_turn_28 : decode cX1_turn 28 = .ok (.putfield 31, 3) := by decide +kernel
theorem dX1_turn_31 : decode cX1_turn 31 = .ok (.aload_n 0, 1) := by decide +kernel
theorem dX1_turn_32 : decode cX1_turn 32 = .ok (.aload_n 2, 1) := by decide +kernel
theorem dX1_turn_33 : decode cX1_turn 33 = .ok (.putfield 35, 3) := by decide +kernel
theorem dX1_turn_36 : decode cX1_turn 36 = .ok (.aload_n 0, 1) := by decide +kernel
theorem dX1_turn_37 : decode cX1_turn 37 = .ok (.getfield 38, 3) := by decide +kernel
theorem dX1_turn_40 : decode cX1_turn 40 = .ok (.astore_n 3, 1) := by decide +kernel
theorem dX1_turn_41 : decode cX1_turn 41 = .ok (.aload_n 0, 1) := by decide +kernel
theorem dX1_turn_42 : decode cX1_turn 42 = .ok (.aload_n 0, 1) := by decide +kernel
theorem dX1_turn_43 : decode cX1_turn 43 = .ok (.getfield 42, 3) := by decide +kernel
theorem dX1_turn_46 : decode cX1_turn 46 = .ok (.putfield 38, 3) := by decide +kernel
theorem dX1_turn_49 : decode cX1_turn 49 = .ok (.aload_n 0, 1) := by decide +kernel
theorem dX1_turn_50 : decode cX1_turn 50 = .ok (.aload_n 3, 1) := by decide +kernel
theorem dX1_turn_51 : decode cX1_turn 51 = .ok (.putfield 42, 3) := by decide +kernel
theorem dX1_turn_54 : decode cX1_turn 54 = .ok (.return_, 1) := by decide +kernel
theorem dX1_close_0 : decode cX1_close 0 = .ok (.aload_n 0, 1) := by decide +kernel
theorem dX1_close_1 : decode cX1_close 1 = .ok (.iconst (-1), 1) := by decide +kernel
theorem dX1_close_2 : decode cX1_close 2 = .ok (.putfield 145, 3) := by decide +kernel
theorem dX1_close_5 : decode cX1_close 5 = .ok (.aload_n 0, 1) := by decide +kernel
theorem dX1_close_6 : decode cX1_close 6 = .ok (.lconst 0, 1) := by decide +kernel
theorem dX1_close_7 : decode cX1_close 7 = .ok (.putfield 148, 3) := by decide +kernel
theorem dX1_close_10 : decode cX1_close 10 = .ok (.iconst 0, 1) := by decide +kernel
theorem dX1_close_11 : decode cX1_close 11 = .ok (.istore 5, 2) := by decide +kernel
theorem dX1_close_13 : decode cX1_close 13 = .ok (.iload 5, 2) := by decide +kernel
theorem dX1_close_15 : decode cX1_close 15 = .ok (.aload_n 0, 1) := by decide +kernel
theorem dX1_close_16 : decode cX1_close 16 = .ok (.getfield 24, 3) := by decide +kernel
theorem dX1_close_19 : decode cX1_close 19 = .ok (.getfield 68, 3) := by decide +kernel
theorem dX1_close_22 : decode cX1_close 22 = .ok (.if_icmp .ge 90, 3) := by decide +kernel
theorem dX1_close_25 : decode cX1_close 25 = .ok (.aload_n 0, 1) := by decide +kernel
theorem dX1_close_26 : decode cX1_close 26 = .ok (.iload 5, 2) := by decide +kernel
theorem dX1_close_28 : decode cX1_close 28 = .ok (.invokevirtual 72, 3) := by decide +kernel
theorem dX1_close_31 : decode cX1_close 31 = .ok (.aload_n 0, 1) := by decide +kernel
theorem dX1_close_32 : decode cX1_close 32 = .ok (.getfield 12, 3) := by decide +kernel
theorem dX1_close_35 : decode cX1_close 35 = .ok (.getfield 152, 3) := by decide +kernel
theorem dX1_close_38 : decode cX1_close 38 = .ok (.iload_n 1, 1) := by decide +kernel
theorem dX1_close_39 : decode cX1_close 39 = .ok (.if_icmp .ne 41, 3) := by decide +kernel
theorem dX1_close_42 : decode cX1_close 42 = .ok (.aload_n 0, 1) := by decide +kernel
theorem dX1_close_43 : decode cX1_close 43 = .ok (.getfield 12, 3) := by decide +kernel
theorem dX1_close_46 : decode cX1_close 46 = .ok (.getfield 155, 3) := by decide +kernel
theorem dX1_close_49 : decode cX1_close 49 = .ok (.iload_n 2, 1) := by decide +kernel
theorem dX1_close_50 : decode cX1_close 50 = .ok (.if_icmp .ne 30, 3) := by decide +kernel
theorem dX1_close_53 : decode cX1_close 53 = .ok (.aload_n 0, 1) := by decide +kernel
theorem dX1_close_54 : decode cX1_close 54 = .ok (.getfield 12, 3) := by decide +kernel
theorem dX1_close_57 : decode cX1_close 57 = .ok (.getfield 120, 3) := by decide +kernel
theorem dX1_close_60 : decode cX1_close 60 = .ok (.iload_n 3, 1) := by decide +kernel
theorem dX1_close_61 : decode cX1_close 61 = .ok (.if_icmp .ne 19, 3) := by decide +kernel
theorem dX1_close_64 : decode cX1_close 64 = .ok (.aload_n 0, 1) := by decide +kernel
theorem dX1_close_65 : decode cX1_close 65 = .ok (.getfield 12, 3) := by decide +kernel
theorem dX1_close_68 : decode cX1_close 68 = .ok (.getfield 123, 3) := by decide +kernel
theorem dX1_close_71 : decode cX1_close 71 = .ok (.iload 4, 2) := by decide +kernel
theorem dX1_close_73 : decode cX1_close 73 = .ok (.if_icmp .ne 7, 3) := by decide +kernel
theorem dX1_close_76 : decode cX1_close 76 = .ok (.iconst 1, 1) := by decide +kernel
theorem dX1_close_77 : decode cX1_close 77 = .ok (.goto 4, 3) := by decide +kernel
theorem dX1_close_80 : decode cX1_close 80 = .ok (.iconst 0, 1) := by decide +kernel
theorem dX1_close_81 : decode cX1_close 81 = .ok (.istore 6, 2) := by decide +kernel
theorem dX1_close_83 : decode cX1_close 83 = .ok (.iload 6, 2) := by decide +kernel
theorem dX1_close_85 : decode cX1_close 85 = .ok (.ifCond .eq 21, 3) := by decide +kernel
theorem dX1_close_88 : decode cX1_close 88 = .ok (.aload_n 0, 1) := by decide +kernel
theorem dX1_close_89 : decode cX1_close 89 = .ok (.aload_n 0, 1) := by decide +kernel
theorem dX1_close_90 : decode cX1_close 90 = .ok (.getfield 31, 3) := by decide +kernel
theorem dX1_close_93 : decode cX1_close 93 = .ok (.iload 5, 2) := by decide +kernel
theorem dX1_close_95 : decode cX1_close 95 = .ok (.iaload, 1) := by decide +kernel
theorem dX1_close_96 : decode cX1_close 96 = .ok (.aload_n 0, 1) := by decide +kernel
theorem dX1_close_97 : decode cX1_close 97 = .ok (.getfield 38, 3) := by decide +kernel
theorem dX1_close_100 : decode cX1_close 100 = .ok (.iload 5, 2) := by decide +kernel
theorem dX1_close_102 : decode cX1_close 102 = .ok (.laload, 1) := by decide +kernel
theorem dX1_close_103 : decode cX1_close 103 = .ok (.invokevirtual 158, 3) := by decide +kernel
theorem dX1_close_106 : decode cX1_close 106 = .ok (.iinc 5 1, 3) := by decide +kernel
theorem dX1_close_109 : decode cX1_close 109 = .ok (.goto (-96), 3) := by decide +kernel
theorem dX1_close_112 : decode cX1_close 112 = .ok (.return_, 1) := by decide +kernel
theorem dX1_tally_0 : decode cX1_tally 0 = .ok (.aload_n 0, 1) := by decide +kernel
theorem dX1_tally_1 : decode cX1_tally 1 = .ok (.getfield 145, 3) := by decide +kernel
theorem dX1_tally_4 : decode cX1_tally 4 = .ok (.iconst (-1), 1) := by decide +kernel
theorem dX1_tally_5 : decode cX1_tally 5 = .ok (.if_icmp .eq 11, 3) := by decide +kernel
theorem dX1_tally_8 : decode cX1_tally 8 = .ok (.iload_n 1, 1) := by decide +kernel
theorem dX1_tally_9 : decode cX1_tally 9 = .ok (.aload_n 0, 1) := by decide +kernel
theorem dX1_tally_10 : decode cX1_tally 10 = .ok (.getfield 145, 3) := by decide +kernel
theorem dX1_tally_13 : decode cX1_tally 13 = .ok (.if_icmp .ge 16, 3) := by decide +kernel
theorem dX1_tally_16 : decode cX1_tally 16 = .ok (.aload_n 0, 1) := by decide +kernel
theorem dX1_tally_17 : decode cX1_tally 17 = .ok (.iload_n 1, 1) := by decide +kernel
theorem dX1_tally_18 : decode cX1_tally 18 = .ok (.putfield 145, 3) := by decide +kernel
theorem dX1_tally_21 : decode cX1_tally 21 = .ok (.aload_n 0, 1) := by decide +kernel
theorem dX1_tally_22 : decode cX1_tally 22 = .ok (.lload_n 2, 1) := by decide +kernel
theorem dX1_tally_23 : decode cX1_tally 23 = .ok (.putfield 148, 3) := by decide +kernel
theorem dX1_tally_26 : decode cX1_tally 26 = .ok (.goto 21, 3) := by decide +kernel
theorem dX1_tally_29 : decode cX1_tally 29 = .ok (.iload_n 1, 1) := by decide +kernel
theorem dX1_tally_30 : decode cX1_tally 30 = .ok (.aload_n 0, 1) := by decide +kernel
theorem dX1_tally_31 : decode cX1_tally 31 = .ok (.getfield 145, 3) := by decide +kernel
theorem dX1_tally_34 : decode cX1_tally 34 = .ok (.if_icmp .ne 13, 3) := by decide +kernel
theorem dX1_tally_37 : decode cX1_tally 37 = .ok (.aload_n 0, 1) := by decide +kernel
theorem dX1_tally_38 : decode cX1_tally 38 = .ok (.dup, 1) := by decide +kernel
theorem dX1_tally_39 : decode cX1_tally 39 = .ok (.getfield 148, 3) := by decide +kernel
theorem dX1_tally_42 : decode cX1_tally 42 = .ok (.lload_n 2, 1) := by decide +kernel
theorem dX1_tally_43 : decode cX1_tally 43 = .ok (.ladd, 1) := by decide +kernel
theorem dX1_tally_44 : decode cX1_tally 44 = .ok (.putfield 148, 3) := by decide +kernel
theorem dX1_tally_47 : decode cX1_tally 47 = .ok (.return_, 1) := by decide +kernel
theorem dX2_init_0 : decode cX2_init 0 = .ok (.aload_n 0, 1) := by decide +kernel
theorem dX2_init_1 : decode cX2_init 1 = .ok (.invokespecial 3, 3) := by decide +kernel
theorem dX2_init_4 : decode cX2_init 4 = .ok (.aload_n 0, 1) := by decide +kernel
theorem dX2_init_5 : decode cX2_init 5 = .ok (.new 9, 3) := by decide +kernel
theorem dX2_init_8 : decode cX2_init 8 = .ok (.dup, 1) := by decide +kernel
theorem dX2_init_9 : decode cX2_init 9 = .ok (.invokespecial 11, 3) := by decide +kernel
theorem dX2_init_12 : decode cX2_init 12 = .ok (.putfield 12, 3) := by decide +kernel
theorem dX2_init_15 : decode cX2_init 15 = .ok (.aload_n 0, 1) := by decide +kernel
theorem dX2_init_16 : decode cX2_init 16 = .ok (.new 18, 3) := by decide +kernel
theorem dX2_init_19 : decode cX2_init 19 = .ok (.dup, 1) := by decide +kernel
theorem dX2_init_20 : decode cX2_init 20 = .ok (.invokespecial 20, 3) := by decide +kernel
theorem dX2_init_23 : decode cX2_init 23 = .ok (.putfield 21, 3) := by decide +kernel
theorem dX2_init_26 : decode cX2_init 26 = .ok (.aload_n 0, 1) := by decide +kernel
theorem dX2_init_27 : decode cX2_init 27 = .ok (.new 18, 3) := by decide +kernel
theorem dX2_init_30 : decode cX2_init 30 = .ok (.dup, 1) := by decide +kernel
theorem dX2_init_31 : decode cX2_init 31 = .ok (.invokespecial 20, 3) := by decide +kernel
theorem dX2_init_34 : decode cX2_init 34 = .ok (.putfield 25, 3) := by decide +kernel
theorem dX2_init_37 : decode cX2_init 37 = .ok (.aload_n 0, 1) := by decide +kernel
theorem dX2_init_38 : decode cX2_init 38 = .ok (.bipush 48, 2) := by decide +kernel
theorem dX2_init_40 : decode cX2_init 40 = .ok (.newarray .int, 2) := by decide +kernel
theorem dX2_init_42 : decode cX2_init 42 = .ok (.putfield 28, 3) := by decide +kernel
theorem dX2_init_45 : decode cX2_init 45 = .ok (.aload_n 0, 1) := by decide +kernel
theorem dX2_init_46 : decode cX2_init 46 = .ok (.bipush 31, 2) := by decide +kernel
theorem dX2_init_48 : decode cX2_init 48 = .ok (.newarray .int, 2) := by decide +kernel
theorem dX2_init_50 : decode cX2_init 50 = .ok (.putfield 32, 3) := by decide +kernel
theorem dX2_init_53 : decode cX2_init 53 = .ok (.aload_n 0, 1) := by decide +kernel
theorem dX2_init_54 : decode cX2_init 54 = .ok (.bipush 32, 2) := by decide +kernel
theorem dX2_init_56 : decode cX2_init 56 = .ok (.newarray .int, 2) := by decide +kernel
theorem dX2_init_58 : decode cX2_init 58 = .ok (.putfield 35, 3) := by decide +kernel
theorem dX2_init_61 : decode cX2_init 61 = .ok (.aload_n 0, 1) := by decide +kernel
theorem dX2_init_62 : decode cX2_init 62 = .ok (.bipush 32, 2) := by decide +kernel
theorem dX2_init_64 : decode cX2_init 64 = .ok (.newarray .int, 2) := by decide +kernel
theorem dX2_init_66 : decode cX2_init 66 = .ok (.putfield 38, 3) := by decide +kernel
theorem dX2_init_69 : decode cX2_init 69 = .ok (.aload_n 0, 1) := by decide +kernel
theorem dX2_init_70 : decode cX2_init 70 = .ok (.sipush 128, 3) := by decide +kernel
theorem dX2_init_73 : decode cX2_init 73 = .ok (.newarray .int, 2) := by decide +kernel
theorem dX2_init_75 : decode cX2_init 75 = .ok (.putfield 41, 3) := by decide +kernel
theorem dX2_init_78 : decode cX2_init 78 = .ok (.aload_n 0, 1) := by decide +kernel
theorem dX2_init_79 : decode cX2_init 79 = .ok (.bipush 32, 2) := by decide +kernel
theorem dX2_init_81 : decode cX2_init 81 = .ok (.newarray .int, 2) := by decide +kernel
theorem dX2_init_83 : decode cX2_init 83 = .ok (.putfield 44, 3) := by decide +kernel
theorem dX2_init_86 : decode cX2_init 86 = .ok (.aload_n 0, 1) := by decide +kernel
theorem dX2_init_87 : decode cX2_init 87 = .ok (.bipush 32, 2) := by decide +kernel
theorem dX2_init_89 : decode cX2_init 89 = .ok (.newarray .int, 2) := by decide +kernel
theorem dX2_init_91 : decode cX2_init 91 = .ok (.putfield 47, 3) := by decide +kernel
theorem dX2_init_94 : decode cX2_init 94 = .ok (.aload_n 0, 1) := by decide +kernel
theorem dX2_init_95 : decode cX2_init 95 = .ok (.bipush 32, 2) := by decide +kernel
theorem dX2_init_97 : decode cX2_init 97 = .ok (.newarray .int, 2) := by decide +kernel
theorem dX2_init_99 : decode cX2_init 99 = .ok (.putfield 50, 3) := by decide +kernel
theorem dX2_init_102 : decode cX2_init 102 = .ok (.aload_n 0, 1) := by decide +kernel
theorem dX2_init_103 : decode cX2_init 103 = .ok (.bipush 32, 2) := by decide +kernel
theorem dX2_init_105 : decode cX2_init 105 = .ok (.newarray .int, 2) := by decide +kernel
theorem dX2_init_107 : decode cX2_init 107 = .ok (.putfield 53, 3) := by decide +kernel
theorem dX2_init_110 : decode cX2_init 110 = .ok (.return_, 1) := by decide +kernel
theorem dX2_open_0 : decode cX2_open 0 = .ok (.aload_n 0, 1) := by decide +kernel
theorem dX2_open_1 : decode cX2_open 1 = .ok (.aload_n 1, 1) := by decide +kernel
theorem dX2_open_2 : decode cX2_open 2 = .ok (.putfield 56, 3) := by decide +kernel
theorem dX2_open_5 : decode cX2_open 5 = .ok (.aload_n 0, 1) := by decide +kernel
theorem dX2_open_6 : decode cX2_open 6 = .ok (.iload_n 2, 1) := by decide +kernel
theorem dX2_open_7 : decode cX2_open 7 = .ok (.putfield 60, 3) := by decide +kernel
theorem dX2_open_10 : decode cX2_open 10 = .ok (.aload_n 0, 1) := by decide +kernel
theorem dX2_open_11 : decode cX2_open 11 = .ok (.iload_n 3, 1) := by decide +kernel
theorem dX2_open_12 : decode cX2_open 12 = .ok (.putfield 64, 3) := by decide +kernel
theorem dX2_open_15 : decode cX2_open 15 = .ok (.aload_n 0, 1) := by decide +kernel
theorem dX2_open_16 : decode cX2_open 16 = .ok (.iload_n 2, 1) := by decide +kernel
theorem dX2_open_17 : decode cX2_open 17 = .ok (.iconst (-1), 1) := by decide +kernel
theorem dX2_open_18 : decode cX2_open 18 = .ok (.if_icmp .ne 7, 3) := by decide +kernel
theorem dX2_open_21 : decode cX2_open 21 = .ok (.iconst 1, 1) := by decide +kernel
theorem dX2_open_22 : decode cX2_open 22 = .ok (.goto 4, 3) := by decide +kernel
theorem dX2_open_25 : decode cX2_open 25 = .ok (.iconst 4, 1) := by decide +kernel
theorem dX2_open_26 : decode cX2_open 26 = .ok (.putfield 67, 3) := by decide +kernel
theorem dX2_open_29 : decode cX2_open 29 = .ok (.aload_n 0, 1) := by decide +kernel
theorem dX2_open_30 : decode cX2_open 30 = .ok (.iconst 0, 1) := by decide +kernel
theorem dX2_open_31 : decode cX2_open 31 = .ok (.putfield 70, 3) := by decide +kernel
theorem dX2_open_34 : decode cX2_open 34 = .ok (.aload_n 0, 1) := by decide +kernel
theorem dX2_open_35 : decode cX2_open 35 = .ok (.getfield 12, 3) := by decide +kernel
theorem dX2_open_38 : decode cX2_open 38 = .ok (.invokevirtual 73, 3) := by decide +kernel
theorem dX2_open_41 : decode cX2_open 41 = .ok (.aload_n 0, 1) := by decide +kernel
theorem dX2_open_42 : decode cX2_open 42 = .ok (.getfield 21, 3) := by decide +kernel
theorem dX2_open_45 : decode cX2_open 45 = .ok (.aload_n 1, 1) := by decide +kernel
theorem dX2_open_46 : decode cX2_open 46 = .ok (.getfield 76, 3) := by decide +kernel
theorem dX2_open_49 : decode cX2_open 49 = .ok (.invokevirtual 81, 3) := by decide +kernel
theorem dX2_open_52 : decode cX2_open 52 = .ok (.return_, 1) := by decide +kernel
theorem dX2_placeOf_0 : decode cX2_placeOf 0 = .ok (.iconst 4, 1) := by decide +kernel
theorem dX2_placeOf_1 : decode cX2_placeOf 1 = .ok (.aload_n 0, 1) := by decide +kernel
theorem dX2_placeOf_2 : decode cX2_placeOf 2 = .ok (.getfield 12, 3) := by decide +kernel
theorem dX2_placeOf_5 : decode cX2_placeOf 5 = .ok (.aload_n 1, 1) := by decide +kernel
theorem dX2_placeOf_6 : decode cX2_placeOf 6 = .ok (.invokevirtual 85, 3) := by decide +kernel
theorem dX2_placeOf_9 : decode cX2_placeOf 9 = .ok (.invokevirtual 89, 3) := by decide +kernel
theorem dX2_placeOf_12 : decode cX2_placeOf 12 = .ok (.iadd, 1) := by decide +kernel
theorem dX2_placeOf_13 : decode cX2_placeOf 13 = .ok (.ireturn, 1) := by decide +kernel
theorem dX2_spreadAll_0 : decode cX2_spreadAll 0 = .ok (.iconst 4, 1) := by decide +kernel
theorem dX2_spreadAll_1 : decode cX2_spreadAll 1 = .ok (.istore_n 2, 1) := by decide +kernel
theorem dX2_spreadAll_2 : decode cX2_spreadAll 2 = .ok (.iconst 0, 1) := by decide +kernel
theorem dX2_spreadAll_3 : decode cX2_spreadAll 3 = .ok (.istore_n 3, 1) := by decide +kernel
theorem dX2_spreadAll_4 : decode cX2_spreadAll 4 = .ok (.iload_n 3, 1) := by decide +kernel
theorem dX2_spreadAll_5 : decode cX2_spreadAll 5 = .ok (.iload_n 1, 1) := by decide +kernel
theorem dX2_spreadAll_6 : decode cX2_spreadAll 6 = .ok (.if_icmp .ge 66, 3) := by decide +kernel
theorem dX2_spreadAll_9 : decode cX2_spreadAll 9 = .ok (.aload_n 0, 1) := by decide +kernel
theorem dX2_spreadAll_10 : decode cX2_spreadAll 10 = .ok (.getfield 64, 3) := by decide +kernel
theorem dX2_spreadAll_13 : decode cX2_spreadAll 13 = .ok (.iconst (-1), 1) := by decide +kernel
theorem dX2_spreadAll_14 : decode cX2_spreadAll 14 = .ok (.if_icmp .eq 8, 3) := by decide +kernel
theorem dX2_spreadAll_17 : decode cX2_spreadAll 17 = .ok (.aload_n 0, 1) := by decide +kernel
theorem dX2_spreadAll_18 : decode cX2_spreadAll 18 = .ok (.iload_n 2, 1) := by decide +kernel
theorem dX2_spreadAll_19 : decode cX2_spreadAll 19 = .ok (.invokevirtual 93, 3) := by decide +kernel
theorem dX2_spreadAll_22 : decode cX2_spreadAll 22 = .ok (.iconst 4, 1) := by decide +kernel
theorem dX2_spreadAll_23 : decode cX2_spreadAll 23 = .ok (.aload_n 0, 1) := by decide +kernel
theorem dX2_spreadAll_24 : decode cX2_spreadAll 24 = .ok (.getfield 12, 3) := by decide +kernel
theorem dX2_spreadAll_27 : decode cX2_spreadAll 27 = .ok (.getfield 97, 3) := by decide +kernel
theorem dX2_spreadAll_30 : decode cX2_spreadAll 30 = .ok (.iadd, 1) := by decide +kernel
theorem dX2_spreadAll_31 : decode cX2_spreadAll 31 = .ok (.istore 4, 2) := by decide +kernel
theorem dX2_spreadAll_33 : decode cX2_spreadAll 33 = .ok (.aload_n 0, 1) := by decide +kernel
theorem dX2_spreadAll_34 : decode cX2_spreadAll 34 = .ok (.getfield 32, 3) := by decide +kernel
theorem dX2_spreadAll_37 : decode cX2_spreadAll 37 = .ok (.iload_n 3, 1) := by decide +kernel
theorem dX2_spreadAll_38 : decode cX2_spreadAll 38 = .ok (.iload 4, 2) := by decide +kernel
theorem dX2_spreadAll_40 : decode cX2_spreadAll 40 = .ok (.iastore, 1) := by decide +kernel
theorem dX2_spreadAll_41 : decode cX2_spreadAll 41 = .ok (.iload_n 2, 1) := by decide +kernel
theorem dX2_spreadAll_42 : decode cX2_spreadAll 42 = .ok (.istore 5, 2) := by decide +kernel
theorem dX2_spreadAll_44 : decode cX2_spreadAll 44 = .ok (.iload 5, 2) := by decide +kernel
theorem dX2_spreadAll_46 : decode cX2_spreadAll 46 = .ok (.iload 4, 2) := by decide +kernel
theorem dX2_spreadAll_48 : decode cX2_spreadAll 48 = .ok (.if_icmp .ge 15, 3) := by decide +kernel
theorem dX2_spreadAll_51 : decode cX2_spreadAll 51 = .ok (.aload_n 0, 1) := by decide +kernel
theorem dX2_spreadAll_52 : decode cX2_spreadAll 52 = .ok (.iload 5, 2) := by decide +kernel
theorem dX2_spreadAll_54 : decode cX2_spreadAll 54 = .ok (.invokevirtual 100, 3) := by decide +kernel
theorem dX2_spreadAll_57 : decode cX2_spreadAll 57 = .ok (.iinc 5 1, 3) := by decide +kernel
theorem dX2_spreadAll_60 : decode cX2_spreadAll 60 = .ok (.goto (-16), 3) := by decide +kernel
theorem dX2_spreadAll_63 : decode cX2_spreadAll 63 = .ok (.iload 4, 2) := by decide +kernel
theorem dX2_spreadAll_65 : decode cX2_spreadAll 65 = .ok (.istore_n 2, 1) := by decide +kernel
theorem dX2_spreadAll_66 : decode cX2_spreadAll 66 = .ok (.iinc 3 1, 3) := by decide +kernel
theorem dX2_spreadAll_69 : decode cX2_spreadAll 69 = .ok (.goto (-65), 3) := by decide +kernel
theorem dX2_spreadAll_72 : decode cX2_spreadAll 72 = .ok (.aload_n 0, 1) := by decide +kernel
theorem dX2_spreadAll_73 : decode cX2_spreadAll 73 = .ok (.invokevirtual 103, 3) := by decide +kernel
theorem dX2_spreadAll_76 : decode cX2_spreadAll 76 = .ok (.return_, 1) := by decide +kernel
theorem dX2_takeAll_0 : decode cX2_takeAll 0 = .ok (.sipush 15492, 3) := by decide +kernel
theorem dX2_takeAll_3 : decode cX2_takeAll 3 = .ok (.istore_n 2, 1) := by decide +kernel
theorem dX2_takeAll_4 : decode cX2_takeAll 4 = .ok (.iload_n 1, 1) := by decide +kernel
theorem dX2_takeAll_5 : decode cX2_takeAll 5 = .ok (.istore_n 3, 1) := by decide +kernel
theorem dX2_takeAll_6 : decode cX2_takeAll 6 = .ok (.iload_n 3, 1) := by decide +kernel
theorem dX2_takeAll_7 : decode cX2_takeAll 7 = .ok (.iconst 4, 1) := by decide +kernel
theorem dX2_takeAll_8 : decode cX2_takeAll 8 = .ok (.aload_n 0, 1) := by decide +kernel
theorem dX2_takeAll_9 : decode cX2_takeAll 9 = .ok (.getfield 12, 3) := by decide +kernel
theorem dX2_takeAll_12 : decode cX2_takeAll 12 = .ok (.getfield 97, 3) := by decide +kernel
theorem dX2_takeAll_15 : decode cX2_takeAll 15 = .ok (.iadd, 1) := by decide +kernel
theorem dX2_takeAll_16 : decode cX2_takeAll 16 = .ok (.if_icmp .ge 75, 3) := by decide +kernel
theorem dX2_takeAll_19 : decode cX2_takeAll 19 = .ok (.iload_n 3, 1) := by decide +kernel
theorem dX2_takeAll_20 : decode cX2_takeAll 20 = .ok (.iload_n 2, 1) := by decide +kernel
theorem dX2_takeAll_21 : decode cX2_takeAll 21 = .ok (.if_icmp .ge 70, 3) := by decide +kernel
theorem dX2_takeAll_24 : decode cX2_takeAll 24 = .ok (.aload_n 0, 1) := by decide +kernel
theorem dX2_takeAll_25 : decode cX2_takeAll 25 = .ok (.invokevirtual 103, 3) := by decide +kernel
theorem dX2_takeAll_28 : decode cX2_takeAll 28 = .ok (.aload_n 0, 1) := by decide +kernel
theorem dX2_takeAll_29 : decode cX2_takeAll 29 = .ok (.getfield 21, 3) := by decide +kernel
theorem dX2_takeAll_32 : decode cX2_takeAll 32 = .ok (.aload_n 0, 1) := by decide +kernel
theorem dX2_takeAll_33 : decode cX2_takeAll 33 = .ok (.getfield 12, 3) := by decide +kernel
theorem dX2_takeAll_36 : decode cX2_takeAll 36 = .ok (.iload_n 3, 1) := by decide +kernel
theorem dX2_takeAll_37 : decode cX2_takeAll 37 = .ok (.iconst 4, 1) := by decide +kernel
theorem dX2_takeAll_38 : decode cX2_takeAll 38 = .ok (.isub, 1) := by decide +kernel
theorem dX2_takeAll_39 : decode cX2_takeAll 39 = .ok (.invokevirtual 106, 3) := by decide +kernel
theorem dX2_takeAll_42 : decode cX2_takeAll 42 = .ok (.invokevirtual 109, 3) := by decide +kernel
theorem dX2_takeAll_45 : decode cX2_takeAll 45 = .ok (.aload_n 0, 1) := by decide +kernel
theorem dX2_takeAll_46 : decode cX2_takeAll 46 = .ok (.getfield 25, 3) := by decide +kernel
theorem dX2_takeAll_49 : decode cX2_takeAll 49 = .ok (.aload_n 0, 1) := by decide +kernel
theorem dX2_takeAll_50 : decode cX2_takeAll 50 = .ok (.getfield 21, 3) := by decide +kernel
theorem dX2_takeAll_53 : decode cX2_takeAll 53 = .ok (.invokevirtual 81, 3) := by decide +kernel
theorem dX2_takeAll_56 : decode cX2_takeAll 56 = .ok (.aload_n 0, 1) := by decide +kernel
theorem dX2_takeAll_57 : decode cX2_takeAll 57 = .ok (.getfield 25, 3) := by decide +kernel
theorem dX2_takeAll_60 : decode cX2_takeAll 60 = .ok (.aload_n 0, 1) := by decide +kernel
theorem dX2_takeAll_61 : decode cX2_takeAll 61 = .ok (.getfield 64, 3) := by decide +kernel
theorem dX2_takeAll_64 : decode cX2_takeAll 64 = .ok (.aload_n 0, 1) := by decide +kernel
theorem dX2_takeAll_65 : decode cX2_takeAll 65 = .ok (.getfield 56, 3) := by decide +kernel
theorem dX2_takeAll_68 : decode cX2_takeAll 68 = .ok (.getfield 112, 3) := by decide +kernel
theorem dX2_takeAll_71 : decode cX2_takeAll 71 = .ok (.invokevirtual 116, 3) := by decide +kernel
theorem dX2_takeAll_74 : decode cX2_takeAll 74 = .ok (.pop, 1) := by decide +kernel
theorem dX2_takeAll_75 : decode cX2_takeAll 75 = .ok (.aload_n 0, 1) := by decide +kernel
theorem dX2_takeAll_76 : decode cX2_takeAll 76 = .ok (.getfield 38, 3) := by decide +kernel
theorem dX2_takeAll_79 : decode cX2_takeAll 79 = .ok (.iload_n 3, 1) := by decide +kernel
theorem dX2_takeAll_80 : decode cX2_takeAll 80 = .ok (.aload_n 0, 1) := by decide +kernel
theorem dX2_takeAll_81 : decode cX2_takeAll 81 = .ok (.invokevirtual 120, 3) := by decide +kernel
theorem dX2_takeAll_84 : decode cX2_takeAll 84 = .ok (.iastore, 1) := by decide +kernel
theorem dX2_takeAll_85 : decode cX2_takeAll 85 = .ok (.iinc 3 1, 3) := by decide +kernel
theorem dX2_takeAll_88 : decode cX2_takeAll 88 = .ok (.goto (-82), 3) := by decide +kernel
theorem dX2_takeAll_91 : decode cX2_takeAll 91 = .ok (.return_, 1) := by decide +kernel
theorem dX2_spread_0 : decode cX2_spread 0 = .ok (.aload_n 0, 1) := by decide +kernel
theorem dX2_spread_1 : decode cX2_spread 1 = .ok (.invokevirtual 103, 3) := by decide +kernel
theorem dX2_spread_4 : decode cX2_spread 4 = .ok (.aload_n 0, 1) := by decide +kernel
theorem dX2_spread_5 : decode cX2_spread 5 = .ok (.getfield 21, 3) := by decide +kernel
theorem dX2_spread_8 : decode cX2_spread 8 = .ok (.aload_n 0, 1) := by decide +kernel
theorem dX2_spread_9 : decode cX2_spread 9 = .ok (.getfield 12, 3) := by decide +kernel
theorem dX2_spread_12 : decode cX2_spread 12 = .ok (.iload_n 1, 1) := by decide +kernel
theorem dX2_spread_13 : decode cX2_spread 13 = .ok (.iconst 4, 1) := by decide +kernel
theorem dX2_spread_14 : decode cX2_spread 14 = .ok (.isub, 1) := by decide +kernel
theorem dX2_spread_15 : decode cX2_spread 15 = .ok (.invokevirtual 106, 3) := by decide +kernel
theorem dX2_spread_18 : decode cX2_spread 18 = .ok (.invokevirtual 109, 3) := by decide +kernel
theorem dX2_spread_21 : decode cX2_spread 21 = .ok (.aload_n 0, 1) := by decide +kernel
theorem dX2_spread_22 : decode cX2_spread 22 = .ok (.getfield 21, 3) := by decide +kernel
theorem dX2_spread_25 : decode cX2_spread 25 = .ok (.getfield 123, 3) := by decide +kernel
theorem dX2_spread_28 : decode cX2_spread 28 = .ok (.ifCond .eq 7, 3) := by decide +kernel
theorem dX2_spread_31 : decode cX2_spread 31 = .ok (.iconst 3, 1) := by decide +kernel
theorem dX2_spread_32 : decode cX2_spread 32 = .ok (.goto 5, 3) := by decide +kernel
theorem dX2_spread_35 : decode cX2_spread 35 = .ok (.bipush 12, 2) := by decide +kernel
theorem dX2_spread_37 : decode cX2_spread 37 = .ok (.istore_n 2, 1) := by decide +kernel
theorem dX2_spread_38 : decode cX2_spread 38 = .ok (.aload_n 0, 1) := by decide +kernel
theorem dX2_spread_39 : decode cX2_spread 39 = .ok (.aload_n 0, 1) := by decide +kernel
theorem dX2_spread_40 : decode cX2_spread 40 = .ok (.getfield 56, 3) := by decide +kernel
theorem dX2_spread_43 : decode cX2_spread 43 = .ok (.aload_n 0, 1) := by decide +kernel
theorem dX2_spread_44 : decode cX2_spread 44 = .ok (.getfield 21, 3) := by decide +kernel
theorem dX2_spread_47 : decode cX2_spread 47 = .ok (.invokevirtual 127, 3) := by decide +kernel
theorem dX2_spread_50 : decode cX2_spread 50 = .ok (.invokevirtual 131, 3) := by decide +kernel
theorem dX2_spread_53 : decode cX2_spread 53 = .ok (.aload_n 0, 1) := by decide +kernel
theorem dX2_spread_54 : decode cX2_spread 54 = .ok (.getfield 35, 3) := by decide +kernel
theorem dX2_spread_57 : decode cX2_spread 57 = .ok (.iload_n 1, 1) := by decide +kernel
theorem dX2_spread_58 : decode cX2_spread 58 = .ok (.aload_n 0, 1) := by decide +kernel
theorem dX2_spread_59 : decode cX2_spread 59 = .ok (.getfield 70, 3) := by decide +kernel
theorem dX2_spread_62 : decode cX2_spread 62 = .ok (.iastore, 1) := by decide +kernel
theorem dX2_spread_63 : decode cX2_spread 63 = .ok (.iconst 0, 1) := by decide +kernel
theorem dX2_spread_64 : decode cX2_spread 64 = .ok (.istore_n 3, 1) := by decide +kernel
theorem dX2_spread_65 : decode cX2_spread 65 = .ok (.iload_n 3, 1) := by decide +kernel
theorem dX2_spread_66 : decode cX2_spread 66 = .ok (.iload_n 2, 1) := by decide +kernel
theorem dX2_spread_67 : decode cX2_spread 67 = .ok (.if_icmp .ge 81, 3) := by decide +kernel
theorem dX2_spread_70 : decode cX2_spread 70 = .ok (.aload_n 0, 1) := by decide +kernel
theorem dX2_spread_71 : decode cX2_spread 71 = .ok (.iload_n 3, 1) := by decide +kernel
theorem dX2_spread_72 : decode cX2_spread 72 = .ok (.invokevirtual 134, 3) := by decide +kernel
theorem dX2_spread_75 : decode cX2_spread 75 = .ok (.ifCond .eq 67, 3) := by decide +kernel
theorem dX2_spread_78 : decode cX2_spread 78 = .ok (.aload_n 0, 1) := by decide +kernel
theorem dX2_spread_79 : decode cX2_spread 79 = .ok (.getfield 25, 3) := by decide +kernel
theorem dX2_spread_82 : decode cX2_spread 82 = .ok (.aload_n 0, 1) := by decide +kernel
theorem dX2_spread_83 : decode cX2_spread 83 = .ok (.getfield 21, 3) := by decide +kernel
theorem dX2_spread_86 : decode cX2_spread 86 = .ok (.invokevirtual 81, 3) := by decide +kernel
theorem dX2_spread_89 : decode cX2_spread 89 = .ok (.aload_n 0, 1) := by decide +kernel
theorem dX2_spread_90 : decode cX2_spread 90 = .ok (.getfield 21, 3) := by decide +kernel
theorem dX2_spread_93 : decode cX2_spread 93 = .ok (.getfield 123, 3) := by decide +kernel
theorem dX2_spread_96 : decode cX2_spread 96 = .ok (.ifCond .eq 14, 3) := by decide +kernel
theorem dX2_spread_99 : decode cX2_spread 99 = .ok (.aload_n 0, 1) := by decide +kernel
theorem dX2_spread_100 : decode cX2_spread 100 = .ok (.getfield 25, 3) := by decide +kernel
theorem dX2_spread_103 : decode cX2_spread 103 = .ok (.iload_n 3, 1) := by decide +kernel
theorem dX2_spread_104 : decode cX2_spread 104 = .ok (.invokevirtual 138, 3) := by decide +kernel
theorem dX2_spread_107 : decode cX2_spread 107 = .ok (.goto 26, 3) := by decide +kernel
theorem dX2_spread_110 : decode cX2_spread 110 = .ok (.aload_n 0, 1) := by decide +kernel
theorem dX2_spread_111 : decode cX2_spread 111 = .ok (.getfield 25, 3) := by decide +kernel
theorem dX2_spread_114 : decode cX2_spread 114 = .ok (.iload_n 3, 1) := by decide +kernel
theorem dX2_spread_115 : decode cX2_spread 115 = .ok (.iconst 2, 1) := by decide +kernel
theorem dX2_spread_116 : decode cX2_spread 116 = .ok (.invokestatic 141, 3) := by decide +kernel
theorem dX2_spread_119 : decode cX2_spread 119 = .ok (.iload_n 3, 1) := by decide +kernel
theorem dX2_spread_120 : decode cX2_spread 120 = .ok (.iconst 2, 1) := by decide +kernel
theorem dX2_spread_121 : decode cX2_spread 121 = .ok (.isub, 1) := by decide +kernel
theorem dX2_spread_122 : decode cX2_spread 122 = .ok (.aload_n 0, 1) := by decide +kernel
theorem dX2_spread_123 : decode cX2_spread 123 = .ok (.getfield 56, 3) := by decide +kernel
theorem dX2_spread_126 : decode cX2_spread 126 = .ok (.getfield 112, 3) := by decide +kernel
theorem dX2_spread_129 : decode cX2_spread 129 = .ok (.invokevirtual 147, 3) := by decide +kernel
theorem dX2_spread_132 : decode cX2_spread 132 = .ok (.pop, 1) := by decide +kernel
theorem dX2_spread_133 : decode cX2_spread 133 = .ok (.aload_n 0, 1) := by decide +kernel
theorem dX2_spread_134 : decode cX2_spread 134 = .ok (.iload_n 3, 1) := by decide +kernel
theorem dX2_spread_135 : decode cX2_spread 135 = .ok (.aload_n 0, 1) := by decide +kernel
theorem dX2_spread_136 : decode cX2_spread 136 = .ok (.invokevirtual 120, 3) := by decide +kernel
theorem dX2_spread_139 : decode cX2_spread 139 = .ok (.invokevirtual 151, 3) := by decide +kernel
theorem dX2_spread_142 : decode cX2_spread 142 = .ok (.iinc 3 1, 3) := by decide +kernel
theorem dX2_spread_145 : decode cX2_spread 145 = .ok (.goto (-80), 3) := by decide +kernel
theorem dX2_spread_148 : decode cX2_spread 148 = .ok (.aload_n 0, 1) := by decide +kernel
theorem dX2_spread_149 : decode cX2_spread 149 = .ok (.getfield 35, 3) := by decide +kernel
theorem dX2_spread_152 : decode cX2_spread 152 = .ok (.iload_n 1, 1) := by decide +kernel
theorem dX2_spread_153 : decode cX2_spread 153 = .ok (.iconst 1, 1) := by decide +kernel
theorem dX2_spread_154 : decode cX2_spread 154 = .ok (.iadd, 1) := by decide +kernel
theorem dX2_spread_155 : decode cX2_spread 155 = .ok (.aload_n 0, 1) := by decide +kernel
theorem dX2_spread_156 : decode cX2_spread 156 = .ok (.getfield 70, 3) := by decide +kernel
theorem dX2_spread_159 : decode cX2_spread 159 = .ok (.iastore, 1) := by decide +kernel
theorem dX2_spread_160 : decode cX2_spread 160 = .ok (.return_, 1) := by decide +kernel
theorem dX2_fillWeights_0 : decode cX2_fillWeights 0 = .ok (.iload_n 1, 1) := by decide +kernel
theorem dX2_fillWeights_1 : decode cX2_fillWeights 1 = .ok (.istore_n 2, 1) := by decide +kernel
theorem dX2_fillWeights_2 : decode cX2_fillWeights 2 = .ok (.iconst 0, 1) := by decide +kernel
theorem dX2_fillWeights_3 : decode cX2_fillWeights 3 = .ok (.istore_n 3, 1) := by decide +kernel
theorem dX2_fillWeights_4 : decode cX2_fillWeights 4 = .ok (.aload_n 0, 1) := by decide +kernel
theorem dX2_fillWeights_5 : decode cX2_fillWeights 5 = .ok (.getfield 60, 3) := by decide +kernel
theorem dX2_fillWeights_8 : decode cX2_fillWeights 8 = .ok (.iconst (-1), 1) := by decide +kernel
theorem dX2_fillWeights_9 : decode cX2_fillWeights 9 = .ok (.if_icmp .eq 52, 3) := by decide +kernel
theorem dX2_fillWeights_12 : decode cX2_fillWeights 12 = .ok (.aload_n 0, 1) := by decide +kernel
theorem dX2_fillWeights_13 : decode cX2_fillWeights 13 = .ok (.getfield 60, 3) := by decide +kernel
theorem dX2_fillWeights_16 : decode cX2_fillWeights 16 = .ok (.aload_n 0, 1) := by decide +kernel
theorem dX2_fillWeights_17 : decode cX2_fillWeights 17 = .ok (.getfield 21, 3) := by decide +kernel
theorem dX2_fillWeights_20 : decode cX2_fillWeights 20 = .ok (.getfield 155, 3) := by decide +kernel
theorem dX2_fillWeights_23 : decode cX2_fillWeights 23 = .ok (.if_icmp .ne 7, 3) := by decide +kernel
theorem dX2_fillWeights_26 : decode cX2_fillWeights 26 = .ok (.iconst 1, 1) := by decide +kernel
theorem dX2_fillWeights_27 : decode cX2_fillWeights 27 = .ok (.goto 4, 3) := by decide +kernel
theorem dX2_fillWeights_30 : decode cX2_fillWeights 30 = .ok (.iconst 0, 1) := by decide +kernel
theorem dX2_fillWeights_31 : decode cX2_fillWeights 31 = .ok (.istore 4, 2) := by decide +kernel
theorem dX2_fillWeights_33 : decode cX2_fillWeights 33 = .ok (.iload 4, 2) := by decide +kernel
theorem dX2_fillWeights_35 : decode cX2_fillWeights 35 = .ok (.ifCond .eq 7, 3) := by decide +kernel
theorem dX2_fillWeights_38 : decode cX2_fillWeights 38 = .ok (.iconst 4, 1) := by decide +kernel
theorem dX2_fillWeights_39 : decode cX2_fillWeights 39 = .ok (.goto 4, 3) := by decide +kernel
theorem dX2_fillWeights_42 : decode cX2_fillWeights 42 = .ok (.iconst 1, 1) := by decide +kernel
theorem dX2_fillWeights_43 : decode cX2_fillWeights 43 = .ok (.istore_n 3, 1) := by decide +kernel
theorem dX2_fillWeights_44 : decode cX2_fillWeights 44 = .ok (.iload 4, 2) := by decide +kernel
theorem dX2_fillWeights_46 : decode cX2_fillWeights 46 = .ok (.ifCond .eq 9, 3) := by decide +kernel
theorem dX2_fillWeights_49 : decode cX2_fillWeights 49 = .ok (.iload_n 2, 1) := by decide +kernel
theorem dX2_fillWeights_50 : decode cX2_fillWeights 50 = .ok (.iconst 4, 1) := by decide +kernel
theorem dX2_fillWeights_51 : decode cX2_fillWeights 51 = .ok (.irem, 1) := by decide +kernel
theorem dX2_fillWeights_52 : decode cX2_fillWeights 52 = .ok (.goto 8, 3) := by decide +kernel
theorem dX2_fillWeights_55 : decode cX2_fillWeights 55 = .ok (.iload_n 2, 1) := by decide +kernel
theorem dX2_fillWeights_56 : decode cX2_fillWeights 56 = .ok (.iload_n 2, 1) := by decide +kernel
theorem dX2_fillWeights_57 : decode cX2_fillWeights 57 = .ok (.iconst 4, 1) := by decide +kernel
theorem dX2_fillWeights_58 : decode cX2_fillWeights 58 = .ok (.irem, 1) := by decide +kernel
theorem dX2_fillWeights_59 : decode cX2_fillWeights 59 = .ok (.isub, 1) := by decide +kernel
theorem dX2_fillWeights_60 : decode cX2_fillWeights 60 = .ok (.istore_n 2, 1) := by decide +kernel
theorem dX2_fillWeights_61 : decode cX2_fillWeights 61 = .ok (.iconst 0, 1) := by decide +kernel
theorem dX2_fillWeights_62 : decode cX2_fillWeights 62 = .ok (.istore 4, 2) := by decide +kernel
theorem dX2_fillWeights_64 : decode cX2_fillWeights 64 = .ok (.iload 4, 2) := by decide +kernel
theorem dX2_fillWeights_66 : decode cX2_fillWeights 66 = .ok (.aload_n 0, 1) := by decide +kernel
theorem dX2_fillWeights_67 : decode cX2_fillWeights 67 = .ok (.getfield 67, 3) := by decide +kernel
theorem dX2_fillWeights_70 : decode cX2_fillWeights 70 = .ok (.if_icmp .ge 85, 3) := by decide +kernel
theorem dX2_fillWeights_73 : decode cX2_fillWeights 73 = .ok (.iload_n 2, 1) := by decide +kernel
theorem dX2_fillWeights_74 : decode cX2_fillWeights 74 = .ok (.iload 4, 2) := by decide +kernel
theorem dX2_fillWeights_76 : decode cX2_fillWeights 76 = .ok (.iload_n 3, 1) := by decide +kernel
theorem dX2_fillWeights_77 : decode cX2_fillWeights 77 = .ok (.imul, 1) := by decide +kernel
theorem dX2_fillWeights_78 : decode cX2_fillWeights 78 = .ok (.iadd, 1) := by decide +kernel
theorem dX2_fillWeights_79 : decode cX2_fillWeights 79 = .ok (.bipush 12, 2) := by decide +kernel
theorem dX2_fillWeights_81 : decode cX2_fillWeights 81 = .ok (.imul, 1) := by decide +kernel
theorem dX2_fillWeights_82 : decode cX2_fillWeights 82 = .ok (.istore 5, 2) := by decide +kernel
theorem dX2_fillWeights_84 : decode cX2_fillWeights 84 = .ok (.aload_n 0, 1) := by decide +kernel
theorem dX2_fillWeights_85 : decode cX2_fillWeights 85 = .ok (.getfield 21, 3) := by decide +kernel
theorem dX2_fillWeights_88 : decode cX2_fillWeights 88 = .ok (.getfield 123, 3) := by decide +kernel
theorem dX2_fillWeights_91 : decode cX2_fillWeights 91 = .ok (.ifCond .eq 14, 3) := by decide +kernel
theorem dX2_fillWeights_94 : decode cX2_fillWeights 94 = .ok (.aload_n 0, 1) := by decide +kernel
theorem dX2_fillWeights_95 : decode cX2_fillWeights 95 = .ok (.iload 5, 2) := by decide +kernel
theorem dX2_fillWeights_97 : decode cX2_fillWeights 97 = .ok (.iload 4, 2) := by decide +kernel
theorem dX2_fillWeights_99 : decode cX2_fillWeights 99 = .ok (.invokevirtual 158, 3) := by decide +kernel
theorem dX2_fillWeights_102 : decode cX2_fillWeights 102 = .ok (.goto 47, 3) := by decide +kernel
theorem dX2_fillWeights_105 : decode cX2_fillWeights 105 = .ok (.iconst 0, 1) := by decide +kernel
theorem dX2_fillWeights_106 : decode cX2_fillWeights 106 = .ok (.istore 6, 2) := by decide +kernel
theorem dX2_fillWeights_108 : decode cX2_fillWeights 108 = .ok (.iload 6, 2) := by decide +kernel
theorem dX2_fillWeights_110 : decode cX2_fillWeights 110 = .ok (.bipush 12, 2) := by decide +kernel
theorem dX2_fillWeights_112 : decode cX2_fillWeights 112 = .ok (.if_icmp .ge 37, 3) := by decide +kernel
theorem dX2_fillWeights_115 : decode cX2_fillWeights 115 = .ok (.aload_n 0, 1) := by decide +kernel
theorem dX2_fillWeights_116 : decode cX2_fillWeights 116 = .ok (.getfield 28, 3) := by decide +kernel
theorem dX2_fillWeights_119 : decode cX2_fillWeights 119 = .ok (.iload 6, 2) := by decide +kernel
theorem dX2_fillWeights_121 : decode cX2_fillWeights 121 = .ok (.iconst 4, 1) := by decide +kernel
theorem dX2_fillWeights_122 : decode cX2_fillWeights 122 = .ok (.imul, 1) := by decide +kernel
theorem dX2_fillWeights_123 : decode cX2_fillWeights 123 = .ok (.iload 4, 2) := by decide +kernel
theorem dX2_fillWeights_125 : decode cX2_fillWeights 125 = .ok (.iadd, 1) := by decide +kernel
theorem dX2_fillWeights_126 : decode cX2_fillWeights 126 = .ok (.aload_n 0, 1) := by decide +kernel
theorem dX2_fillWeights_127 : decode cX2_fillWeights 127 = .ok (.getfield 56, 3) := by decide +kernel
theorem dX2_fillWeights_130 : decode cX2_fillWeights 130 = .ok (.getfield 112, 3) := by decide +kernel
theorem dX2_fillWeights_133 : decode cX2_fillWeights 133 = .ok (.getfield 161, 3) := by decide +kernel
theorem dX2_fillWeights_136 : decode cX2_fillWeights 136 = .ok (.iload 5, 2) := by decide +kernel
theorem dX2_fillWeights_138 : decode cX2_fillWeights 138 = .ok (.iload 6, 2) := by decide +kernel
theorem dX2_fillWeights_140 : decode cX2_fillWeights 140 = .ok (.iadd, 1) := by decide +kernel
theorem dX2_fillWeights_141 : decode cX2_fillWeights 141 = .ok (.iaload, 1) := by decide +kernel
theorem dX2_fillWeights_142 : decode cX2_fillWeights 142 = .ok (.iastore, 1) := by decide +kernel
theorem dX2_fillWeights_143 : decode cX2_fillWeights 143 = .ok (.iinc 6 1, 3) := by decide +kernel
theorem dX2_fillWeights_146 : decode cX2_fillWeights 146 = .ok (.goto (-38), 3) := by decide +kernel
theorem dX2_fillWeights_149 : decode cX2_fillWeights 149 = .ok (.iinc 4 1, 3) := by decide +kernel
theorem dX2_fillWeights_152 : decode cX2_fillWeights 152 = .ok (.goto (-88), 3) := by decide +kernel
theorem dX2_fillWeights_155 : decode cX2_fillWeights 155 = .ok (.return_, 1) := by decide +kernel
theorem dX2_fillOff_0 : decode cX2_fillOff 0 = .ok (.aload_n 0, 1) := by decide +kernel
theorem dX2_fillOff_1 : decode cX2_fillOff 1 = .ok (.getfield 56, 3) := by decide +kernel
theorem dX2_fillOff_4 : decode cX2_fillOff 4 = .ok (.getfield 112, 3) := by decide +kernel
theorem dX2_fillOff_7 : decode cX2_fillOff 7 = .ok (.getfield 161, 3) := by decide +kernel
theorem dX2_fillOff_10 : decode cX2_fillOff 10 = .ok (.astore_n 3, 1) := by decide +kernel
theorem dX2_fillOff_11 : decode cX2_fillOff 11 = .ok (.aload_n 0, 1) := by decide +kernel
theorem dX2_fillOff_12 : decode cX2_fillOff 12 = .ok (.getfield 28, 3) := by decide +kernel
theorem dX2_fillOff_15 : decode cX2_fillOff 15 = .ok (.iconst 0, 1) := by decide +kernel
theorem dX2_fillOff_16 : decode cX2_fillOff 16 = .ok (.iload_n 2, 1) := by decide +kernel
theorem dX2_fillOff_17 : decode cX2_fillOff 17 = .ok (.iadd, 1) := by decide +kernel
theorem dX2_fillOff_18 : decode cX2_fillOff 18 = .ok (.iconst 0, 1) := by decide +kernel
theorem dX2_fillOff_19 : decode cX2_fillOff 19 = .ok (.iastore, 1) := by decide +kernel
theorem dX2_fillOff_20 : decode cX2_fillOff 20 = .ok (.aload_n 0, 1) := by decide +kernel
theorem dX2_fillOff_21 : decode cX2_fillOff 21 = .ok (.getfield 28, 3) := by decide +kernel
theorem dX2_fillOff_24 : decode cX2_fillOff 24 = .ok (.iconst 4, 1) := by decide +kernel
theorem dX2_fillOff_25 : decode cX2_fillOff 25 = .ok (.iload_n 2, 1) := by decide +kernel
theorem dX2_fillOff_26 : decode cX2_fillOff 26 = .ok (.iadd, 1) := by decide +kernel
theorem dX2_fillOff_27 : decode cX2_fillOff 27 = .ok (.aload_n 3, 1) := by decide +kernel
theorem dX2_fillOff_28 : decode cX2_fillOff 28 = .ok (.iload_n 1, 1) := by decide +kernel
theorem dX2_fillOff_29 : decode cX2_fillOff 29 = .ok (.iconst 0, 1) := by decide +kernel
theorem dX2_fillOff_30 : decode cX2_fillOff 30 = .ok (.iadd, 1) := by decide +kernel
theorem dX2_fillOff_31 : decode cX2_fillOff 31 = .ok (.iaload, 1) := by decide +kernel
theorem dX2_fillOff_32 : decode cX2_fillOff 32 = .ok (.iastore, 1) := by decide +kernel
theorem dX2_fillOff_33 : decode cX2_fillOff 33 = .ok (.aload_n 0, 1) := by decide +kernel
theorem dX2_fillOff_34 : decode cX2_fillOff 34 = .ok (.getfield 28, 3) := by decide +kernel
theorem dX2_fillOff_37 : decode cX2_fillOff 37 = .ok (.bipush 8, 2) := by decide +kernel
theorem dX2_fillOff_39 : decode cX2_fillOff 39 = .ok (.iload_n 2, 1) := by decide +kernel
theorem dX2_fillOff_40 : decode cX2_fillOff 40 = .ok (.iadd, 1) := by decide +kernel
theorem dX2_fillOff_41 : decode cX2_fillOff 41 = .ok (.aload_n 3, 1) := by decide +kernel
theorem dX2_fillOff_42 : decode cX2_fillOff 42 = .ok (.iload_n 1, 1) := by decide +kernel
theorem dX2_fillOff_43 : decode cX2_fillOff 43 = .ok (.iconst 1, 1) := by decide +kernel
theorem dX2_fillOff_44 : decode cX2_fillOff 44 = .ok (.iadd, 1) := by decide +kernel
theorem dX2_fillOff_45 : decode cX2_fillOff 45 = .ok (.iaload, 1) := by decide +kernel
theorem dX2_fillOff_46 : decode cX2_fillOff 46 = .ok (.iastore, 1) := by decide +kernel
theorem dX2_fillOff_47 : decode cX2_fillOff 47 = .ok (.iconst 0, 1) := by decide +kernel
theorem dX2_fillOff_48 : decode cX2_fillOff 48 = .ok (.istore 4, 2) := by decide +kernel
theorem dX2_fillOff_50 : decode cX2_fillOff 50 = .ok (.iload 4, 2) := by decide +kernel
theorem dX2_fillOff_52 : decode cX2_fillOff 52 = .ok (.bipush 10, 2) := by decide +kernel
theorem dX2_fillOff_54 : decode cX2_fillOff 54 = .ok (.if_icmp .ge 55, 3) := by decide +kernel
theorem dX2_fillOff_57 : decode cX2_fillOff 57 = .ok (.aload_n 0, 1) := by decide +kernel
theorem dX2_fillOff_58 : decode cX2_fillOff 58 = .ok (.getfield 56, 3) := by decide +kernel
theorem dX2_fillOff_61 : decode cX2_fillOff 61 = .ok (.getfield 112, 3) := by decide +kernel
theorem dX2_fillOff_64 : decode cX2_fillOff 64 = .ok (.iload 4, 2) := by decide +kernel
theorem dX2_fillOff_66 : decode cX2_fillOff 66 = .ok (.aload_n 0, 1) := by decide +kernel
theorem dX2_fillOff_67 : decode cX2_fillOff 67 = .ok (.getfield 21, 3) := by decide +kernel
theorem dX2_fillOff_70 : decode cX2_fillOff 70 = .ok (.getfield 166, 3) := by decide +kernel
theorem dX2_fillOff_73 : decode cX2_fillOff 73 = .ok (.invokestatic 169, 3) := by decide +kernel
theorem dX2_fillOff_76 : decode cX2_fillOff 76 = .ok (.invokevirtual 174, 3) := by decide +kernel
theorem dX2_fillOff_79 : decode cX2_fillOff 79 = .ok (.istore 5, 2) := by decide +kernel
theorem dX2_fillOff_81 : decode cX2_fillOff 81 = .ok (.aload_n 0, 1) := by decide +kernel
theorem dX2_fillOff_82 : decode cX2_fillOff 82 = .ok (.getfield 28, 3) := by decide +kernel
theorem dX2_fillOff_85 : decode cX2_fillOff 85 = .ok (.iload 5, 2) := by decide +kernel
theorem dX2_fillOff_87 : decode cX2_fillOff 87 = .ok (.iconst 4, 1) := by decide +kernel
theorem dX2_fillOff_88 : decode cX2_fillOff 88 = .ok (.imul, 1) := by decide +kernel
theorem dX2_fillOff_89 : decode cX2_fillOff 89 = .ok (.iload_n 2, 1) := by decide +kernel
theorem dX2_fillOff_90 : decode cX2_fillOff 90 = .ok (.iadd, 1) := by decide +kernel
theorem dX2_fillOff_91 : decode cX2_fillOff 91 = .ok (.dup2, 1) := by decide +kernel
theorem dX2_fillOff_92 : decode cX2_fillOff 92 = .ok (.iaload, 1) := by decide +kernel
theorem dX2_fillOff_93 : decode cX2_fillOff 93 = .ok (.aload_n 3, 1) := by decide +kernel
theorem dX2_fillOff_94 : decode cX2_fillOff 94 = .ok (.iload_n 1, 1) := by decide +kernel
theorem dX2_fillOff_95 : decode cX2_fillOff 95 = .ok (.iconst 2, 1) := by decide +kernel
theorem dX2_fillOff_96 : decode cX2_fillOff 96 = .ok (.iadd, 1) := by decide +kernel
theorem dX2_fillOff_97 : decode cX2_fillOff 97 = .ok (.iload 4, 2) := by decide +kernel
theorem dX2_fillOff_99 : decode cX2_fillOff 99 = .ok (.iadd, 1) := by decide +kernel
theorem dX2_fillOff_100 : decode cX2_fillOff 100 = .ok (.iaload, 1) := by decide +kernel
theorem dX2_fillOff_101 : decode cX2_fillOff 101 = .ok (.iadd, 1) := by decide +kernel
theorem dX2_fillOff_102 : decode cX2_fillOff 102 = .ok (.iastore, 1) := by decide +kernel
theorem dX2_fillOff_103 : decode cX2_fillOff 103 = .ok (.iinc 4 1, 3) := by decide +kernel
theorem dX2_fillOff_106 : decode cX2_fillOff 106 = .ok (.goto (-56), 3) := by decide +kernel
theorem dX2_fillOff_109 : decode cX2_fillOff 109 = .ok (.return_, 1) := by decide +kernel
theorem dX2_mayCome_0 : decode cX2_mayCome 0 = .ok (.iconst 0, 1) := by decide +kernel
theorem dX2_mayCome_1 : decode cX2_mayCome 1 = .ok (.istore_n 2, 1) := by decide +kernel
theorem dX2_mayCome_2 : decode cX2_mayCome 2 = .ok (.iload_n 2, 1) := by decide +kernel
theorem dX2_mayCome_3 : decode cX2_mayCome 3 = .ok (.aload_n 0, 1) := by decide +kernel
theorem dX2_mayCome_4 : decode cX2_mayCome 4 = .ok (.getfield 67, 3) := by decide +kernel
theorem dX2_mayCome_7 : decode cX2_mayCome 7 = .ok (.if_icmp .ge 24, 3) := by decide +kernel
theorem dX2_mayCome_10 : decode cX2_mayCome 10 = .ok (.aload_n 0, 1) := by decide +kernel
theorem dX2_mayCome_11 : decode cX2_mayCome 11 = .ok (.getfield 28, 3) := by decide +kernel
theorem dX2_mayCome_14 : decode cX2_mayCome 14 = .ok (.iload_n 1, 1) := by decide +kernel
theorem dX2_mayCome_15 : decode cX2_mayCome 15 = .ok (.iconst 4, 1) := by decide +kernel
theorem dX2_mayCome_16 : decode cX2_mayCome 16 = .ok (.imul, 1) := by decide +kernel
theorem dX2_mayCome_17 : decode cX2_mayCome 17 = .ok (.iload_n 2, 1) := by decide +kernel
theorem dX2_mayCome_18 : decode cX2_mayCome 18 = .ok (.iadd, 1) := by decide +kernel
theorem dX2_mayCome_19 : decode cX2_mayCome 19 = .ok (.iaload, 1) := by decide +kernel
theorem dX2_mayCome_20 : decode cX2_mayCome 20 = .ok (.ifCond .le 5, 3) := by decide +kernel
theorem dX2_mayCome_23 : decode cX2_mayCome 23 = .ok (.iconst 1, 1) := by decide +kernel
theorem dX2_mayCome_24 : decode cX2_mayCome 24 = .ok (.ireturn, 1) := by decide +kernel
theorem dX2_mayCome_25 : decode cX2_mayCome 25 = .ok (.iinc 2 1, 3) := by decide +kernel
theorem dX2_mayCome_28 : decode cX2_mayCome 28 = .ok (.goto (-26), 3) := by decide +kernel
theorem dX2_mayCome_31 : decode cX2_mayCome 31 = .ok (.iconst 0, 1) := by decide +kernel
theorem dX2_mayCome_32 : decode cX2_mayCome 32 = .ok (.ireturn, 1) := by decide +kernel
theorem dX2_placeBehind_0 : decode cX2_placeBehind 0 = .ok (.aload_n 0, 1) := by decide +kernel
theorem dX2_placeBehind_1 : decode cX2_placeBehind 1 = .ok (.getfield 25, 3) := by decide +kernel
theorem dX2_placeBehind_4 : decode cX2_placeBehind 4 = .ok (.getfield 177, 3) := by decide +kernel
theorem dX2_placeBehind_7 : decode cX2_placeBehind 7 = .ok (.aload_n 0, 1) := by decide +kernel
theorem dX2_placeBehind_8 : decode cX2_placeBehind 8 = .ok (.getfield 21, 3) := by decide +kernel
theorem dX2_placeBehind_11 : decode cX2_placeBehind 11 = .ok (.getfield 177, 3) := by decide +kernel
theorem dX2_placeBehind_14 : decode cX2_placeBehind 14 = .ok (.if_icmp .le 11, 3) := by decide +kernel
theorem dX2_placeBehind_17 : decode cX2_placeBehind 17 = .ok (.aload_n 0, 1) := by decide +kernel
theorem dX2_placeBehind_18 : decode cX2_placeBehind 18 = .ok (.getfield 25, 3) := by decide +kernel
theorem dX2_placeBehind_21 : decode cX2_placeBehind 21 = .ok (.getfield 155, 3) := by decide +kernel
theorem dX2_placeBehind_24 : decode cX2_placeBehind 24 = .ok (.ireturn, 1) := by decide +kernel
theorem dX2_placeBehind_25 : decode cX2_placeBehind 25 = .ok (.aload_n 0, 1) := by decide +kernel
theorem dX2_placeBehind_26 : decode cX2_placeBehind 26 = .ok (.getfield 25, 3) := by decide +kernel
theorem dX2_placeBehind_29 : decode cX2_placeBehind 29 = .ok (.getfield 180, 3) := by decide +kernel
theorem dX2_placeBehind_32 : decode cX2_placeBehind 32 = .ok (.aload_n 0, 1) := by decide +kernel
theorem dX2_placeBehind_33 : decode cX2_placeBehind 33 = .ok (.getfield 21, 3) := by decide +kernel
theorem dX2_placeBehind_36 : decode cX2_placeBehind 36 = .ok (.getfield 180, 3) := by decide +kernel
theorem dX2_placeBehind_39 : decode cX2_placeBehind 39 = .ok (.if_icmp .le 13, 3) := by decide +kernel
theorem dX2_placeBehind_42 : decode cX2_placeBehind 42 = .ok (.iconst 2, 1) := by decide +kernel
theorem dX2_placeBehind_43 : decode cX2_placeBehind 43 = .ok (.aload_n 0, 1) := by decide +kernel
theorem dX2_placeBehind_44 : decode cX2_placeBehind 44 = .ok (.getfield 25, 3) := by decide +kernel
theorem dX2_placeBehind_47 : decode cX2_placeBehind 47 = .ok (.getfield 155, 3) := by decide +kernel
theorem dX2_placeBehind_50 : decode cX2_placeBehind 50 = .ok (.iadd, 1) := by decide +kernel
theorem dX2_placeBehind_51 : decode cX2_placeBehind 51 = .ok (.ireturn, 1) := by decide +kernel
theorem dX2_placeBehind_52 : decode cX2_placeBehind 52 = .ok (.aload_n 0, 1) := by decide +kernel
theorem dX2_placeBehind_53 : decode cX2_placeBehind 53 = .ok (.aload_n 0, 1) := by decide +kernel
theorem dX2_placeBehind_54 : decode cX2_placeBehind 54 = .ok (.getfield 25, 3) := by decide +kernel
theorem dX2_placeBehind_57 : decode cX2_placeBehind 57 = .ok (.invokevirtual 183, 3) := by decide +kernel
theorem dX2_placeBehind_60 : decode cX2_placeBehind 60 = .ok (.ireturn, 1) := by decide +kernel
theorem dX2_write_0 : decode cX2_write 0 = .ok (.aload_n 0, 1) := by decide +kernel
theorem dX2_write_1 : decode cX2_write 1 = .ok (.getfield 70, 3) := by decide +kernel
theorem dX2_write_4 : decode cX2_write 4 = .ok (.iconst 1, 1) := by decide +kernel
theorem dX2_write_5 : decode cX2_write 5 = .ok (.iadd, 1) := by decide +kernel
theorem dX2_write_6 : decode cX2_write 6 = .ok (.aload_n 0, 1) := by decide +kernel
theorem dX2_write_7 : decode cX2_write 7 = .ok (.getfield 67, 3) := by decide +kernel
theorem dX2_write_10 : decode cX2_write 10 = .ok (.iadd, 1) := by decide +kernel
theorem dX2_write_11 : decode cX2_write 11 = .ok (.aload_n 0, 1) := by decide +kernel
theorem dX2_write_12 : decode cX2_write 12 = .ok (.getfield 41, 3) := by decide +kernel
theorem dX2_write_15 : decode cX2_write 15 = .ok (.arraylength, 1) := by decide +kernel
theorem dX2_write_16 : decode cX2_write 16 = .ok (.if_icmp .le 21, 3) := by decide +kernel
theorem dX2_write_19 : decode cX2_write 19 = .ok (.aload_n 0, 1) := by decide +kernel
theorem dX2_write_20 : decode cX2_write 20 = .ok (.aload_n 0, 1) := by decide +kernel
theorem dX2_write_21 : decode cX2_write 21 = .ok (.getfield 41, 3) := by decide +kernel
theorem dX2_write_24 : decode cX2_write 24 = .ok (.aload_n 0, 1) := by decide +kernel
theorem dX2_write_25 : decode cX2_write 25 = .ok (.getfield 41, 3) := by decide +kernel
theorem dX2_write_28 : decode cX2_write 28 = .ok (.arraylength, 1) := by decide +kernel
theorem dX2_write_29 : decode cX2_write 29 = .ok (.iconst 2, 1) := by decide +kernel
theorem dX2_write_30 : decode cX2_write 30 = .ok (.imul, 1) := by decide +kernel
theorem dX2_write_31 : decode cX2_write 31 = .ok (.invokestatic 185, 3) := by decide +kernel
theorem dX2_write_34 : decode cX2_write 34 = .ok (.putfield 41, 3) := by decide +kernel
theorem dX2_write_37 : decode cX2_write 37 = .ok (.aload_n 0, 1) := by decide +kernel
theorem dX2_write_38 : decode cX2_write 38 = .ok (.getfield 41, 3) := by decide +kernel
theorem dX2_write_41 : decode cX2_write 41 = .ok (.aload_n 0, 1) := by decide +kernel
theorem dX2_write_42 : decode cX2_write 42 = .ok (.dup, 1) := by decide +kernel
theorem dX2_write_43 : decode cX2_write 43 = .ok (.getfield 70, 3) := by decide +kernel
theorem dX2_write_46 : decode cX2_write 46 = .ok (.dup_x1, 1) := by decide +kernel
theorem dX2_write_47 : decode cX2_write 47 = .ok (.iconst 1, 1) := by decide +kernel
theorem dX2_write_48 : decode cX2_write 48 = .ok (.iadd, 1) := by decide +kernel
theorem dX2_write_49 : decode cX2_write 49 = .ok (.putfield 70, 3) := by decide +kernel
theorem dX2_write_52 : decode cX2_write 52 = .ok (.iload_n 2, 1) := by decide +kernel
theorem dX2_write_53 : decode cX2_write 53 = .ok (.iastore, 1) := by decide +kernel
theorem dX2_write_54 : decode cX2_write 54 = .ok (.iconst 0, 1) := by decide +kernel
theorem dX2_write_55 : decode cX2_write 55 = .ok (.istore_n 3, 1) := by decide +kernel
theorem dX2_write_56 : decode cX2_write 56 = .ok (.iload_n 3, 1) := by decide +kernel
theorem dX2_write_57 : decode cX2_write 57 = .ok (.aload_n 0, 1) := by decide +kernel
theorem dX2_write_58 : decode cX2_write 58 = .ok (.getfield 67, 3) := by decide +kernel
theorem dX2_write_61 : decode cX2_write 61 = .ok (.if_icmp .ge 35, 3) := by decide +kernel
theorem dX2_write_64 : decode cX2_write 64 = .ok (.aload_n 0, 1) := by decide +kernel
theorem dX2_write_65 : decode cX2_write 65 = .ok (.getfield 41, 3) := by decide +kernel
theorem dX2_write_68 : decode cX2_write 68 = .ok (.aload_n 0, 1) := by decide +kernel
theorem dX2_write_69 : decode cX2_write 69 = .ok (.dup, 1) := by decide +kernel
theorem dX2_write_70 : decode cX2_write 70 = .ok (.getfield 70, 3) := by decide +kernel
theorem dX2_write_73 : decode cX2_write 73 = .ok (.dup_x1, 1) := by decide +kernel
theorem dX2_write_74 : decode cX2_write 74 = .ok (.iconst 1, 1) := by decide +kernel
theorem dX2_write_75 : decode cX2_write 75 = .ok (.iadd, 1) := by decide +kernel
theorem dX2_write_76 : decode cX2_write 76 = .ok (.putfield 70, 3) := by decide +kernel
theorem dX2_write_79 : decode cX2_write 79 = .ok (.aload_n 0, 1) := by decide +kernel
theorem dX2_write_80 : decode cX2_write 80 = .ok (.getfield 28, 3) := by decide +kernel
theorem dX2_write_83 : decode cX2_write 83 = .ok (.iload_n 1, 1) := by decide +kernel
theorem dX2_write_84 : decode cX2_write 84 = .ok (.iconst 4, 1) := by decide +kernel
theorem dX2_write_85 : decode cX2_write 85 = .ok (.imul, 1) := by decide +kernel
theorem dX2_write_86 : decode cX2_write 86 = .ok (.iload_n 3, 1) := by decide +kernel
theorem dX2_write_87 : decode cX2_write 87 = .ok (.iadd, 1) := by decide +kernel
theorem dX2_write_88 : decode cX2_write 88 = .ok (.iaload, 1) := by decide +kernel
theorem dX2_write_89 : decode cX2_write 89 = .ok (.iastore, 1) := by decide +kernel
theorem dX2_write_90 : decode cX2_write 90 = .ok (.iinc 3 1, 3) := by decide +kernel
theorem dX2_write_93 : decode cX2_write 93 = .ok (.goto (-37), 3) := by decide +kernel
theorem dX2_write_96 : decode cX2_write 96 = .ok (.return_, 1) := by decide +kernel
theorem dX2_makeRoom_0 : decode cX2_makeRoom 0 = .ok (.iconst 4, 1) := by decide +kernel
theorem dX2_makeRoom_1 : decode cX2_makeRoom 1 = .ok (.aload_n 0, 1) := by decide +kernel
theorem dX2_makeRoom_2 : decode cX2_makeRoom 2 = .ok (.getfield 12, 3) := by decide +kernel
theorem dX2_makeRoom_5 : decode cX2_makeRoom 5 = .ok (.invokevirtual 191, 3) := by decide +kernel
theorem dX2_makeRoom_8 : decode cX2_makeRoom 8 = .ok (.iadd, 1) := by decide +kernel
theorem dX2_makeRoom_9 : decode cX2_makeRoom 9 = .ok (.iconst 1, 1) := by decide +kernel
theorem dX2_makeRoom_10 : decode cX2_makeRoom 10 = .ok (.iadd, 1) := by decide +kernel
theorem dX2_makeRoom_11 : decode cX2_makeRoom 11 = .ok (.istore_n 1, 1) := by decide +kernel
theorem dX2_makeRoom_12 : decode cX2_makeRoom 12 = .ok (.aload_n 0, 1) := by decide +kernel
theorem dX2_makeRoom_13 : decode cX2_makeRoom 13 = .ok (.getfield 35, 3) := by decide +kernel
theorem dX2_makeRoom_16 : decode cX2_makeRoom 16 = .ok (.arraylength, 1) := by decide +kernel
theorem dX2_makeRoom_17 : decode cX2_makeRoom 17 = .ok (.iload_n 1, 1) := by decide +kernel
theorem dX2_makeRoom_18 : decode cX2_makeRoom 18 = .ok (.if_icmp .ge 15, 3) := by decide +kernel
theorem dX2_makeRoom_21 : decode cX2_makeRoom 21 = .ok (.aload_n 0, 1) := by decide +kernel
theorem dX2_makeRoom_22 : decode cX2_makeRoom 22 = .ok (.aload_n 0, 1) := by decide +kernel
theorem dX2_makeRoom_23 : decode cX2_makeRoom 23 = .ok (.getfield 35, 3) := by decide +kernel
theorem dX2_makeRoom_26 : decode cX2_makeRoom 26 = .ok (.iload_n 1, 1) := by decide +kernel
theorem dX2_makeRoom_27 : decode cX2_makeRoom 27 = .ok (.invokestatic 185, 3) := by decide +kernel
theorem dX2_makeRoom_30 : decode cX2_makeRoom 30 = .ok (.putfield 35, 3) := by decide +kernel
theorem dX2_makeRoom_33 : decode cX2_makeRoom 33 = .ok (.aload_n 0, 1) := by decide +kernel
theorem dX2_makeRoom_34 : decode cX2_makeRoom 34 = .ok (.getfield 64, 3) := by decide +kernel
theorem dX2_makeRoom_37 : decode cX2_makeRoom 37 = .ok (.iconst (-1), 1) := by decide +kernel
theorem dX2_makeRoom_38 : decode cX2_makeRoom 38 = .ok (.if_icmp .eq 24, 3) := by decide +kernel
theorem dX2_makeRoom_41 : decode cX2_makeRoom 41 = .ok (.aload_n 0, 1) := by decide +kernel
theorem dX2_makeRoom_42 : decode cX2_makeRoom 42 = .ok (.getfield 38, 3) := by decide +kernel
theorem dX2_makeRoom_45 : decode cX2_makeRoom 45 = .ok (.arraylength, 1) := by decide +kernel
theorem dX2_makeRoom_46 : decode cX2_makeRoom 46 = .ok (.iload_n 1, 1) := by decide +kernel
theorem dX2_makeRoom_47 : decode cX2_makeRoom 47 = .ok (.if_icmp .ge 15, 3) := by decide +kernel
theorem dX2_makeRoom_50 : decode cX2_makeRoom 50 = .ok (.aload_n 0, 1) := by decide +kernel
theorem dX2_makeRoom_51 : decode cX2_makeRoom 51 = .ok (.aload_n 0, 1) := by decide +kernel
theorem dX2_makeRoom_52 : decode cX2_makeRoom 52 = .ok (.getfield 38, 3) := by decide +kernel
theorem dX2_makeRoom_55 : decode cX2_makeRoom 55 = .ok (.iload_n 1, 1) := by decide +kernel
theorem dX2_makeRoom_56 : decode cX2_makeRoom 56 = .ok (.invokestatic 185, 3) := by decide +kernel
theorem dX2_makeRoom_59 : decode cX2_makeRoom 59 = .ok (.putfield 38, 3) := by decide +kernel
theorem dX2_makeRoom_62 : decode cX2_makeRoom 62 = .ok (.return_, 1) := by decide +kernel
theorem dX2_makeRows_0 : decode cX2_makeRows 0 = .ok (.iconst 4, 1) := by decide +kernel
theorem dX2_makeRows_1 : decode cX2_makeRows 1 = .ok (.aload_n 0, 1) := by decide +kernel
theorem dX2_makeRows_2 : decode cX2_makeRows 2 = .ok (.getfield 12, 3) := by decide +kernel
theorem dX2_makeRows_5 : decode cX2_makeRows 5 = .ok (.invokevirtual 191, 3) := by decide +kernel
theorem dX2_makeRows_8 : decode cX2_makeRows 8 = .ok (.iadd, 1) := by decide +kernel
theorem dX2_makeRows_9 : decode cX2_makeRows 9 = .ok (.iconst 1, 1) := by decide +kernel
theorem dX2_makeRows_10 : decode cX2_makeRows 10 = .ok (.iadd, 1) := by decide +kernel
theorem dX2_makeRows_11 : decode cX2_makeRows 11 = .ok (.istore_n 1, 1) := by decide +kernel
theorem dX2_makeRows_12 : decode cX2_makeRows 12 = .ok (.aload_n 0, 1) := by decide +kernel
theorem dX2_makeRows_13 : decode cX2_makeRows 13 = .ok (.getfield 47, 3) := by decide +kernel
theorem dX2_makeRows_16 : decode cX2_makeRows 16 = .ok (.arraylength, 1) := by decide +kernel
theorem dX2_makeRows_17 : decode cX2_makeRows 17 = .ok (.iload_n 1, 1) := by decide +kernel
theorem dX2_makeRows_18 : decode cX2_makeRows 18 = .ok (.if_icmp .ge 17, 3) := by decide +kernel
theorem dX2_makeRows_21 : decode cX2_makeRows 21 = .ok (.aload_n 0, 1) := by decide +kernel
theorem dX2_makeRows_22 : decode cX2_makeRows 22 = .ok (.iload_n 1, 1) := by decide +kernel
theorem dX2_makeRows_23 : decode cX2_makeRows 23 = .ok (.newarray .int, 2) := by decide +kernel
theorem dX2_makeRows_25 : decode cX2_makeRows 25 = .ok (.putfield 47, 3) := by decide +kernel
theorem dX2_makeRows_28 : decode cX2_makeRows 28 = .ok (.aload_n 0, 1) := by decide +kernel
theorem dX2_makeRows_29 : decode cX2_makeRows 29 = .ok (.iload_n 1, 1) := by decide +kernel
theorem dX2_makeRows_30 : decode cX2_makeRows 30 = .ok (.newarray .int, 2) := by decide +kernel
theorem dX2_makeRows_32 : decode cX2_makeRows 32 = .ok (.putfield 44, 3) := by decide +kernel
theorem dX2_makeRows_35 : decode cX2_makeRows 35 = .ok (.aload_n 0, 1) := by decide +kernel
theorem dX2_makeRows_36 : decode cX2_makeRows 36 = .ok (.getfield 64, 3) := by decide +kernel
theorem dX2_makeRows_39 : decode cX2_makeRows 39 = .ok (.iconst (-1), 1) := by decide +kernel
theorem dX2_makeRows_40 : decode cX2_makeRows 40 = .ok (.if_icmp .eq 26, 3) := by decide +kernel
theorem dX2_makeRows_43 : decode cX2_makeRows 43 = .ok (.aload_n 0, 1) := by decide +kernel
theorem dX2_makeRows_44 : decode cX2_makeRows 44 = .ok (.getfield 53, 3) := by decide +kernel
theorem dX2_makeRows_47 : decode cX2_makeRows 47 = .ok (.arraylength, 1) := by decide +kernel
theorem dX2_makeRows_48 : decode cX2_makeRows 48 = .ok (.iload_n 1, 1) := by decide +kernel
theorem dX2_makeRows_49 : decode cX2_makeRows 49 = .ok (.if_icmp .ge 17, 3) := by decide +kernel
theorem dX2_makeRows_52 : decode cX2_makeRows 52 = .ok (.aload_n 0, 1) := by decide +kernel
theorem dX2_makeRows_53 : decode cX2_makeRows 53 = .ok (.iload_n 1, 1) := by decide +kernel
theorem dX2_makeRows_54 : decode cX2_makeRows 54 = .ok (.newarray .int, 2) := by decide +kernel
theorem dX2_makeRows_56 : decode cX2_makeRows 56 = .ok (.putfield 53, 3) := by decide +kernel
theorem dX2_makeRows_59 : decode cX2_makeRows 59 = .ok (.aload_n 0, 1) := by decide +kernel
theorem dX2_makeRows_60 : decode cX2_makeRows 60 = .ok (.iload_n 1, 1) := by decide +kernel
theorem dX2_makeRows_61 : decode cX2_makeRows 61 = .ok (.newarray .int, 2) := by decide +kernel
theorem dX2_makeRows_63 : decode cX2_makeRows 63 = .ok (.putfield 50, 3) := by decide +kernel
theorem dX2_makeRows_66 : decode cX2_makeRows 66 = .ok (.return_, 1) := by decide +kernel
theorem dX2_weighAll_0 : decode cX2_weighAll 0 = .ok (.aload_n 0, 1) := by decide +kernel
theorem dX2_weighAll_1 : decode cX2_weighAll 1 = .ok (.invokevirtual 194, 3) := by decide +kernel
theorem dX2_weighAll_4 : decode cX2_weighAll 4 = .ok (.aload_n 0, 1) := by decide +kernel
theorem dX2_weighAll_5 : decode cX2_weighAll 5 = .ok (.aload_n 0, 1) := by decide +kernel
theorem dX2_weighAll_6 : decode cX2_weighAll 6 = .ok (.getfield 47, 3) := by decide +kernel
theorem dX2_weighAll_9 : decode cX2_weighAll 9 = .ok (.aload_n 0, 1) := by decide +kernel
theorem dX2_weighAll_10 : decode cX2_weighAll 10 = .ok (.getfield 44, 3) := by decide +kernel
theorem dX2_weighAll_13 : decode cX2_weighAll 13 = .ok (.iload_n 2, 1) := by decide +kernel
theorem dX2_weighAll_14 : decode cX2_weighAll 14 = .ok (.invokevirtual 197, 3) := by decide +kernel
theorem dX2_weighAll_17 : decode cX2_weighAll 17 = .ok (.aload_n 0, 1) := by decide +kernel
theorem dX2_weighAll_18 : decode cX2_weighAll 18 = .ok (.getfield 64, 3) := by decide +kernel
theorem dX2_weighAll_21 : decode cX2_weighAll 21 = .ok (.iconst (-1), 1) := by decide +kernel
theorem dX2_weighAll_22 : decode cX2_weighAll 22 = .ok (.if_icmp .eq 16, 3) := by decide +kernel
theorem dX2_weighAll_25 : decode cX2_weighAll 25 = .ok (.aload_n 0, 1) := by decide +kernel
theorem dX2_weighAll_26 : decode cX2_weighAll 26 = .ok (.aload_n 0, 1) := by decide +kernel
theorem dX2_weighAll_27 : decode cX2_weighAll 27 = .ok (.getfield 53, 3) := by decide +kernel
theorem dX2_weighAll_30 : decode cX2_weighAll 30 = .ok (.aload_n 0, 1) := by decide +kernel
theorem dX2_weighAll_31 : decode cX2_weighAll 31 = .ok (.getfield 50, 3) := by decide +kernel
theorem dX2_weighAll_34 : decode cX2_weighAll 34 = .ok (.iload_n 2, 1) := by decide +kernel
theorem dX2_weighAll_35 : decode cX2_weighAll 35 = .ok (.invokevirtual 197, 3) := by decide +kernel
theorem dX2_weighAll_38 : decode cX2_weighAll 38 = .ok (.iconst 1, 1) := by decide +kernel
theorem dX2_weighAll_39 : decode cX2_weighAll 39 = .ok (.istore_n 3, 1) := by decide +kernel
theorem dX2_weighAll_40 : decode cX2_weighAll 40 = .ok (.iload_n 3, 1) := by decide +kernel
theorem dX2_weighAll_41 : decode cX2_weighAll 41 = .ok (.iload_n 1, 1) := by decide +kernel
theorem dX2_weighAll_42 : decode cX2_weighAll 42 = .ok (.if_icmp .gt 41, 3) := by decide +kernel
theorem dX2_weighAll_45 : decode cX2_weighAll 45 = .ok (.aload_n 0, 1) := by decide +kernel
theorem dX2_weighAll_46 : decode cX2_weighAll 46 = .ok (.getfield 44, 3) := by decide +kernel
theorem dX2_weighAll_49 : decode cX2_weighAll 49 = .ok (.astore 4, 2) := by decide +kernel
theorem dX2_weighAll_51 : decode cX2_weighAll 51 = .ok (.aload_n 0, 1) := by decide +kernel
theorem dX2_weighAll_52 : decode cX2_weighAll 52 = .ok (.aload_n 0, 1) := by decide +kernel
theorem dX2_weighAll_53 : decode cX2_weighAll 53 = .ok (.getfield 47, 3) := by decide +kernel
theorem dX2_weighAll_56 : decode cX2_weighAll 56 = .ok (.putfield 44, 3) := by decide +kernel
theorem dX2_weighAll_59 : decode cX2_weighAll 59 = .ok (.aload_n 0, 1) := by decide +kernel
theorem dX2_weighAll_60 : decode cX2_weighAll 60 = .ok (.aload 4, 2) := by decide +kernel
theorem dX2_weighAll_62 : decode cX2_weighAll 62 = .ok (.putfield 47, 3) := by decide +kernel
theorem dX2_weighAll_65 : decode cX2_weighAll 65 = .ok (.aload_n 0, 1) := by decide +kernel
theorem dX2_weighAll_66 : decode cX2_weighAll 66 = .ok (.aload_n 0, 1) := by decide +kernel
theorem dX2_weighAll_67 : decode cX2_weighAll 67 = .ok (.getfield 32, 3) := by decide +kernel
theorem dX2_weighAll_70 : decode cX2_weighAll 70 = .ok (.iload_n 1, 1) := by decide +kernel
theorem dX2_weighAll_71 : decode cX2_weighAll 71 = .ok (.iload_n 3, 1) := by decide +kernel
theorem dX2_weighAll_72 : decode cX2_weighAll 72 = .ok (.isub, 1) := by decide +kernel
theorem dX2_weighAll_73 : decode cX2_weighAll 73 = .ok (.iaload, 1) := by decide +kernel
theorem dX2_weighAll_74 : decode cX2_weighAll 74 = .ok (.invokevirtual 201, 3) := by decide +kernel
theorem dX2_weighAll_77 : decode cX2_weighAll 77 = .ok (.iinc 3 1, 3) := by decide +kernel
theorem dX2_weighAll_80 : decode cX2_weighAll 80 = .ok (.goto (-40), 3) := by decide +kernel
theorem dX2_weighAll_83 : decode cX2_weighAll 83 = .ok (.return_, 1) := by decide +kernel
theorem dX2_fillEnds_0 : decode cX2_fillEnds 0 = .ok (.iconst 4, 1) := by decide +kernel
theorem dX2_fillEnds_1 : decode cX2_fillEnds 1 = .ok (.istore 4, 2) := by decide +kernel
theorem dX2_fillEnds_3 : decode cX2_fillEnds 3 = .ok (.iload 4, 2) := by decide +kernel
theorem dX2_fillEnds_5 : decode cX2_fillEnds 5 = .ok (.iconst 4, 1) := by decide +kernel
theorem dX2_fillEnds_6 : decode cX2_fillEnds 6 = .ok (.aload_n 0, 1) := by decide +kernel
theorem dX2_fillEnds_7 : decode cX2_fillEnds 7 = .ok (.getfield 12, 3) := by decide +kernel
theorem dX2_fillEnds_10 : decode cX2_fillEnds 10 = .ok (.getfield 97, 3) := by decide +kernel
theorem dX2_fillEnds_13 : decode cX2_fillEnds 13 = .ok (.iadd, 1) := by decide +kernel
theorem dX2_fillEnds_14 : decode cX2_fillEnds 14 = .ok (.if_icmp .ge 14, 3) := by decide +kernel
theorem dX2_fillEnds_17 : decode cX2_fillEnds 17 = .ok (.aload_n 1, 1) := by decide +kernel
theorem dX2_fillEnds_18 : decode cX2_fillEnds 18 = .ok (.iload 4, 2) := by decide +kernel
theorem dX2_fillEnds_20 : decode cX2_fillEnds 20 = .ok (.iconst 0, 1) := by decide +kernel
theorem dX2_fillEnds_21 : decode cX2_fillEnds 21 = .ok (.iastore, 1) := by decide +kernel
theorem dX2_fillEnds_22 : decode cX2_fillEnds 22 = .ok (.iinc 4 1, 3) := by decide +kernel
theorem dX2_fillEnds_25 : decode cX2_fillEnds 25 = .ok (.goto (-22), 3) := by decide +kernel
theorem dX2_fillEnds_28 : decode cX2_fillEnds 28 = .ok (.iconst 0, 1) := by decide +kernel
theorem dX2_fillEnds_29 : decode cX2_fillEnds 29 = .ok (.istore 4, 2) := by decide +kernel
theorem dX2_fillEnds_31 : decode cX2_fillEnds 31 = .ok (.iload 4, 2) := by decide +kernel
theorem dX2_fillEnds_33 : decode cX2_fillEnds 33 = .ok (.iconst 4, 1) := by decide +kernel
theorem dX2_fillEnds_34 : decode cX2_fillEnds 34 = .ok (.if_icmp .ge 37, 3) := by decide +kernel
theorem dX2_fillEnds_37 : decode cX2_fillEnds 37 = .ok (.aload_n 1, 1) := by decide +kernel
theorem dX2_fillEnds_38 : decode cX2_fillEnds 38 = .ok (.iload 4, 2) := by decide +kernel
theorem dX2_fillEnds_40 : decode cX2_fillEnds 40 = .ok (.iload_n 3, 1) := by decide +kernel
theorem dX2_fillEnds_41 : decode cX2_fillEnds 41 = .ok (.iload 4, 2) := by decide +kernel
theorem dX2_fillEnds_43 : decode cX2_fillEnds 43 = .ok (.ishr, 1) := by decide +kernel
theorem dX2_fillEnds_44 : decode cX2_fillEnds 44 = .ok (.iconst 1, 1) := by decide +kernel
theorem dX2_fillEnds_45 : decode cX2_fillEnds 45 = .ok (.iand, 1) := by decide +kernel
theorem dX2_fillEnds_46 : decode cX2_fillEnds 46 = .ok (.iconst 1, 1) := by decide +kernel
theorem dX2_fillEnds_47 : decode cX2_fillEnds 47 = .ok (.if_icmp .ne 8, 3) := by decide +kernel
theorem dX2_fillEnds_50 : decode cX2_fillEnds 50 = .ok (.ldc 204, 2) := by decide +kernel
theorem dX2_fillEnds_52 : decode cX2_fillEnds 52 = .ok (.goto 4, 3) := by decide +kernel
theorem dX2_fillEnds_55 : decode cX2_fillEnds 55 = .ok (.iconst 0, 1) := by decide +kernel
theorem dX2_fillEnds_56 : decode cX2_fillEnds 56 = .ok (.iastore, 1) := by decide +kernel
theorem dX2_fillEnds_57 : decode cX2_fillEnds 57 = .ok (.aload_n 2, 1) := by decide +kernel
theorem dX2_fillEnds_58 : decode cX2_fillEnds 58 = .ok (.iload 4, 2) := by decide +kernel
theorem dX2_fillEnds_60 : decode cX2_fillEnds 60 = .ok (.aload_n 1, 1) := by decide +kernel
theorem dX2_fillEnds_61 : decode cX2_fillEnds 61 = .ok (.iload 4, 2) := by decide +kernel
theorem dX2_fillEnds_63 : decode cX2_fillEnds 63 = .ok (.iaload, 1) := by decide +kernel
theorem dX2_fillEnds_64 : decode cX2_fillEnds 64 = .ok (.iastore, 1) := by decide +kernel
theorem dX2_fillEnds_65 : decode cX2_fillEnds 65 = .ok (.iinc 4 1, 3) := by decide +kernel
theorem dX2_fillEnds_68 : decode cX2_fillEnds 68 = .ok (.goto (-37), 3) := by decide +kernel
theorem dX2_fillEnds_71 : decode cX2_fillEnds 71 = .ok (.return_, 1) := by decide +kernel
theorem dX2_weighLevel_0 : decode cX2_weighLevel 0 = .ok (.iconst 4, 1) := by decide +kernel
theorem dX2_weighLevel_1 : decode cX2_weighLevel 1 = .ok (.istore_n 2, 1) := by decide +kernel
theorem dX2_weighLevel_2 : decode cX2_weighLevel 2 = .ok (.iload_n 2, 1) := by decide +kernel
theorem dX2_weighLevel_3 : decode cX2_weighLevel 3 = .ok (.iload_n 1, 1) := by decide +kernel
theorem dX2_weighLevel_4 : decode cX2_weighLevel 4 = .ok (.if_icmp .ge 24, 3) := by decide +kernel
theorem dX2_weighLevel_7 : decode cX2_weighLevel 7 = .ok (.aload_n 0, 1) := by decide +kernel
theorem dX2_weighLevel_8 : decode cX2_weighLevel 8 = .ok (.getfield 47, 3) := by decide +kernel
theorem dX2_weighLevel_11 : decode cX2_weighLevel 11 = .ok (.iload_n 2, 1) := by decide +kernel
theorem dX2_weighLevel_12 : decode cX2_weighLevel 12 = .ok (.aload_n 0, 1) := by decide +kernel
theorem dX2_weighLevel_13 : decode cX2_weighLevel 13 = .ok (.iload_n 2, 1) := by decide +kernel
theorem dX2_weighLevel_14 : decode cX2_weighLevel 14 = .ok (.aload_n 0, 1) := by decide +kernel
theorem dX2_weighLevel_15 : decode cX2_weighLevel 15 = .ok (.getfield 44, 3) := by decide +kernel
theorem dX2_weighLevel_18 : decode cX2_weighLevel 18 = .ok (.invokevirtual 205, 3) := by decide +kernel
theorem dX2_weighLevel_21 : decode cX2_weighLevel 21 = .ok (.iastore, 1) := by decide +kernel
theorem dX2_weighLevel_22 : decode cX2_weighLevel 22 = .ok (.iinc 2 1, 3) := by decide +kernel
theorem dX2_weighLevel_25 : decode cX2_weighLevel 25 = .ok (.goto (-23), 3) := by decide +kernel
theorem dX2_weighLevel_28 : decode cX2_weighLevel 28 = .ok (.aload_n 0, 1) := by decide +kernel
theorem dX2_weighLevel_29 : decode cX2_weighLevel 29 = .ok (.getfield 64, 3) := by decide +kernel
theorem dX2_weighLevel_32 : decode cX2_weighLevel 32 = .ok (.iconst (-1), 1) := by decide +kernel
theorem dX2_weighLevel_33 : decode cX2_weighLevel 33 = .ok (.if_icmp .ne 4, 3) := by decide +kernel
theorem dX2_weighLevel_36 : decode cX2_weighLevel 36 = .ok (.return_, 1) := by decide +kernel
theorem dX2_weighLevel_37 : decode cX2_weighLevel 37 = .ok (.aload_n 0, 1) := by decide +kernel
theorem dX2_weighLevel_38 : decode cX2_weighLevel 38 = .ok (.getfield 50, 3) := by decide +kernel
theorem dX2_weighLevel_41 : decode cX2_weighLevel 41 = .ok (.astore_n 2, 1) := by decide +kernel
theorem dX2_weighLevel_42 : decode cX2_weighLevel 42 = .ok (.aload_n 0, 1) := by decide +kernel
theorem dX2_weighLevel_43 : decode cX2_weighLevel 43 = .ok (.aload_n 0, 1) := by decide +kernel
theorem dX2_weighLevel_44 : decode cX2_weighLevel 44 = .ok (.getfield 53, 3) := by decide +kernel
theorem dX2_weighLevel_47 : decode cX2_weighLevel 47 = .ok (.putfield 50, 3) := by decide +kernel
theorem dX2_weighLevel_50 : decode cX2_weighLevel 50 = .ok (.aload_n 0, 1) := by decide +kernel
theorem dX2_weighLevel_51 : decode cX2_weighLevel 51 = .ok (.aload_n 2, 1) := by decide +kernel
theorem dX2_weighLevel_52 : decode cX2_weighLevel 52 = .ok (.putfield 53, 3) := by decide +kernel
theorem dX2_weighLevel_55 : decode cX2_weighLevel 55 = .ok (.iconst 4, 1) := by decide +kernel
theorem dX2_weighLevel_56 : decode cX2_weighLevel 56 = .ok (.istore_n 3, 1) := by decide +kernel
theorem dX2_weighLevel_57 : decode cX2_weighLevel 57 = .ok (.iload_n 3, 1) := by decide +kernel
theorem dX2_weighLevel_58 : decode cX2_weighLevel 58 = .ok (.iload_n 1, 1) := by decide +kernel
theorem dX2_weighLevel_59 : decode cX2_weighLevel 59 = .ok (.if_icmp .ge 38, 3) := by decide +kernel
theorem dX2_weighLevel_62 : decode cX2_weighLevel 62 = .ok (.aload_n 0, 1) := by decide +kernel
theorem dX2_weighLevel_63 : decode cX2_weighLevel 63 = .ok (.getfield 53, 3) := by decide +kernel
theorem dX2_weighLevel_66 : decode cX2_weighLevel 66 = .ok (.iload_n 3, 1) := by decide +kernel
theorem dX2_weighLevel_67 : decode cX2_weighLevel 67 = .ok (.aload_n 0, 1) := by decide +kernel
theorem dX2_weighLevel_68 : decode cX2_weighLevel 68 = .ok (.iload_n 3, 1) := by decide +kernel
theorem dX2_weighLevel_69 : decode cX2_weighLevel 69 = .ok (.aload_n 0, 1) := by decide +kernel
theorem dX2_weighLevel_70 : decode cX2_weighLevel 70 = .ok (.getfield 50, 3) := by decide +kernel
theorem dX2_weighLevel_73 : decode cX2_weighLevel 73 = .ok (.invokevirtual 205, 3) := by decide +kernel
theorem dX2_weighLevel_76 : decode cX2_weighLevel 76 = .ok (.aload_n 0, 1) := by decide +kernel
theorem dX2_weighLevel_77 : decode cX2_weighLevel 77 = .ok (.getfield 47, 3) := by decide +kernel
theorem dX2_weighLevel_80 : decode cX2_weighLevel 80 = .ok (.aload_n 0, 1) := by decide +kernel
theorem dX2_weighLevel_81 : decode cX2_weighLevel 81 = .ok (.getfield 38, 3) := by decide +kernel
theorem dX2_weighLevel_84 : decode cX2_weighLevel 84 = .ok (.iload_n 3, 1) := by decide +kernel
theorem dX2_weighLevel_85 : decode cX2_weighLevel 85 = .ok (.iaload, 1) := by decide +kernel
theorem dX2_weighLevel_86 : decode cX2_weighLevel 86 = .ok (.iaload, 1) := by decide +kernel
theorem dX2_weighLevel_87 : decode cX2_weighLevel 87 = .ok (.invokestatic 209, 3) := by decide +kernel
theorem dX2_weighLevel_90 : decode cX2_weighLevel 90 = .ok (.iastore, 1) := by decide +kernel
theorem dX2_weighLevel_91 : decode cX2_weighLevel 91 = .ok (.iinc 3 1, 3) := by decide +kernel
theorem dX2_weighLevel_94 : decode cX2_weighLevel 94 = .ok (.goto (-37), 3) := by decide +kernel
theorem dX2_weighLevel_97 : decode cX2_weighLevel 97 = .ok (.return_, 1) := by decide +kernel
theorem dX2_most_0 : decode cX2_most 0 = .ok (.iconst 0, 1) := by decide +kernel
theorem dX2_most_1 : decode cX2_most 1 = .ok (.istore_n 3, 1) := by decide +kernel
theorem dX2_most_2 : decode cX2_most 2 = .ok (.iconst 0, 1) := by decide +kernel
theorem dX2_most_3 : decode cX2_most 3 = .ok (.istore 4, 2) := by decide +kernel
theorem dX2_most_5 : decode cX2_most 5 = .ok (.iload 4, 2) := by decide +kernel
theorem dX2_most_7 : decode cX2_most 7 = .ok (.aload_n 0, 1) := by decide +kernel
theorem dX2_most_8 : decode cX2_most 8 = .ok (.getfield 67, 3) := by decide +kernel
theorem dX2_most_11 : decode cX2_most 11 = .ok (.if_icmp .ge 22, 3) := by decide +kernel
theorem dX2_most_14 : decode cX2_most 14 = .ok (.iload_n 3, 1) := by decide +kernel
theorem dX2_most_15 : decode cX2_most 15 = .ok (.aload_n 0, 1) := by decide +kernel
theorem dX2_most_16 : decode cX2_most 16 = .ok (.iload_n 1, 1) := by decide +kernel
theorem dX2_most_17 : decode cX2_most 17 = .ok (.iload 4, 2) := by decide +kernel
theorem dX2_most_19 : decode cX2_most 19 = .ok (.aload_n 2, 1) := by decide +kernel
theorem dX2_most_20 : decode cX2_most 20 = .ok (.invokevirtual 212, 3) := by decide +kernel
theorem dX2_most_23 : decode cX2_most 23 = .ok (.invokestatic 209, 3) := by decide +kernel
theorem dX2_most_26 : decode cX2_most 26 = .ok (.istore_n 3, 1) := by decide +kernel
theorem dX2_most_27 : decode cX2_most 27 = .ok (.iinc 4 1, 3) := by decide +kernel
theorem dX2_most_30 : decode cX2_most 30 = .ok (.goto (-25), 3) := by decide +kernel
theorem dX2_most_33 : decode cX2_most 33 = .ok (.iload_n 3, 1) := by decide +kernel
theorem dX2_most_34 : decode cX2_most 34 = .ok (.ireturn, 1) := by decide +kernel
theorem dX2_weigh_0 : decode cX2_weigh 0 = .ok (.lconst 0, 1) := by decide +kernel
theorem dX2_weigh_1 : decode cX2_weigh 1 = .ok (.lstore 4, 2) := by decide +kernel
theorem dX2_weigh_3 : decode cX2_weigh 3 = .ok (.aload_n 0, 1) := by decide +kernel
theorem dX2_weigh_4 : decode cX2_weigh 4 = .ok (.getfield 35, 3) := by decide +kernel
theorem dX2_weigh_7 : decode cX2_weigh 7 = .ok (.iload_n 1, 1) := by decide +kernel
theorem dX2_weigh_8 : decode cX2_weigh 8 = .ok (.iconst 1, 1) := by decide +kernel
theorem dX2_weigh_9 : decode cX2_weigh 9 = .ok (.iadd, 1) := by decide +kernel
theorem dX2_weigh_10 : decode cX2_weigh 10 = .ok (.iaload, 1) := by decide +kernel
theorem dX2_weigh_11 : decode cX2_weigh 11 = .ok (.istore 6, 2) := by decide +kernel
theorem dX2_weigh_13 : decode cX2_weigh 13 = .ok (.aload_n 0, 1) := by decide +kernel
theorem dX2_weigh_14 : decode cX2_weigh 14 = .ok (.getfield 35, 3) := by decide +kernel
theorem dX2_weigh_17 : decode cX2_weigh 17 = .ok (.iload_n 1, 1) := by decide +kernel
theorem dX2_weigh_18 : decode cX2_weigh 18 = .ok (.iaload, 1) := by decide +kernel
theorem dX2_weigh_19 : decode cX2_weigh 19 = .ok (.istore 7, 2) := by decide +kernel
theorem dX2_weigh_21 : decode cX2_weigh 21 = .ok (.iload 7, 2) := by decide +kernel
theorem dX2_weigh_23 : decode cX2_weigh 23 = .ok (.iload 6, 2) := by decide +kernel
theorem dX2_weigh_25 : decode cX2_weigh 25 = .ok (.if_icmp .ge 45, 3) := by decide +kernel
theorem dX2_weigh_28 : decode cX2_weigh 28 = .ok (.lload 4, 2) := by decide +kernel
theorem dX2_weigh_30 : decode cX2_weigh 30 = .ok (.aload_n 0, 1) := by decide +kernel
theorem dX2_weigh_31 : decode cX2_weigh 31 = .ok (.getfield 41, 3) := by decide +kernel
theorem dX2_weigh_34 : decode cX2_weigh 34 = .ok (.iload 7, 2) := by decide +kernel
theorem dX2_weigh_36 : decode cX2_weigh 36 = .ok (.iconst 1, 1) := by decide +kernel
theorem dX2_weigh_37 : decode cX2_weigh 37 = .ok (.iadd, 1) := by decide +kernel
theorem dX2_weigh_38 : decode cX2_weigh 38 = .ok (.iload_n 2, 1) := by decide +kernel
theorem dX2_weigh_39 : decode cX2_weigh 39 = .ok (.iadd, 1) := by decide +kernel
theorem dX2_weigh_40 : decode cX2_weigh 40 = .ok (.iaload, 1) := by decide +kernel
theorem dX2_weigh_41 : decode cX2_weigh 41 = .ok (.i2l, 1) := by decide +kernel
theorem dX2_weigh_42 : decode cX2_weigh 42 = .ok (.aload_n 3, 1) := by decide +kernel
theorem dX2_weigh_43 : decode cX2_weigh 43 = .ok (.aload_n 0, 1) := by decide +kernel
theorem dX2_weigh_44 : decode cX2_weigh 44 = .ok (.getfield 41, 3) := by decide +kernel
theorem dX2_weigh_47 : decode cX2_weigh 47 = .ok (.iload 7, 2) := by decide +kernel
theorem dX2_weigh_49 : decode cX2_weigh 49 = .ok (.iaload, 1) := by decide +kernel
theorem dX2_weigh_50 : decode cX2_weigh 50 = .ok (.iaload, 1) := by decide +kernel
theorem dX2_weigh_51 : decode cX2_weigh 51 = .ok (.i2l, 1) := by decide +kernel
theorem dX2_weigh_52 : decode cX2_weigh 52 = .ok (.lmul, 1) := by decide +kernel
theorem dX2_weigh_53 : decode cX2_weigh 53 = .ok (.ladd, 1) := by decide +kernel
theorem dX2_weigh_54 : decode cX2_weigh 54 = .ok (.lstore 4, 2) := by decide +kernel
theorem dX2_weigh_56 : decode cX2_weigh 56 = .ok (.iload 7, 2) := by decide +kernel
theorem dX2_weigh_58 : decode cX2_weigh 58 = .ok (.iconst 1, 1) := by decide +kernel
theorem dX2_weigh_59 : decode cX2_weigh 59 = .ok (.aload_n 0, 1) := by decide +kernel
theorem dX2_weigh_60 : decode cX2_weigh 60 = .ok (.getfield 67, 3) := by decide +kernel
theorem dX2_weigh_63 : decode cX2_weigh 63 = .ok (.iadd, 1) := by decide +kernel
theorem dX2_weigh_64 : decode cX2_weigh 64 = .ok (.iadd, 1) := by decide +kernel
theorem dX2_weigh_65 : decode cX2_weigh 65 = .ok (.istore 7, 2) := by decide +kernel
theorem dX2_weigh_67 : decode cX2_weigh 67 = .ok (.goto (-46), 3) := by decide +kernel
theorem dX2_weigh_70 : decode cX2_weigh 70 = .ok (.lload 4, 2) := by decide +kernel
theorem dX2_weigh_72 : decode cX2_weigh 72 = .ok (.ldc2_w 216, 3) := by decide +kernel
theorem dX2_weigh_75 : decode cX2_weigh 75 = .ok (.ldiv, 1) := by decide +kernel
theorem dX2_weigh_76 : decode cX2_weigh 76 = .ok (.l2i, 1) := by decide +kernel
theorem dX2_weigh_77 : decode cX2_weigh 77 = .ok (.ireturn, 1) := by decide +kernel
theorem dX2_valueAt_0 : decode cX2_valueAt 0 = .ok (.aload_n 0, 1) := by decide +kernel
theorem dX2_valueAt_1 : decode cX2_valueAt 1 = .ok (.getfield 47, 3) := by decide +kernel
theorem dX2_valueAt_4 : decode cX2_valueAt 4 = .ok (.iload_n 1, 1) := by decide +kernel
theorem dX2_valueAt_5 : decode cX2_valueAt 5 = .ok (.iaload, 1) := by decide +kernel
theorem dX2_valueAt_6 : decode cX2_valueAt 6 = .ok (.ireturn, 1) := by decide +kernel
theorem dX2_savedAt_0 : decode cX2_savedAt 0 = .ok (.aload_n 0, 1) := by decide +kernel
theorem dX2_savedAt_1 : decode cX2_savedAt 1 = .ok (.getfield 53, 3) := by decide +kernel
theorem dX2_savedAt_4 : decode cX2_savedAt 4 = .ok (.iload_n 1, 1) := by decide +kernel
theorem dX2_savedAt_5 : decode cX2_savedAt 5 = .ok (.iaload, 1) := by decide +kernel
theorem dX2_savedAt_6 : decode cX2_savedAt 6 = .ok (.ireturn, 1) := by decide +kernel
theorem dX2_takesAt_0 : decode cX2_takesAt 0 = .ok (.aload_n 0, 1) := by decide +kernel
theorem dX2_takesAt_1 : decode cX2_takesAt 1 = .ok (.getfield 47, 3) := by decide +kernel
theorem dX2_takesAt_4 : decode cX2_takesAt 4 = .ok (.aload_n 0, 1) := by decide +kernel
theorem dX2_takesAt_5 : decode cX2_takesAt 5 = .ok (.getfield 38, 3) := by decide +kernel
theorem dX2_takesAt_8 : decode cX2_takesAt 8 = .ok (.iload_n 1, 1) := by decide +kernel
theorem dX2_takesAt_9 : decode cX2_takesAt 9 = .ok (.iaload, 1) := by decide +kernel
theorem dX2_takesAt_10 : decode cX2_takesAt 10 = .ok (.iaload, 1) := by decide +kernel
theorem dX2_takesAt_11 : decode cX2_takesAt 11 = .ok (.aload_n 0, 1) := by decide +kernel
theorem dX2_takesAt_12 : decode cX2_takesAt 12 = .ok (.iload_n 1, 1) := by decide +kernel
theorem dX2_takesAt_13 : decode cX2_takesAt 13 = .ok (.aload_n 0, 1) := by decide +kernel
theorem dX2_takesAt_14 : decode cX2_takesAt 14 = .ok (.getfield 50, 3) := by decide +kernel
theorem dX2_takesAt_17 : decode cX2_takesAt 17 = .ok (.invokevirtual 205, 3) := by decide +kernel
theorem dX2_takesAt_20 : decode cX2_takesAt 20 = .ok (.if_icmp .le 7, 3) := by decide +kernel
theorem dX2_takesAt_23 : decode cX2_takesAt 23 = .ok (.iconst 1, 1) := by decide +kernel
theorem dX2_takesAt_24 : decode cX2_takesAt 24 = .ok (.goto 4, 3) := by decide +kernel
theorem dX2_takesAt_27 : decode cX2_takesAt 27 = .ok (.iconst 0, 1) := by decide +kernel
theorem dX2_takesAt_28 : decode cX2_takesAt 28 = .ok (.ireturn, 1) := by decide +kernel
theorem dX2_choiceAt_0 : decode cX2_choiceAt 0 = .ok (.iconst 0, 1) := by decide +kernel
theorem dX2_choiceAt_1 : decode cX2_choiceAt 1 = .ok (.istore_n 2, 1) := by decide +kernel
theorem dX2_choiceAt_2 : decode cX2_choiceAt 2 = .ok (.iload_n 2, 1) := by decide +kernel
theorem dX2_choiceAt_3 : decode cX2_choiceAt 3 = .ok (.aload_n 0, 1) := by decide +kernel
theorem dX2_choiceAt_4 : decode cX2_choiceAt 4 = .ok (.getfield 67, 3) := by decide +kernel
theorem dX2_choiceAt_7 : decode cX2_choiceAt 7 = .ok (.iconst 1, 1) := by decide +kernel
theorem dX2_choiceAt_8 : decode cX2_choiceAt 8 = .ok (.isub, 1) := by decide +kernel
theorem dX2_choiceAt_9 : decode cX2_choiceAt 9 = .ok (.if_icmp .ge 28, 3) := by decide +kernel
theorem dX2_choiceAt_12 : decode cX2_choiceAt 12 = .ok (.aload_n 0, 1) := by decide +kernel
theorem dX2_choiceAt_13 : decode cX2_choiceAt 13 = .ok (.iload_n 1, 1) := by decide +kernel
theorem dX2_choiceAt_14 : decode cX2_choiceAt 14 = .ok (.iload_n 2, 1) := by decide +kernel
theorem dX2_choiceAt_15 : decode cX2_choiceAt 15 = .ok (.aload_n 0, 1) := by decide +kernel
theorem dX2_choiceAt_16 : decode cX2_choiceAt 16 = .ok (.getfield 44, 3) := by decide +kernel
theorem dX2_choiceAt_19 : decode cX2_choiceAt 19 = .ok (.invokevirtual 212, 3) := by decide +kernel
theorem dX2_choiceAt_22 : decode cX2_choiceAt 22 = .ok (.aload_n 0, 1) := by decide +kernel
theorem dX2_choiceAt_23 : decode cX2_choiceAt 23 = .ok (.getfield 47, 3) := by decide +kernel
theorem dX2_choiceAt_26 : decode cX2_choiceAt 26 = .ok (.iload_n 1, 1) := by decide +kernel
theorem dX2_choiceAt_27 : decode cX2_choiceAt 27 = .ok (.iaload, 1) := by decide +kernel
theorem dX2_choiceAt_28 : decode cX2_choiceAt 28 = .ok (.if_icmp .eq 9, 3) := by decide +kernel
theorem dX2_choiceAt_31 : decode cX2_choiceAt 31 = .ok (.iinc 2 1, 3) := by decide +kernel
theorem dX2_choiceAt_34 : decode cX2_choiceAt 34 = .ok (.goto (-32), 3) := by decide +kernel
theorem dX2_choiceAt_37 : decode cX2_choiceAt 37 = .ok (.iload_n 2, 1) := by decide +kernel
theorem dX2_choiceAt_38 : decode cX2_choiceAt 38 = .ok (.ireturn, 1) := by decide +kernel
theorem dX3_init_0 : decode cX3_init 0 = .ok (.aload_n 0, 1) := by decide +kernel
theorem dX3_init_1 : decode cX3_init 1 = .ok (.invokespecial 1, 3) := by decide +kernel
theorem dX3_init_4 : decode cX3_init 4 = .ok (.aload_n 0, 1) := by decide +kernel
theorem dX3_init_5 : decode cX3_init 5 = .ok (.bipush 16, 2) := by decide +kernel
theorem dX3_init_7 : decode cX3_init 7 = .ok (.newarray .int, 2) := by decide +kernel
theorem dX3_init_9 : decode cX3_init 9 = .ok (.putfield 7, 3) := by decide +kernel
theorem dX3_init_12 : decode cX3_init 12 = .ok (.aload_n 0, 1) := by decide +kernel
theorem dX3_init_13 : decode cX3_init 13 = .ok (.bipush 64, 2) := by decide +kernel
theorem dX3_init_15 : decode cX3_init 15 = .ok (.newarray .int, 2) := by decide +kernel
theorem dX3_init_17 : decode cX3_init 17 = .ok (.putfield 13, 3) := by decide +kernel
theorem dX3_init_20 : decode cX3_init 20 = .ok (.return_, 1) := by decide +kernel
theorem dX3_clear_0 : decode cX3_clear 0 = .ok (.aload_n 0, 1) := by decide +kernel
theorem dX3_clear_1 : decode cX3_clear 1 = .ok (.getfield 13, 3) := by decide +kernel
theorem dX3_clear_4 : decode cX3_clear 4 = .ok (.iconst 0, 1) := by decide +kernel
theorem dX3_clear_5 : decode cX3_clear 5 = .ok (.invokestatic 16, 3) := by decide +kernel
theorem dX3_clear_8 : decode cX3_clear 8 = .ok (.aload_n 0, 1) := by decide +kernel
theorem dX3_clear_9 : decode cX3_clear 9 = .ok (.iconst 0, 1) := by decide +kernel
theorem dX3_clear_10 : decode cX3_clear 10 = .ok (.putfield 22, 3) := by decide +kernel
theorem dX3_clear_13 : decode cX3_clear 13 = .ok (.return_, 1) := by decide +kernel
theorem dX3_room_0 : decode cX3_room 0 = .ok (.aload_n 0, 1) := by decide +kernel
theorem dX3_room_1 : decode cX3_room 1 = .ok (.getfield 7, 3) := by decide +kernel
theorem dX3_room_4 : decode cX3_room 4 = .ok (.arraylength, 1) := by decide +kernel
theorem dX3_room_5 : decode cX3_room 5 = .ok (.ireturn, 1) := by decide +kernel
theorem dX3_keyAt_0 : decode cX3_keyAt 0 = .ok (.aload_n 0, 1) := by decide +kernel
theorem dX3_keyAt_1 : decode cX3_keyAt 1 = .ok (.getfield 7, 3) := by decide +kernel
theorem dX3_keyAt_4 : decode cX3_keyAt 4 = .ok (.iload_n 1, 1) := by decide +kernel
theorem dX3_keyAt_5 : decode cX3_keyAt 5 = .ok (.iaload, 1) := by decide +kernel
theorem dX3_keyAt_6 : decode cX3_keyAt 6 = .ok (.ireturn, 1) := by decide +kernel
theorem dX3_placeOf_0 : decode cX3_placeOf 0 = .ok (.aload_n 0, 1) := by decide +kernel
theorem dX3_placeOf_1 : decode cX3_placeOf 1 = .ok (.getfield 22, 3) := by decide +kernel
theorem dX3_placeOf_4 : decode cX3_placeOf 4 = .ok (.aload_n 0, 1) := by decide +kernel
theorem dX3_placeOf_5 : decode cX3_placeOf 5 = .ok (.getfield 7, 3) := by decide +kernel
theorem dX3_placeOf_8 : decode cX3_placeOf 8 = .ok (.arraylength, 1) := by decide +kernel
theorem dX3_placeOf_9 : decode cX3_placeOf 9 = .ok (.if_icmp .lt 7, 3) := by decide +kernel
theorem dX3_placeOf_12 : decode cX3_placeOf 12 = .ok (.aload_n 0, 1) := by decide +kernel
theorem dX3_placeOf_13 : decode cX3_placeOf 13 = .ok (.invokevirtual 26, 3) := by decide +kernel
theorem dX3_placeOf_16 : decode cX3_placeOf 16 = .ok (.aload_n 0, 1) := by decide +kernel
