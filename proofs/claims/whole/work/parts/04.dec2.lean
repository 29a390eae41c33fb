theorem dX3_placeOf_17 : decode cX3_placeOf 17 = .ok (.iload_n 1, 1) := by decide +kernel
theorem dX3_placeOf_18 : decode cX3_placeOf 18 = .ok (.invokevirtual 29, 3) := by decide +kernel
theorem dX3_placeOf_21 : decode cX3_placeOf 21 = .ok (.istore_n 2, 1) := by decide +kernel
theorem dX3_placeOf_22 : decode cX3_placeOf 22 = .ok (.aload_n 0, 1) := by decide +kernel
theorem dX3_placeOf_23 : decode cX3_placeOf 23 = .ok (.getfield 13, 3) := by decide +kernel
theorem dX3_placeOf_26 : decode cX3_placeOf 26 = .ok (.iload_n 2, 1) := by decide +kernel
theorem dX3_placeOf_27 : decode cX3_placeOf 27 = .ok (.iaload, 1) := by decide +kernel
theorem dX3_placeOf_28 : decode cX3_placeOf 28 = .ok (.ifCond .ne 30, 3) := by decide +kernel
theorem dX3_placeOf_31 : decode cX3_placeOf 31 = .ok (.aload_n 0, 1) := by decide +kernel
theorem dX3_placeOf_32 : decode cX3_placeOf 32 = .ok (.getfield 7, 3) := by decide +kernel
theorem dX3_placeOf_35 : decode cX3_placeOf 35 = .ok (.aload_n 0, 1) := by decide +kernel
theorem dX3_placeOf_36 : decode cX3_placeOf 36 = .ok (.dup, 1) := by decide +kernel
theorem dX3_placeOf_37 : decode cX3_placeOf 37 = .ok (.getfield 22, 3) := by decide +kernel
theorem dX3_placeOf_40 : decode cX3_placeOf 40 = .ok (.dup_x1, 1) := by decide +kernel
theorem dX3_placeOf_41 : decode cX3_placeOf 41 = .ok (.iconst 1, 1) := by decide +kernel
theorem dX3_placeOf_42 : decode cX3_placeOf 42 = .ok (.iadd, 1) := by decide +kernel
theorem dX3_placeOf_43 : decode cX3_placeOf 43 = .ok (.putfield 22, 3) := by decide +kernel
theorem dX3_placeOf_46 : decode cX3_placeOf 46 = .ok (.iload_n 1, 1) := by decide +kernel
theorem dX3_placeOf_47 : decode cX3_placeOf 47 = .ok (.iastore, 1) := by decide +kernel
theorem dX3_placeOf_48 : decode cX3_placeOf 48 = .ok (.aload_n 0, 1) := by decide +kernel
theorem dX3_placeOf_49 : decode cX3_placeOf 49 = .ok (.getfield 13, 3) := by decide +kernel
theorem dX3_placeOf_52 : decode cX3_placeOf 52 = .ok (.iload_n 2, 1) := by decide +kernel
theorem dX3_placeOf_53 : decode cX3_placeOf 53 = .ok (.aload_n 0, 1) := by decide +kernel
theorem dX3_placeOf_54 : decode cX3_placeOf 54 = .ok (.getfield 22, 3) := by decide +kernel
theorem dX3_placeOf_57 : decode cX3_placeOf 57 = .ok (.iastore, 1) := by decide +kernel
theorem dX3_placeOf_58 : decode cX3_placeOf 58 = .ok (.aload_n 0, 1) := by decide +kernel
theorem dX3_placeOf_59 : decode cX3_placeOf 59 = .ok (.getfield 13, 3) := by decide +kernel
theorem dX3_placeOf_62 : decode cX3_placeOf 62 = .ok (.iload_n 2, 1) := by decide +kernel
theorem dX3_placeOf_63 : decode cX3_placeOf 63 = .ok (.iaload, 1) := by decide +kernel
theorem dX3_placeOf_64 : decode cX3_placeOf 64 = .ok (.iconst 1, 1) := by decide +kernel
theorem dX3_placeOf_65 : decode cX3_placeOf 65 = .ok (.isub, 1) := by decide +kernel
theorem dX3_placeOf_66 : decode cX3_placeOf 66 = .ok (.ireturn, 1) := by decide +kernel
theorem dX3_slotOf_0 : decode cX3_slotOf 0 = .ok (.iload_n 1, 1) := by decide +kernel
theorem dX3_slotOf_1 : decode cX3_slotOf 1 = .ok (.ldc 33, 2) := by decide +kernel
theorem dX3_slotOf_3 : decode cX3_slotOf 3 = .ok (.imul, 1) := by decide +kernel
theorem dX3_slotOf_4 : decode cX3_slotOf 4 = .ok (.bipush 7, 2) := by decide +kernel
theorem dX3_slotOf_6 : decode cX3_slotOf 6 = .ok (.iushr, 1) := by decide +kernel
theorem dX3_slotOf_7 : decode cX3_slotOf 7 = .ok (.aload_n 0, 1) := by decide +kernel
theorem dX3_slotOf_8 : decode cX3_slotOf 8 = .ok (.getfield 13, 3) := by decide +kernel
theorem dX3_slotOf_11 : decode cX3_slotOf 11 = .ok (.arraylength, 1) := by decide +kernel
theorem dX3_slotOf_12 : decode cX3_slotOf 12 = .ok (.iconst 1, 1) := by decide +kernel
theorem dX3_slotOf_13 : decode cX3_slotOf 13 = .ok (.isub, 1) := by decide +kernel
theorem dX3_slotOf_14 : decode cX3_slotOf 14 = .ok (.iand, 1) := by decide +kernel
theorem dX3_slotOf_15 : decode cX3_slotOf 15 = .ok (.istore_n 2, 1) := by decide +kernel
theorem dX3_slotOf_16 : decode cX3_slotOf 16 = .ok (.iconst 0, 1) := by decide +kernel
theorem dX3_slotOf_17 : decode cX3_slotOf 17 = .ok (.istore_n 3, 1) := by decide +kernel
theorem dX3_slotOf_18 : decode cX3_slotOf 18 = .ok (.iload_n 3, 1) := by decide +kernel
theorem dX3_slotOf_19 : decode cX3_slotOf 19 = .ok (.aload_n 0, 1) := by decide +kernel
theorem dX3_slotOf_20 : decode cX3_slotOf 20 = .ok (.getfield 13, 3) := by decide +kernel
theorem dX3_slotOf_23 : decode cX3_slotOf 23 = .ok (.arraylength, 1) := by decide +kernel
theorem dX3_slotOf_24 : decode cX3_slotOf 24 = .ok (.if_icmp .ge 49, 3) := by decide +kernel
theorem dX3_slotOf_27 : decode cX3_slotOf 27 = .ok (.aload_n 0, 1) := by decide +kernel
theorem dX3_slotOf_28 : decode cX3_slotOf 28 = .ok (.getfield 13, 3) := by decide +kernel
theorem dX3_slotOf_31 : decode cX3_slotOf 31 = .ok (.iload_n 2, 1) := by decide +kernel
theorem dX3_slotOf_32 : decode cX3_slotOf 32 = .ok (.iaload, 1) := by decide +kernel
theorem dX3_slotOf_33 : decode cX3_slotOf 33 = .ok (.ifCond .eq 20, 3) := by decide +kernel
theorem dX3_slotOf_36 : decode cX3_slotOf 36 = .ok (.aload_n 0, 1) := by decide +kernel
theorem dX3_slotOf_37 : decode cX3_slotOf 37 = .ok (.getfield 7, 3) := by decide +kernel
theorem dX3_slotOf_40 : decode cX3_slotOf 40 = .ok (.aload_n 0, 1) := by decide +kernel
theorem dX3_slotOf_41 : decode cX3_slotOf 41 = .ok (.getfield 13, 3) := by decide +kernel
theorem dX3_slotOf_44 : decode cX3_slotOf 44 = .ok (.iload_n 2, 1) := by decide +kernel
theorem dX3_slotOf_45 : decode cX3_slotOf 45 = .ok (.iaload, 1) := by decide +kernel
theorem dX3_slotOf_46 : decode cX3_slotOf 46 = .ok (.iconst 1, 1) := by decide +kernel
theorem dX3_slotOf_47 : decode cX3_slotOf 47 = .ok (.isub, 1) := by decide +kernel
theorem dX3_slotOf_48 : decode cX3_slotOf 48 = .ok (.iaload, 1) := by decide +kernel
theorem dX3_slotOf_49 : decode cX3_slotOf 49 = .ok (.iload_n 1, 1) := by decide +kernel
theorem dX3_slotOf_50 : decode cX3_slotOf 50 = .ok (.if_icmp .ne 5, 3) := by decide +kernel
theorem dX3_slotOf_53 : decode cX3_slotOf 53 = .ok (.iload_n 2, 1) := by decide +kernel
theorem dX3_slotOf_54 : decode cX3_slotOf 54 = .ok (.ireturn, 1) := by decide +kernel
theorem dX3_slotOf_55 : decode cX3_slotOf 55 = .ok (.iload_n 2, 1) := by decide +kernel
theorem dX3_slotOf_56 : decode cX3_slotOf 56 = .ok (.iconst 1, 1) := by decide +kernel
theorem dX3_slotOf_57 : decode cX3_slotOf 57 = .ok (.iadd, 1) := by decide +kernel
theorem dX3_slotOf_58 : decode cX3_slotOf 58 = .ok (.aload_n 0, 1) := by decide +kernel
theorem dX3_slotOf_59 : decode cX3_slotOf 59 = .ok (.getfield 13, 3) := by decide +kernel
theorem dX3_slotOf_62 : decode cX3_slotOf 62 = .ok (.arraylength, 1) := by decide +kernel
theorem dX3_slotOf_63 : decode cX3_slotOf 63 = .ok (.iconst 1, 1) := by decide +kernel
theorem dX3_slotOf_64 : decode cX3_slotOf 64 = .ok (.isub, 1) := by decide +kernel
theorem dX3_slotOf_65 : decode cX3_slotOf 65 = .ok (.iand, 1) := by decide +kernel
theorem dX3_slotOf_66 : decode cX3_slotOf 66 = .ok (.istore_n 2, 1) := by decide +kernel
theorem dX3_slotOf_67 : decode cX3_slotOf 67 = .ok (.iinc 3 1, 3) := by decide +kernel
theorem dX3_slotOf_70 : decode cX3_slotOf 70 = .ok (.goto (-52), 3) := by decide +kernel
theorem dX3_slotOf_73 : decode cX3_slotOf 73 = .ok (.iload_n 2, 1) := by decide +kernel
theorem dX3_slotOf_74 : decode cX3_slotOf 74 = .ok (.ireturn, 1) := by decide +kernel
theorem dX3_grow_0 : decode cX3_grow 0 = .ok (.aload_n 0, 1) := by decide +kernel
theorem dX3_grow_1 : decode cX3_grow 1 = .ok (.aload_n 0, 1) := by decide +kernel
theorem dX3_grow_2 : decode cX3_grow 2 = .ok (.getfield 7, 3) := by decide +kernel
theorem dX3_grow_5 : decode cX3_grow 5 = .ok (.aload_n 0, 1) := by decide +kernel
theorem dX3_grow_6 : decode cX3_grow 6 = .ok (.getfield 7, 3) := by decide +kernel
theorem dX3_grow_9 : decode cX3_grow 9 = .ok (.arraylength, 1) := by decide +kernel
theorem dX3_grow_10 : decode cX3_grow 10 = .ok (.iconst 2, 1) := by decide +kernel
theorem dX3_grow_11 : decode cX3_grow 11 = .ok (.imul, 1) := by decide +kernel
theorem dX3_grow_12 : decode cX3_grow 12 = .ok (.invokestatic 34, 3) := by decide +kernel
theorem dX3_grow_15 : decode cX3_grow 15 = .ok (.putfield 7, 3) := by decide +kernel
theorem dX3_grow_18 : decode cX3_grow 18 = .ok (.aload_n 0, 1) := by decide +kernel
theorem dX3_grow_19 : decode cX3_grow 19 = .ok (.aload_n 0, 1) := by decide +kernel
theorem dX3_grow_20 : decode cX3_grow 20 = .ok (.getfield 7, 3) := by decide +kernel
theorem dX3_grow_23 : decode cX3_grow 23 = .ok (.arraylength, 1) := by decide +kernel
theorem dX3_grow_24 : decode cX3_grow 24 = .ok (.iconst 4, 1) := by decide +kernel
theorem dX3_grow_25 : decode cX3_grow 25 = .ok (.imul, 1) := by decide +kernel
theorem dX3_grow_26 : decode cX3_grow 26 = .ok (.newarray .int, 2) := by decide +kernel
theorem dX3_grow_28 : decode cX3_grow 28 = .ok (.putfield 13, 3) := by decide +kernel
theorem dX3_grow_31 : decode cX3_grow 31 = .ok (.iconst 0, 1) := by decide +kernel
theorem dX3_grow_32 : decode cX3_grow 32 = .ok (.istore_n 1, 1) := by decide +kernel
theorem dX3_grow_33 : decode cX3_grow 33 = .ok (.iload_n 1, 1) := by decide +kernel
theorem dX3_grow_34 : decode cX3_grow 34 = .ok (.aload_n 0, 1) := by decide +kernel
theorem dX3_grow_35 : decode cX3_grow 35 = .ok (.getfield 22, 3) := by decide +kernel
theorem dX3_grow_38 : decode cX3_grow 38 = .ok (.if_icmp .ge 27, 3) := by decide +kernel
theorem dX3_grow_41 : decode cX3_grow 41 = .ok (.aload_n 0, 1) := by decide +kernel
theorem dX3_grow_42 : decode cX3_grow 42 = .ok (.getfield 13, 3) := by decide +kernel
theorem dX3_grow_45 : decode cX3_grow 45 = .ok (.aload_n 0, 1) := by decide +kernel
theorem dX3_grow_46 : decode cX3_grow 46 = .ok (.aload_n 0, 1) := by decide +kernel
theorem dX3_grow_47 : decode cX3_grow 47 = .ok (.getfield 7, 3) := by decide +kernel
theorem dX3_grow_50 : decode cX3_grow 50 = .ok (.iload_n 1, 1) := by decide +kernel
theorem dX3_grow_51 : decode cX3_grow 51 = .ok (.iaload, 1) := by decide +kernel
theorem dX3_grow_52 : decode cX3_grow 52 = .ok (.invokevirtual 29, 3) := by decide +kernel
theorem dX3_grow_55 : decode cX3_grow 55 = .ok (.iload_n 1, 1) := by decide +kernel
theorem dX3_grow_56 : decode cX3_grow 56 = .ok (.iconst 1, 1) := by decide +kernel
theorem dX3_grow_57 : decode cX3_grow 57 = .ok (.iadd, 1) := by decide +kernel
theorem dX3_grow_58 : decode cX3_grow 58 = .ok (.iastore, 1) := by decide +kernel
theorem dX3_grow_59 : decode cX3_grow 59 = .ok (.iinc 1 1, 3) := by decide +kernel
theorem dX3_grow_62 : decode cX3_grow 62 = .ok (.goto (-29), 3) := by decide +kernel
theorem dX3_grow_65 : decode cX3_grow 65 = .ok (.return_, 1) := by decide +kernel
theorem dX4_init_0 : decode cX4_init 0 = .ok (.aload_n 0, 1) := by decide +kernel
theorem dX4_init_1 : decode cX4_init 1 = .ok (.invokespecial 3, 3) := by decide +kernel
theorem dX4_init_4 : decode cX4_init 4 = .ok (.aload_n 0, 1) := by decide +kernel
theorem dX4_init_5 : decode cX4_init 5 = .ok (.bipush 40, 2) := by decide +kernel
theorem dX4_init_7 : decode cX4_init 7 = .ok (.newarray .int, 2) := by decide +kernel
theorem dX4_init_9 : decode cX4_init 9 = .ok (.putfield 9, 3) := by decide +kernel
theorem dX4_init_12 : decode cX4_init 12 = .ok (.aload_n 0, 1) := by decide +kernel
theorem dX4_init_13 : decode cX4_init 13 = .ok (.aload_n 1, 1) := by decide +kernel
theorem dX4_init_14 : decode cX4_init 14 = .ok (.putfield 15, 3) := by decide +kernel
theorem dX4_init_17 : decode cX4_init 17 = .ok (.return_, 1) := by decide +kernel
theorem dX4_styleOf_0 : decode cX4_styleOf 0 = .ok (.iconst 0, 1) := by decide +kernel
theorem dX4_styleOf_1 : decode cX4_styleOf 1 = .ok (.istore_n 3, 1) := by decide +kernel
theorem dX4_styleOf_2 : decode cX4_styleOf 2 = .ok (.iconst 0, 1) := by decide +kernel
theorem dX4_styleOf_3 : decode cX4_styleOf 3 = .ok (.istore 4, 2) := by decide +kernel
theorem dX4_styleOf_5 : decode cX4_styleOf 5 = .ok (.iload 4, 2) := by decide +kernel
theorem dX4_styleOf_7 : decode cX4_styleOf 7 = .ok (.bipush 12, 2) := by decide +kernel
theorem dX4_styleOf_9 : decode cX4_styleOf 9 = .ok (.if_icmp .ge 77, 3) := by decide +kernel
theorem dX4_styleOf_12 : decode cX4_styleOf 12 = .ok (.iload_n 3, 1) := by decide +kernel
theorem dX4_styleOf_13 : decode cX4_styleOf 13 = .ok (.iconst 1, 1) := by decide +kernel
theorem dX4_styleOf_14 : decode cX4_styleOf 14 = .ok (.iadd, 1) := by decide +kernel
theorem dX4_styleOf_15 : decode cX4_styleOf 15 = .ok (.aload_n 0, 1) := by decide +kernel
theorem dX4_styleOf_16 : decode cX4_styleOf 16 = .ok (.getfield 15, 3) := by decide +kernel
theorem dX4_styleOf_19 : decode cX4_styleOf 19 = .ok (.arraylength, 1) := by decide +kernel
theorem dX4_styleOf_20 : decode cX4_styleOf 20 = .ok (.if_icmp .ge 66, 3) := by decide +kernel
theorem dX4_styleOf_23 : decode cX4_styleOf 23 = .ok (.iload_n 3, 1) := by decide +kernel
theorem dX4_styleOf_24 : decode cX4_styleOf 24 = .ok (.iconst 2, 1) := by decide +kernel
theorem dX4_styleOf_25 : decode cX4_styleOf 25 = .ok (.iadd, 1) := by decide +kernel
theorem dX4_styleOf_26 : decode cX4_styleOf 26 = .ok (.aload_n 0, 1) := by decide +kernel
theorem dX4_styleOf_27 : decode cX4_styleOf 27 = .ok (.getfield 15, 3) := by decide +kernel
theorem dX4_styleOf_30 : decode cX4_styleOf 30 = .ok (.iload_n 3, 1) := by decide +kernel
theorem dX4_styleOf_31 : decode cX4_styleOf 31 = .ok (.iconst 1, 1) := by decide +kernel
theorem dX4_styleOf_32 : decode cX4_styleOf 32 = .ok (.iadd, 1) := by decide +kernel
theorem dX4_styleOf_33 : decode cX4_styleOf 33 = .ok (.iaload, 1) := by decide +kernel
theorem dX4_styleOf_34 : decode cX4_styleOf 34 = .ok (.iadd, 1) := by decide +kernel
theorem dX4_styleOf_35 : decode cX4_styleOf 35 = .ok (.istore 5, 2) := by decide +kernel
theorem dX4_styleOf_37 : decode cX4_styleOf 37 = .ok (.aload_n 0, 1) := by decide +kernel
theorem dX4_styleOf_38 : decode cX4_styleOf 38 = .ok (.getfield 15, 3) := by decide +kernel
theorem dX4_styleOf_41 : decode cX4_styleOf 41 = .ok (.iload_n 3, 1) := by decide +kernel
theorem dX4_styleOf_42 : decode cX4_styleOf 42 = .ok (.iconst 1, 1) := by decide +kernel
theorem dX4_styleOf_43 : decode cX4_styleOf 43 = .ok (.iadd, 1) := by decide +kernel
theorem dX4_styleOf_44 : decode cX4_styleOf 44 = .ok (.iaload, 1) := by decide +kernel
theorem dX4_styleOf_45 : decode cX4_styleOf 45 = .ok (.ifCond .eq 25, 3) := by decide +kernel
theorem dX4_styleOf_48 : decode cX4_styleOf 48 = .ok (.aload_n 0, 1) := by decide +kernel
theorem dX4_styleOf_49 : decode cX4_styleOf 49 = .ok (.iload_n 3, 1) := by decide +kernel
theorem dX4_styleOf_50 : decode cX4_styleOf 50 = .ok (.iconst 2, 1) := by decide +kernel
theorem dX4_styleOf_51 : decode cX4_styleOf 51 = .ok (.iadd, 1) := by decide +kernel
theorem dX4_styleOf_52 : decode cX4_styleOf 52 = .ok (.iload 5, 2) := by decide +kernel
theorem dX4_styleOf_54 : decode cX4_styleOf 54 = .ok (.aload_n 0, 1) := by decide +kernel
theorem dX4_styleOf_55 : decode cX4_styleOf 55 = .ok (.getfield 15, 3) := by decide +kernel
theorem dX4_styleOf_58 : decode cX4_styleOf 58 = .ok (.arraylength, 1) := by decide +kernel
theorem dX4_styleOf_59 : decode cX4_styleOf 59 = .ok (.invokestatic 18, 3) := by decide +kernel
theorem dX4_styleOf_62 : decode cX4_styleOf 62 = .ok (.iload_n 1, 1) := by decide +kernel
theorem dX4_styleOf_63 : decode cX4_styleOf 63 = .ok (.aload_n 2, 1) := by decide +kernel
theorem dX4_styleOf_64 : decode cX4_styleOf 64 = .ok (.invokevirtual 24, 3) := by decide +kernel
theorem dX4_styleOf_67 : decode cX4_styleOf 67 = .ok (.ifCond .eq 10, 3) := by decide +kernel
theorem dX4_styleOf_70 : decode cX4_styleOf 70 = .ok (.aload_n 0, 1) := by decide +kernel
theorem dX4_styleOf_71 : decode cX4_styleOf 71 = .ok (.getfield 15, 3) := by decide +kernel
theorem dX4_styleOf_74 : decode cX4_styleOf 74 = .ok (.iload_n 3, 1) := by decide +kernel
theorem dX4_styleOf_75 : decode cX4_styleOf 75 = .ok (.iaload, 1) := by decide +kernel
theorem dX4_styleOf_76 : decode cX4_styleOf 76 = .ok (.ireturn, 1) := by decide +kernel
theorem dX4_styleOf_77 : decode cX4_styleOf 77 = .ok (.iload 5, 2) := by decide +kernel
theorem dX4_styleOf_79 : decode cX4_styleOf 79 = .ok (.istore_n 3, 1) := by decide +kernel
theorem dX4_styleOf_80 : decode cX4_styleOf 80 = .ok (.iinc 4 1, 3) := by decide +kernel
theorem dX4_styleOf_83 : decode cX4_styleOf 83 = .ok (.goto (-78), 3) := by decide +kernel
theorem dX4_styleOf_86 : decode cX4_styleOf 86 = .ok (.iconst 0, 1) := by decide +kernel
theorem dX4_styleOf_87 : decode cX4_styleOf 87 = .ok (.ireturn, 1) := by decide +kernel
theorem dX4_holds_0 : decode cX4_holds 0 = .ok (.iconst 0, 1) := by decide +kernel
theorem dX4_holds_1 : decode cX4_holds 1 = .ok (.istore 5, 2) := by decide +kernel
theorem dX4_holds_3 : decode cX4_holds 3 = .ok (.iload_n 1, 1) := by decide +kernel
theorem dX4_holds_4 : decode cX4_holds 4 = .ok (.istore 6, 2) := by decide +kernel
theorem dX4_holds_6 : decode cX4_holds 6 = .ok (.iload 6, 2) := by decide +kernel
theorem dX4_holds_8 : decode cX4_holds 8 = .ok (.iload_n 2, 1) := by decide +kernel
theorem dX4_holds_9 : decode cX4_holds 9 = .ok (.if_icmp .ge 132, 3) := by decide +kernel
theorem dX4_holds_12 : decode cX4_holds 12 = .ok (.aload_n 0, 1) := by decide +kernel
theorem dX4_holds_13 : decode cX4_holds 13 = .ok (.getfield 15, 3) := by decide +kernel
theorem dX4_holds_16 : decode cX4_holds 16 = .ok (.iload 6, 2) := by decide +kernel
theorem dX4_holds_18 : decode cX4_holds 18 = .ok (.iaload, 1) := by decide +kernel
theorem dX4_holds_19 : decode cX4_holds 19 = .ok (.istore 7, 2) := by decide +kernel
theorem dX4_holds_21 : decode cX4_holds 21 = .ok (.iload 7, 2) := by decide +kernel
theorem dX4_holds_23 : decode cX4_holds 23 = .ok (.bipush 13, 2) := by decide +kernel
theorem dX4_holds_25 : decode cX4_holds 25 = .ok (.if_icmp .ne 32, 3) := by decide +kernel
theorem dX4_holds_28 : decode cX4_holds 28 = .ok (.iload 5, 2) := by decide +kernel
theorem dX4_holds_30 : decode cX4_holds 30 = .ok (.iconst 1, 1) := by decide +kernel
theorem dX4_holds_31 : decode cX4_holds 31 = .ok (.if_icmp .lt 26, 3) := by decide +kernel
theorem dX4_holds_34 : decode cX4_holds 34 = .ok (.aload_n 0, 1) := by decide +kernel
theorem dX4_holds_35 : decode cX4_holds 35 = .ok (.getfield 9, 3) := by decide +kernel
theorem dX4_holds_38 : decode cX4_holds 38 = .ok (.iload 5, 2) := by decide +kernel
theorem dX4_holds_40 : decode cX4_holds 40 = .ok (.iconst 1, 1) := by decide +kernel
theorem dX4_holds_41 : decode cX4_holds 41 = .ok (.isub, 1) := by decide +kernel
theorem dX4_holds_42 : decode cX4_holds 42 = .ok (.iconst 1, 1) := by decide +kernel
theorem dX4_holds_43 : decode cX4_holds 43 = .ok (.aload_n 0, 1) := by decide +kernel
theorem dX4_holds_44 : decode cX4_holds 44 = .ok (.getfield 9, 3) := by decide +kernel
theorem dX4_holds_47 : decode cX4_holds 47 = .ok (.iload 5, 2) := by decide +kernel
theorem dX4_holds_49 : decode cX4_holds 49 = .ok (.iconst 1, 1) := by decide +kernel
theorem dX4_holds_50 : decode cX4_holds 50 = .ok (.isub, 1) := by decide +kernel
theorem dX4_holds_51 : decode cX4_holds 51 = .ok (.iaload, 1) := by decide +kernel
theorem dX4_holds_52 : decode cX4_holds 52 = .ok (.isub, 1) := by decide +kernel
theorem dX4_holds_53 : decode cX4_holds 53 = .ok (.iastore, 1) := by decide +kernel
theorem dX4_holds_54 : decode cX4_holds 54 = .ok (.goto 81, 3) := by decide +kernel
theorem dX4_holds_57 : decode cX4_holds 57 = .ok (.iload 7, 2) := by decide +kernel
theorem dX4_holds_59 : decode cX4_holds 59 = .ok (.invokestatic 30, 3) := by decide +kernel
theorem dX4_holds_62 : decode cX4_holds 62 = .ok (.ifCond .eq 45, 3) := by decide +kernel
theorem dX4_holds_65 : decode cX4_holds 65 = .ok (.iload 5, 2) := by decide +kernel
theorem dX4_holds_67 : decode cX4_holds 67 = .ok (.iconst 2, 1) := by decide +kernel
theorem dX4_holds_68 : decode cX4_holds 68 = .ok (.if_icmp .lt 39, 3) := by decide +kernel
theorem dX4_holds_71 : decode cX4_holds 71 = .ok (.iinc 5 (-1), 3) := by decide +kernel
theorem dX4_holds_74 : decode cX4_holds 74 = .ok (.aload_n 0, 1) := by decide +kernel
theorem dX4_holds_75 : decode cX4_holds 75 = .ok (.getfield 9, 3) := by decide +kernel
theorem dX4_holds_78 : decode cX4_holds 78 = .ok (.iload 5, 2) := by decide +kernel
theorem dX4_holds_80 : decode cX4_holds 80 = .ok (.iconst 1, 1) := by decide +kernel
theorem dX4_holds_81 : decode cX4_holds 81 = .ok (.isub, 1) := by decide +kernel
theorem dX4_holds_82 : decode cX4_holds 82 = .ok (.iload 7, 2) := by decide +kernel
theorem dX4_holds_84 : decode cX4_holds 84 = .ok (.aload_n 0, 1) := by decide +kernel
theorem dX4_holds_85 : decode cX4_holds 85 = .ok (.getfield 9, 3) := by decide +kernel
theorem dX4_holds_88 : decode cX4_holds 88 = .ok (.iload 5, 2) := by decide +kernel
theorem dX4_holds_90 : decode cX4_holds 90 = .ok (.iconst 1, 1) := by decide +kernel
theorem dX4_holds_91 : decode cX4_holds 91 = .ok (.isub, 1) := by decide +kernel
theorem dX4_holds_92 : decode cX4_holds 92 = .ok (.iaload, 1) := by decide +kernel
theorem dX4_holds_93 : decode cX4_holds 93 = .ok (.aload_n 0, 1) := by decide +kernel
theorem dX4_holds_94 : decode cX4_holds 94 = .ok (.getfield 9, 3) := by decide +kernel
theorem dX4_holds_97 : decode cX4_holds 97 = .ok (.iload 5, 2) := by decide +kernel
theorem dX4_holds_99 : decode cX4_holds 99 = .ok (.iaload, 1) := by decide +kernel
theorem dX4_holds_100 : decode cX4_holds 100 = .ok (.invokestatic 34, 3) := by decide +kernel
theorem dX4_holds_103 : decode cX4_holds 103 = .ok (.iastore, 1) := by decide +kernel
theorem dX4_holds_104 : decode cX4_holds 104 = .ok (.goto 31, 3) := by decide +kernel
theorem dX4_holds_107 : decode cX4_holds 107 = .ok (.iload 5, 2) := by decide +kernel
theorem dX4_holds_109 : decode cX4_holds 109 = .ok (.aload_n 0, 1) := by decide +kernel
theorem dX4_holds_110 : decode cX4_holds 110 = .ok (.getfield 9, 3) := by decide +kernel
theorem dX4_holds_113 : decode cX4_holds 113 = .ok (.arraylength, 1) := by decide +kernel
theorem dX4_holds_114 : decode cX4_holds 114 = .ok (.if_icmp .ge 21, 3) := by decide +kernel
theorem dX4_holds_117 : decode cX4_holds 117 = .ok (.aload_n 0, 1) := by decide +kernel
theorem dX4_holds_118 : decode cX4_holds 118 = .ok (.getfield 9, 3) := by decide +kernel
theorem dX4_holds_121 : decode cX4_holds 121 = .ok (.iload 5, 2) := by decide +kernel
theorem dX4_holds_123 : decode cX4_holds 123 = .ok (.iinc 5 1, 3) := by decide +kernel
theorem dX4_holds_126 : decode cX4_holds 126 = .ok (.iload 7, 2) := by decide +kernel
theorem dX4_holds_128 : decode cX4_holds 128 = .ok (.iload_n 3, 1) := by decide +kernel
theorem dX4_holds_129 : decode cX4_holds 129 = .ok (.aload 4, 2) := by decide +kernel
theorem dX4_holds_131 : decode cX4_holds 131 = .ok (.invokestatic 38, 3) := by decide +kernel
theorem dX4_holds_134 : decode cX4_holds 134 = .ok (.iastore, 1) := by decide +kernel
theorem dX4_holds_135 : decode cX4_holds 135 = .ok (.iinc 6 1, 3) := by decide +kernel
theorem dX4_holds_138 : decode cX4_holds 138 = .ok (.goto (-132), 3) := by decide +kernel
theorem dX4_holds_141 : decode cX4_holds 141 = .ok (.iload 5, 2) := by decide +kernel
theorem dX4_holds_143 : decode cX4_holds 143 = .ok (.ifCond .le 20, 3) := by decide +kernel
theorem dX4_holds_146 : decode cX4_holds 146 = .ok (.aload_n 0, 1) := by decide +kernel
theorem dX4_holds_147 : decode cX4_holds 147 = .ok (.getfield 9, 3) := by decide +kernel
theorem dX4_holds_150 : decode cX4_holds 150 = .ok (.iload 5, 2) := by decide +kernel
theorem dX4_holds_152 : decode cX4_holds 152 = .ok (.iconst 1, 1) := by decide +kernel
theorem dX4_holds_153 : decode cX4_holds 153 = .ok (.isub, 1) := by decide +kernel
theorem dX4_holds_154 : decode cX4_holds 154 = .ok (.iaload, 1) := by decide +kernel
theorem dX4_holds_155 : decode cX4_holds 155 = .ok (.iconst 1, 1) := by decide +kernel
theorem dX4_holds_156 : decode cX4_holds 156 = .ok (.if_icmp .ne 7, 3) := by decide +kernel
theorem dX4_holds_159 : decode cX4_holds 159 = .ok (.iconst 1, 1) := by decide +kernel
theorem dX4_holds_160 : decode cX4_holds 160 = .ok (.goto 4, 3) := by decide +kernel
theorem dX4_holds_163 : decode cX4_holds 163 = .ok (.iconst 0, 1) := by decide +kernel
theorem dX4_holds_164 : decode cX4_holds 164 = .ok (.ireturn, 1) := by decide +kernel
theorem dX4_joins_0 : decode cX4_joins 0 = .ok (.iload_n 0, 1) := by decide +kernel
theorem dX4_joins_1 : decode cX4_joins 1 = .ok (.bipush 12, 2) := by decide +kernel
theorem dX4_joins_3 : decode cX4_joins 3 = .ok (.if_icmp .eq 30, 3) := by decide +kernel
theorem dX4_joins_6 : decode cX4_joins 6 = .ok (.iload_n 0, 1) := by decide +kernel
theorem dX4_joins_7 : decode cX4_joins 7 = .ok (.bipush 11, 2) := by decide +kernel
theorem dX4_joins_9 : decode cX4_joins 9 = .ok (.if_icmp .eq 24, 3) := by decide +kernel
theorem dX4_joins_12 : decode cX4_joins 12 = .ok (.iload_n 0, 1) := by decide +kernel
theorem dX4_joins_13 : decode cX4_joins 13 = .ok (.sipush 143, 3) := by decide +kernel
theorem dX4_joins_16 : decode cX4_joins 16 = .ok (.if_icmp .eq 17, 3) := by decide +kernel
theorem dX4_joins_19 : decode cX4_joins 19 = .ok (.iload_n 0, 1) := by decide +kernel
theorem dX4_joins_20 : decode cX4_joins 20 = .ok (.sipush 160, 3) := by decide +kernel
theorem dX4_joins_23 : decode cX4_joins 23 = .ok (.if_icmp .eq 10, 3) := by decide +kernel
theorem dX4_joins_26 : decode cX4_joins 26 = .ok (.iload_n 0, 1) := by decide +kernel
theorem dX4_joins_27 : decode cX4_joins 27 = .ok (.sipush 162, 3) := by decide +kernel
theorem dX4_joins_30 : decode cX4_joins 30 = .ok (.if_icmp .ne 7, 3) := by decide +kernel
theorem dX4_joins_33 : decode cX4_joins 33 = .ok (.iconst 1, 1) := by decide +kernel
theorem dX4_joins_34 : decode cX4_joins 34 = .ok (.goto 4, 3) := by decide +kernel
theorem dX4_joins_37 : decode cX4_joins 37 = .ok (.iconst 0, 1) := by decide +kernel
theorem dX4_joins_38 : decode cX4_joins 38 = .ok (.ireturn, 1) := by decide +kernel
theorem dX4_joined_0 : decode cX4_joined 0 = .ok (.iload_n 0, 1) := by decide +kernel
theorem dX4_joined_1 : decode cX4_joined 1 = .ok (.lookupswitch 73 #[(11, 47), (12, 43), (160, 51), (162, 62)], 43) := by decide +kernel
theorem dX4_joined_44 : decode cX4_joined 44 = .ok (.iload_n 1, 1) := by decide +kernel
theorem dX4_joined_45 : decode cX4_joined 45 = .ok (.iload_n 2, 1) := by decide +kernel
theorem dX4_joined_46 : decode cX4_joined 46 = .ok (.iand, 1) := by decide +kernel
theorem dX4_joined_47 : decode cX4_joined 47 = .ok (.ireturn, 1) := by decide +kernel
theorem dX4_joined_48 : decode cX4_joined 48 = .ok (.iload_n 1, 1) := by decide +kernel
theorem dX4_joined_49 : decode cX4_joined 49 = .ok (.iload_n 2, 1) := by decide +kernel
theorem dX4_joined_50 : decode cX4_joined 50 = .ok (.ior, 1) := by decide +kernel
theorem dX4_joined_51 : decode cX4_joined 51 = .ok (.ireturn, 1) := by decide +kernel
theorem dX4_joined_52 : decode cX4_joined 52 = .ok (.iload_n 1, 1) := by decide +kernel
theorem dX4_joined_53 : decode cX4_joined 53 = .ok (.iload_n 2, 1) := by decide +kernel
theorem dX4_joined_54 : decode cX4_joined 54 = .ok (.if_icmp .ge 7, 3) := by decide +kernel
theorem dX4_joined_57 : decode cX4_joined 57 = .ok (.iconst 1, 1) := by decide +kernel
theorem dX4_joined_58 : decode cX4_joined 58 = .ok (.goto 4, 3) := by decide +kernel
theorem dX4_joined_61 : decode cX4_joined 61 = .ok (.iconst 0, 1) := by decide +kernel
theorem dX4_joined_62 : decode cX4_joined 62 = .ok (.ireturn, 1) := by decide +kernel
theorem dX4_joined_63 : decode cX4_joined 63 = .ok (.iload_n 1, 1) := by decide +kernel
theorem dX4_joined_64 : decode cX4_joined 64 = .ok (.iload_n 2, 1) := by decide +kernel
theorem dX4_joined_65 : decode cX4_joined 65 = .ok (.if_icmp .le 7, 3) := by decide +kernel
theorem dX4_joined_68 : decode cX4_joined 68 = .ok (.iconst 1, 1) := by decide +kernel
theorem dX4_joined_69 : decode cX4_joined 69 = .ok (.goto 4, 3) := by decide +kernel
theorem dX4_joined_72 : decode cX4_joined 72 = .ok (.iconst 0, 1) := by decide +kernel
theorem dX4_joined_73 : decode cX4_joined 73 = .ok (.ireturn, 1) := by decide +kernel
theorem dX4_joined_74 : decode cX4_joined 74 = .ok (.iload_n 1, 1) := by decide +kernel
theorem dX4_joined_75 : decode cX4_joined 75 = .ok (.iload_n 2, 1) := by decide +kernel
theorem dX4_joined_76 : decode cX4_joined 76 = .ok (.iadd, 1) := by decide +kernel
theorem dX4_joined_77 : decode cX4_joined 77 = .ok (.ireturn, 1) := by decide +kernel
theorem dX4_fact_0 : decode cX4_fact 0 = .ok (.iload_n 0, 1) := by decide +kernel
theorem dX4_fact_1 : decode cX4_fact 1 = .ok (.tableswitch 194 6 19 #[178, 194, 194, 194, 194, 194, 194, 194, 71, 85, 98, 116, 134, 173], 71) := by decide +kernel
theorem dX4_fact_72 : decode cX4_fact 72 = .ok (.aload_n 2, 1) := by decide +kernel
theorem dX4_fact_73 : decode cX4_fact 73 = .ok (.getfield 42, 3) := by decide +kernel
theorem dX4_fact_76 : decode cX4_fact 76 = .ok (.iload_n 1, 1) := by decide +kernel
theorem dX4_fact_77 : decode cX4_fact 77 = .ok (.if_icmp .ne 7, 3) := by decide +kernel
theorem dX4_fact_80 : decode cX4_fact 80 = .ok (.iconst 1, 1) := by decide +kernel
theorem dX4_fact_81 : decode cX4_fact 81 = .ok (.goto 4, 3) := by decide +kernel
theorem dX4_fact_84 : decode cX4_fact 84 = .ok (.iconst 0, 1) := by decide +kernel
theorem dX4_fact_85 : decode cX4_fact 85 = .ok (.ireturn, 1) := by decide +kernel
theorem dX4_fact_86 : decode cX4_fact 86 = .ok (.aload_n 2, 1) := by decide +kernel
theorem dX4_fact_87 : decode cX4_fact 87 = .ok (.getfield 48, 3) := by decide +kernel
theorem dX4_fact_90 : decode cX4_fact 90 = .ok (.ifCond .eq 7, 3) := by decide +kernel
theorem dX4_fact_93 : decode cX4_fact 93 = .ok (.iconst 1, 1) := by decide +kernel
theorem dX4_fact_94 : decode cX4_fact 94 = .ok (.goto 4, 3) := by decide +kernel
theorem dX4_fact_97 : decode cX4_fact 97 = .ok (.iconst 0, 1) := by decide +kernel
theorem dX4_fact_98 : decode cX4_fact 98 = .ok (.ireturn, 1) := by decide +kernel
theorem dX4_fact_99 : decode cX4_fact 99 = .ok (.iconst 3, 1) := by decide +kernel
theorem dX4_fact_100 : decode cX4_fact 100 = .ok (.iload_n 1, 1) := by decide +kernel
theorem dX4_fact_101 : decode cX4_fact 101 = .ok (.ifCond .ne 10, 3) := by decide +kernel
theorem dX4_fact_104 : decode cX4_fact 104 = .ok (.aload_n 2, 1) := by decide +kernel
theorem dX4_fact_105 : decode cX4_fact 105 = .ok (.getfield 52, 3) := by decide +kernel
theorem dX4_fact_108 : decode cX4_fact 108 = .ok (.goto 7, 3) := by decide +kernel
theorem dX4_fact_111 : decode cX4_fact 111 = .ok (.aload_n 2, 1) := by decide +kernel
theorem dX4_fact_112 : decode cX4_fact 112 = .ok (.getfield 55, 3) := by decide +kernel
theorem dX4_fact_115 : decode cX4_fact 115 = .ok (.iadd, 1) := by decide +kernel
theorem dX4_fact_116 : decode cX4_fact 116 = .ok (.ireturn, 1) := by decide +kernel
theorem dX4_fact_117 : decode cX4_fact 117 = .ok (.iconst 3, 1) := by decide +kernel
theorem dX4_fact_118 : decode cX4_fact 118 = .ok (.iload_n 1, 1) := by decide +kernel
theorem dX4_fact_119 : decode cX4_fact 119 = .ok (.ifCond .ne 10, 3) := by decide +kernel
theorem dX4_fact_122 : decode cX4_fact 122 = .ok (.aload_n 2, 1) := by decide +kernel
theorem dX4_fact_123 : decode cX4_fact 123 = .ok (.getfield 55, 3) := by decide +kernel
theorem dX4_fact_126 : decode cX4_fact 126 = .ok (.goto 7, 3) := by decide +kernel
theorem dX4_fact_129 : decode cX4_fact 129 = .ok (.aload_n 2, 1) := by decide +kernel
theorem dX4_fact_130 : decode cX4_fact 130 = .ok (.getfield 52, 3) := by decide +kernel
theorem dX4_fact_133 : decode cX4_fact 133 = .ok (.iadd, 1) := by decide +kernel
theorem dX4_fact_134 : decode cX4_fact 134 = .ok (.ireturn, 1) := by decide +kernel
theorem dX4_fact_135 : decode cX4_fact 135 = .ok (.aload_n 2, 1) := by decide +kernel
theorem dX4_fact_136 : decode cX4_fact 136 = .ok (.getfield 58, 3) := by decide +kernel
theorem dX4_fact_139 : decode cX4_fact 139 = .ok (.ifCond .ne 8, 3) := by decide +kernel
theorem dX4_fact_142 : decode cX4_fact 142 = .ok (.bipush 10, 2) := by decide +kernel
theorem dX4_fact_144 : decode cX4_fact 144 = .ok (.goto 29, 3) := by decide +kernel
theorem dX4_fact_147 : decode cX4_fact 147 = .ok (.aload_n 2, 1) := by decide +kernel
theorem dX4_fact_148 : decode cX4_fact 148 = .ok (.getfield 48, 3) := by decide +kernel
theorem dX4_fact_151 : decode cX4_fact 151 = .ok (.ifCond .ne 11, 3) := by decide +kernel
theorem dX4_fact_154 : decode cX4_fact 154 = .ok (.aload_n 2, 1) := by decide +kernel
theorem dX4_fact_155 : decode cX4_fact 155 = .ok (.getfield 58, 3) := by decide +kernel
theorem dX4_fact_158 : decode cX4_fact 158 = .ok (.iconst 1, 1) := by decide +kernel
theorem dX4_fact_159 : decode cX4_fact 159 = .ok (.if_icmp .ne 10, 3) := by decide +kernel
theorem dX4_fact_162 : decode cX4_fact 162 = .ok (.aload_n 2, 1) := by decide +kernel
theorem dX4_fact_163 : decode cX4_fact 163 = .ok (.getfield 61, 3) := by decide +kernel
theorem dX4_fact_166 : decode cX4_fact 166 = .ok (.goto 7, 3) := by decide +kernel
theorem dX4_fact_169 : decode cX4_fact 169 = .ok (.aload_n 2, 1) := by decide +kernel
theorem dX4_fact_170 : decode cX4_fact 170 = .ok (.getfield 64, 3) := by decide +kernel
theorem dX4_fact_173 : decode cX4_fact 173 = .ok (.ireturn, 1) := by decide +kernel
theorem dX4_fact_174 : decode cX4_fact 174 = .ok (.aload_n 2, 1) := by decide +kernel
theorem dX4_fact_175 : decode cX4_fact 175 = .ok (.getfield 58, 3) := by decide +kernel
theorem dX4_fact_178 : decode cX4_fact 178 = .ok (.ireturn, 1) := by decide +kernel
theorem dX4_fact_179 : decode cX4_fact 179 = .ok (.iload_n 1, 1) := by decide +kernel
theorem dX4_fact_180 : decode cX4_fact 180 = .ok (.ifCond .ne 10, 3) := by decide +kernel
theorem dX4_fact_183 : decode cX4_fact 183 = .ok (.aload_n 2, 1) := by decide +kernel
theorem dX4_fact_184 : decode cX4_fact 184 = .ok (.getfield 67, 3) := by decide +kernel
theorem dX4_fact_187 : decode cX4_fact 187 = .ok (.goto 7, 3) := by decide +kernel
theorem dX4_fact_190 : decode cX4_fact 190 = .ok (.aload_n 2, 1) := by decide +kernel
theorem dX4_fact_191 : decode cX4_fact 191 = .ok (.getfield 70, 3) := by decide +kernel
theorem dX4_fact_194 : decode cX4_fact 194 = .ok (.ireturn, 1) := by decide +kernel
theorem dX4_fact_195 : decode cX4_fact 195 = .ok (.iload_n 0, 1) := by decide +kernel
theorem dX4_fact_196 : decode cX4_fact 196 = .ok (.sipush 1000, 3) := by decide +kernel
theorem dX4_fact_199 : decode cX4_fact 199 = .ok (.isub, 1) := by decide +kernel
theorem dX4_fact_200 : decode cX4_fact 200 = .ok (.ireturn, 1) := by decide +kernel
theorem dX5_init_0 : decode cX5_init 0 = .ok (.aload_n 0, 1) := by decide +kernel
theorem dX5_init_1 : decode cX5_init 1 = .ok (.invokespecial 3, 3) := by decide +kernel
theorem dX5_init_4 : decode cX5_init 4 = .ok (.aload_n 0, 1) := by decide +kernel
theorem dX5_init_5 : decode cX5_init 5 = .ok (.sipush 400, 3) := by decide +kernel
theorem dX5_init_8 : decode cX5_init 8 = .ok (.newarray .int, 2) := by decide +kernel
theorem dX5_init_10 : decode cX5_init 10 = .ok (.putfield 9, 3) := by decide +kernel
theorem dX5_init_13 : decode cX5_init 13 = .ok (.return_, 1) := by decide +kernel
theorem dX5_read_0 : decode cX5_read 0 = .ok (.aload_n 0, 1) := by decide +kernel
theorem dX5_read_1 : decode cX5_read 1 = .ok (.aload_n 1, 1) := by decide +kernel
theorem dX5_read_2 : decode cX5_read 2 = .ok (.putfield 15, 3) := by decide +kernel
theorem dX5_read_5 : decode cX5_read 5 = .ok (.aload_n 0, 1) := by decide +kernel
theorem dX5_read_6 : decode cX5_read 6 = .ok (.iconst 0, 1) := by decide +kernel
theorem dX5_read_7 : decode cX5_read 7 = .ok (.putfield 19, 3) := by decide +kernel
theorem dX5_read_10 : decode cX5_read 10 = .ok (.aload_n 0, 1) := by decide +kernel
theorem dX5_read_11 : decode cX5_read 11 = .ok (.getfield 15, 3) := by decide +kernel
theorem dX5_read_14 : decode cX5_read 14 = .ok (.invokevirtual 23, 3) := by decide +kernel
theorem dX5_read_17 : decode cX5_read 17 = .ok (.ifCond .ne 5, 3) := by decide +kernel
theorem dX5_read_20 : decode cX5_read 20 = .ok (.iconst (-1), 1) := by decide +kernel
theorem dX5_read_21 : decode cX5_read 21 = .ok (.ireturn, 1) := by decide +kernel
theorem dX5_read_22 : decode cX5_read 22 = .ok (.iconst 0, 1) := by decide +kernel
theorem dX5_read_23 : decode cX5_read 23 = .ok (.istore_n 2, 1) := by decide +kernel
theorem dX5_read_24 : decode cX5_read 24 = .ok (.iload_n 2, 1) := by decide +kernel
theorem dX5_read_25 : decode cX5_read 25 = .ok (.bipush 12, 2) := by decide +kernel
theorem dX5_read_27 : decode cX5_read 27 = .ok (.if_icmp .ge 109, 3) := by decide +kernel
theorem dX5_read_30 : decode cX5_read 30 = .ok (.aload_n 0, 1) := by decide +kernel
theorem dX5_read_31 : decode cX5_read 31 = .ok (.invokevirtual 29, 3) := by decide +kernel
theorem dX5_read_34 : decode cX5_read 34 = .ok (.ifCond .eq 23, 3) := by decide +kernel
theorem dX5_read_37 : decode cX5_read 37 = .ok (.aload_n 0, 1) := by decide +kernel
theorem dX5_read_38 : decode cX5_read 38 = .ok (.getfield 15, 3) := by decide +kernel
theorem dX5_read_41 : decode cX5_read 41 = .ok (.bipush 10, 2) := by decide +kernel
theorem dX5_read_43 : decode cX5_read 43 = .ok (.invokevirtual 33, 3) := by decide +kernel
theorem dX5_read_46 : decode cX5_read 46 = .ok (.ifCond .eq 19, 3) := by decide +kernel
theorem dX5_read_49 : decode cX5_read 49 = .ok (.aload_n 0, 1) := by decide +kernel
theorem dX5_read_50 : decode cX5_read 50 = .ok (.iconst 0, 1) := by decide +kernel
theorem dX5_read_51 : decode cX5_read 51 = .ok (.invokevirtual 37, 3) := by decide +kernel
theorem dX5_read_54 : decode cX5_read 54 = .ok (.ifCond .ne 11, 3) := by decide +kernel
theorem dX5_read_57 : decode cX5_read 57 = .ok (.aload_n 0, 1) := by decide +kernel
theorem dX5_read_58 : decode cX5_read 58 = .ok (.getfield 15, 3) := by decide +kernel
theorem dX5_read_61 : decode cX5_read 61 = .ok (.invokevirtual 40, 3) := by decide +kernel
theorem dX5_read_64 : decode cX5_read 64 = .ok (.ireturn, 1) := by decide +kernel
theorem dX5_read_65 : decode cX5_read 65 = .ok (.aload_n 0, 1) := by decide +kernel
theorem dX5_read_66 : decode cX5_read 66 = .ok (.getfield 43, 3) := by decide +kernel
theorem dX5_read_69 : decode cX5_read 69 = .ok (.aload_n 0, 1) := by decide +kernel
theorem dX5_read_70 : decode cX5_read 70 = .ok (.getfield 9, 3) := by decide +kernel
theorem dX5_read_73 : decode cX5_read 73 = .ok (.arraylength, 1) := by decide +kernel
theorem dX5_read_74 : decode cX5_read 74 = .ok (.if_icmp .ge 23, 3) := by decide +kernel
theorem dX5_read_77 : decode cX5_read 77 = .ok (.aload_n 0, 1) := by decide +kernel
theorem dX5_read_78 : decode cX5_read 78 = .ok (.getfield 9, 3) := by decide +kernel
theorem dX5_read_81 : decode cX5_read 81 = .ok (.aload_n 0, 1) := by decide +kernel
theorem dX5_read_82 : decode cX5_read 82 = .ok (.getfield 43, 3) := by decide +kernel
theorem dX5_read_85 : decode cX5_read 85 = .ok (.aload_n 0, 1) := by decide +kernel
theorem dX5_read_86 : decode cX5_read 86 = .ok (.getfield 19, 3) := by decide +kernel
theorem dX5_read_89 : decode cX5_read 89 = .ok (.aload_n 0, 1) := by decide +kernel
theorem dX5_read_90 : decode cX5_read 90 = .ok (.getfield 43, 3) := by decide +kernel
theorem dX5_read_93 : decode cX5_read 93 = .ok (.isub, 1) := by decide +kernel
theorem dX5_read_94 : decode cX5_read 94 = .ok (.iconst 1, 1) := by decide +kernel
theorem dX5_read_95 : decode cX5_read 95 = .ok (.isub, 1) := by decide +kernel
theorem dX5_read_96 : decode cX5_read 96 = .ok (.iastore, 1) := by decide +kernel
theorem dX5_read_97 : decode cX5_read 97 = .ok (.aload_n 0, 1) := by decide +kernel
theorem dX5_read_98 : decode cX5_read 98 = .ok (.getfield 15, 3) := by decide +kernel
theorem dX5_read_101 : decode cX5_read 101 = .ok (.invokevirtual 23, 3) := by decide +kernel
theorem dX5_read_104 : decode cX5_read 104 = .ok (.ifCond .ne 5, 3) := by decide +kernel
theorem dX5_read_107 : decode cX5_read 107 = .ok (.iconst (-1), 1) := by decide +kernel
theorem dX5_read_108 : decode cX5_read 108 = .ok (.ireturn, 1) := by decide +kernel
theorem dX5_read_109 : decode cX5_read 109 = .ok (.aload_n 0, 1) := by decide +kernel
theorem dX5_read_110 : decode cX5_read 110 = .ok (.getfield 15, 3) := by decide +kernel
theorem dX5_read_113 : decode cX5_read 113 = .ok (.sipush 159, 3) := by decide +kernel
theorem dX5_read_116 : decode cX5_read 116 = .ok (.invokevirtual 33, 3) := by decide +kernel
theorem dX5_read_119 : decode cX5_read 119 = .ok (.ifCond .ne 11, 3) := by decide +kernel
theorem dX5_read_122 : decode cX5_read 122 = .ok (.aload_n 0, 1) := by decide +kernel
theorem dX5_read_123 : decode cX5_read 123 = .ok (.getfield 15, 3) := by decide +kernel
theorem dX5_read_126 : decode cX5_read 126 = .ok (.invokevirtual 40, 3) := by decide +kernel
theorem dX5_read_129 : decode cX5_read 129 = .ok (.ireturn, 1) := by decide +kernel
theorem dX5_read_130 : decode cX5_read 130 = .ok (.iinc 2 1, 3) := by decide +kernel
theorem dX5_read_133 : decode cX5_read 133 = .ok (.goto (-109), 3) := by decide +kernel
theorem dX5_read_136 : decode cX5_read 136 = .ok (.aload_n 0, 1) := by decide +kernel
theorem dX5_read_137 : decode cX5_read 137 = .ok (.getfield 15, 3) := by decide +kernel
theorem dX5_read_140 : decode cX5_read 140 = .ok (.invokevirtual 40, 3) := by decide +kernel
theorem dX5_read_143 : decode cX5_read 143 = .ok (.ireturn, 1) := by decide +kernel
theorem dX5_written_0 : decode cX5_written 0 = .ok (.aload_n 0, 1) := by decide +kernel
theorem dX5_written_1 : decode cX5_written 1 = .ok (.getfield 9, 3) := by decide +kernel
theorem dX5_written_4 : decode cX5_written 4 = .ok (.aload_n 0, 1) := by decide +kernel
theorem dX5_written_5 : decode cX5_written 5 = .ok (.getfield 19, 3) := by decide +kernel
theorem dX5_written_8 : decode cX5_written 8 = .ok (.invokestatic 46, 3) := by decide +kernel
theorem dX5_written_11 : decode cX5_written 11 = .ok (.areturn, 1) := by decide +kernel
theorem dX5_readHead_0 : decode cX5_readHead 0 = .ok (.aload_n 0, 1) := by decide +kernel
theorem dX5_readHead_1 : decode cX5_readHead 1 = .ok (.getfield 15, 3) := by decide +kernel
theorem dX5_readHead_4 : decode cX5_readHead 4 = .ok (.bipush 9, 2) := by decide +kernel
theorem dX5_readHead_6 : decode cX5_readHead 6 = .ok (.invokevirtual 33, 3) := by decide +kernel
theorem dX5_readHead_9 : decode cX5_readHead 9 = .ok (.ifCond .ne 5, 3) := by decide +kernel
theorem dX5_readHead_12 : decode cX5_readHead 12 = .ok (.iconst 0, 1) := by decide +kernel
theorem dX5_readHead_13 : decode cX5_readHead 13 = .ok (.ireturn, 1) := by decide +kernel
theorem dX5_readHead_14 : decode cX5_readHead 14 = .ok (.aload_n 0, 1) := by decide +kernel
theorem dX5_readHead_15 : decode cX5_readHead 15 = .ok (.getfield 15, 3) := by decide +kernel
theorem dX5_readHead_18 : decode cX5_readHead 18 = .ok (.iconst 0, 1) := by decide +kernel
theorem dX5_readHead_19 : decode cX5_readHead 19 = .ok (.iconst 3, 1) := by decide +kernel
theorem dX5_readHead_20 : decode cX5_readHead 20 = .ok (.invokevirtual 52, 3) := by decide +kernel
theorem dX5_readHead_23 : decode cX5_readHead 23 = .ok (.istore_n 1, 1) := by decide +kernel
theorem dX5_readHead_24 : decode cX5_readHead 24 = .ok (.iload_n 1, 1) := by decide +kernel
theorem dX5_readHead_25 : decode cX5_readHead 25 = .ok (.iconst (-1), 1) := by decide +kernel
theorem dX5_readHead_26 : decode cX5_readHead 26 = .ok (.if_icmp .ne 5, 3) := by decide +kernel
theorem dX5_readHead_29 : decode cX5_readHead 29 = .ok (.iconst 0, 1) := by decide +kernel
theorem dX5_readHead_30 : decode cX5_readHead 30 = .ok (.ireturn, 1) := by decide +kernel
theorem dX5_readHead_31 : decode cX5_readHead 31 = .ok (.aload_n 0, 1) := by decide +kernel
theorem dX5_readHead_32 : decode cX5_readHead 32 = .ok (.iload_n 1, 1) := by decide +kernel
theorem dX5_readHead_33 : decode cX5_readHead 33 = .ok (.invokevirtual 56, 3) := by decide +kernel
theorem dX5_readHead_36 : decode cX5_readHead 36 = .ok (.aload_n 0, 1) := by decide +kernel
theorem dX5_readHead_37 : decode cX5_readHead 37 = .ok (.aload_n 0, 1) := by decide +kernel
theorem dX5_readHead_38 : decode cX5_readHead 38 = .ok (.getfield 19, 3) := by decide +kernel
theorem dX5_readHead_41 : decode cX5_readHead 41 = .ok (.putfield 43, 3) := by decide +kernel
theorem dX5_readHead_44 : decode cX5_readHead 44 = .ok (.aload_n 0, 1) := by decide +kernel
theorem dX5_readHead_45 : decode cX5_readHead 45 = .ok (.iconst 0, 1) := by decide +kernel
theorem dX5_readHead_46 : decode cX5_readHead 46 = .ok (.invokevirtual 56, 3) := by decide +kernel
theorem dX5_readHead_49 : decode cX5_readHead 49 = .ok (.iconst 1, 1) := by decide +kernel
theorem dX5_readHead_50 : decode cX5_readHead 50 = .ok (.ireturn, 1) := by decide +kernel
theorem dX5_readAny_0 : decode cX5_readAny 0 = .ok (.aload_n 0, 1) := by decide +kernel
theorem dX5_readAny_1 : decode cX5_readAny 1 = .ok (.iload_n 1, 1) := by decide +kernel
theorem dX5_readAny_2 : decode cX5_readAny 2 = .ok (.invokevirtual 60, 3) := by decide +kernel
theorem dX5_readAny_5 : decode cX5_readAny 5 = .ok (.ifCond .ne 5, 3) := by decide +kernel
theorem dX5_readAny_8 : decode cX5_readAny 8 = .ok (.iconst 0, 1) := by decide +kernel
theorem dX5_readAny_9 : decode cX5_readAny 9 = .ok (.ireturn, 1) := by decide +kernel
theorem dX5_readAny_10 : decode cX5_readAny 10 = .ok (.iconst 0, 1) := by decide +kernel
theorem dX5_readAny_11 : decode cX5_readAny 11 = .ok (.istore_n 2, 1) := by decide +kernel
theorem dX5_readAny_12 : decode cX5_readAny 12 = .ok (.iload_n 2, 1) := by decide +kernel
theorem dX5_readAny_13 : decode cX5_readAny 13 = .ok (.sipush 400, 3) := by decide +kernel
theorem dX5_readAny_16 : decode cX5_readAny 16 = .ok (.if_icmp .ge 37, 3) := by decide +kernel
theorem dX5_readAny_19 : decode cX5_readAny 19 = .ok (.aload_n 0, 1) := by decide +kernel
theorem dX5_readAny_20 : decode cX5_readAny 20 = .ok (.getfield 15, 3) := by decide +kernel
theorem dX5_readAny_23 : decode cX5_readAny 23 = .ok (.bipush 11, 2) := by decide +kernel
theorem dX5_readAny_25 : decode cX5_readAny 25 = .ok (.invokevirtual 33, 3) := by decide +kernel
theorem dX5_readAny_28 : decode cX5_readAny 28 = .ok (.ifCond .eq 25, 3) := by decide +kernel
theorem dX5_readAny_31 : decode cX5_readAny 31 = .ok (.aload_n 0, 1) := by decide +kernel
theorem dX5_readAny_32 : decode cX5_readAny 32 = .ok (.iload_n 1, 1) := by decide +kernel
theorem dX5_readAny_33 : decode cX5_readAny 33 = .ok (.invokevirtual 60, 3) := by decide +kernel
theorem dX5_readAny_36 : decode cX5_readAny 36 = .ok (.ifCond .ne 5, 3) := by decide +kernel
theorem dX5_readAny_39 : decode cX5_readAny 39 = .ok (.iconst 0, 1) := by decide +kernel
theorem dX5_readAny_40 : decode cX5_readAny 40 = .ok (.ireturn, 1) := by decide +kernel
theorem dX5_readAny_41 : decode cX5_readAny 41 = .ok (.aload_n 0, 1) := by decide +kernel
theorem dX5_readAny_42 : decode cX5_readAny 42 = .ok (.bipush 11, 2) := by decide +kernel
theorem dX5_readAny_44 : decode cX5_readAny 44 = .ok (.invokevirtual 56, 3) := by decide +kernel
theorem dX5_readAny_47 : decode cX5_readAny 47 = .ok (.iinc 2 1, 3) := by decide +kernel
theorem dX5_readAny_50 : decode cX5_readAny 50 = .ok (.goto (-38), 3) := by decide +kernel
theorem dX5_readAny_53 : decode cX5_readAny 53 = .ok (.iconst 1, 1) := by decide +kernel
theorem dX5_readAny_54 : decode cX5_readAny 54 = .ok (.ireturn, 1) := by decide +kernel
theorem dX5_readAll_0 : decode cX5_readAll 0 = .ok (.aload_n 0, 1) := by decide +kernel
theorem dX5_readAll_1 : decode cX5_readAll 1 = .ok (.iload_n 1, 1) := by decide +kernel
theorem dX5_readAll_2 : decode cX5_readAll 2 = .ok (.invokevirtual 63, 3) := by decide +kernel
theorem dX5_readAll_5 : decode cX5_readAll 5 = .ok (.ifCond .ne 5, 3) := by decide +kernel
theorem dX5_readAll_8 : decode cX5_readAll 8 = .ok (.iconst 0, 1) := by decide +kernel
theorem dX5_readAll_9 : decode cX5_readAll 9 = .ok (.ireturn, 1) := by decide +kernel
theorem dX5_readAll_10 : decode cX5_readAll 10 = .ok (.iconst 0, 1) := by decide +kernel
theorem dX5_readAll_11 : decode cX5_readAll 11 = .ok (.istore_n 2, 1) := by decide +kernel
theorem dX5_readAll_12 : decode cX5_readAll 12 = .ok (.iload_n 2, 1) := by decide +kernel
theorem dX5_readAll_13 : decode cX5_readAll 13 = .ok (.sipush 400, 3) := by decide +kernel
theorem dX5_readAll_16 : decode cX5_readAll 16 = .ok (.if_icmp .ge 37, 3) := by decide +kernel
theorem dX5_readAll_19 : decode cX5_readAll 19 = .ok (.aload_n 0, 1) := by decide +kernel
theorem dX5_readAll_20 : decode cX5_readAll 20 = .ok (.getfield 15, 3) := by decide +kernel
theorem dX5_readAll_23 : decode cX5_readAll 23 = .ok (.bipush 12, 2) := by decide +kernel
theorem dX5_readAll_25 : decode cX5_readAll 25 = .ok (.invokevirtual 33, 3) := by decide +kernel
theorem dX5_readAll_28 : decode cX5_readAll 28 = .ok (.ifCond .eq 25, 3) := by decide +kernel
theorem dX5_readAll_31 : decode cX5_readAll 31 = .ok (.aload_n 0, 1) := by decide +kernel
theorem dX5_readAll_32 : decode cX5_readAll 32 = .ok (.iload_n 1, 1) := by decide +kernel
theorem dX5_readAll_33 : decode cX5_readAll 33 = .ok (.invokevirtual 63, 3) := by decide +kernel
theorem dX5_readAll_36 : decode cX5_readAll 36 = .ok (.ifCond .ne 5, 3) := by decide +kernel
theorem dX5_readAll_39 : decode cX5_readAll 39 = .ok (.iconst 0, 1) := by decide +kernel
theorem dX5_readAll_40 : decode cX5_readAll 40 = .ok (.ireturn, 1) := by decide +kernel
theorem dX5_readAll_41 : decode cX5_readAll 41 = .ok (.aload_n 0, 1) := by decide +kernel
theorem dX5_readAll_42 : decode cX5_readAll 42 = .ok (.bipush 12, 2) := by decide +kernel
theorem dX5_readAll_44 : decode cX5_readAll 44 = .ok (.invokevirtual 56, 3) := by decide +kernel
theorem dX5_readAll_47 : decode cX5_readAll 47 = .ok (.iinc 2 1, 3) := by decide +kernel
theorem dX5_readAll_50 : decode cX5_readAll 50 = .ok (.goto (-38), 3) := by decide +kernel
theorem dX5_readAll_53 : decode cX5_readAll 53 = .ok (.iconst 1, 1) := by decide +kernel
theorem dX5_readAll_54 : decode cX5_readAll 54 = .ok (.ireturn, 1) := by decide +kernel
theorem dX5_readAtom_0 : decode cX5_readAtom 0 = .ok (.aload_n 0, 1) := by decide +kernel
theorem dX5_readAtom_1 : decode cX5_readAtom 1 = .ok (.getfield 15, 3) := by decide +kernel
theorem dX5_readAtom_4 : decode cX5_readAtom 4 = .ok (.invokevirtual 23, 3) := by decide +kernel
theorem dX5_readAtom_7 : decode cX5_readAtom 7 = .ok (.istore_n 2, 1) := by decide +kernel
theorem dX5_readAtom_8 : decode cX5_readAtom 8 = .ok (.iload_n 2, 1) := by decide +kernel
theorem dX5_readAtom_9 : decode cX5_readAtom 9 = .ok (.bipush 13, 2) := by decide +kernel
theorem dX5_readAtom_11 : decode cX5_readAtom 11 = .ok (.if_icmp .eq 10, 3) := by decide +kernel
theorem dX5_readAtom_14 : decode cX5_readAtom 14 = .ok (.iload_n 2, 1) := by decide +kernel
theorem dX5_readAtom_15 : decode cX5_readAtom 15 = .ok (.sipush 140, 3) := by decide +kernel
theorem dX5_readAtom_18 : decode cX5_readAtom 18 = .ok (.if_icmp .ne 26, 3) := by decide +kernel
theorem dX5_readAtom_21 : decode cX5_readAtom 21 = .ok (.iload_n 1, 1) := by decide +kernel
theorem dX5_readAtom_22 : decode cX5_readAtom 22 = .ok (.bipush 6, 2) := by decide +kernel
theorem dX5_readAtom_24 : decode cX5_readAtom 24 = .ok (.if_icmp .ge 18, 3) := by decide +kernel
theorem dX5_readAtom_27 : decode cX5_readAtom 27 = .ok (.aload_n 0, 1) := by decide +kernel
theorem dX5_readAtom_28 : decode cX5_readAtom 28 = .ok (.iload_n 2, 1) := by decide +kernel
theorem dX5_readAtom_29 : decode cX5_readAtom 29 = .ok (.iload_n 1, 1) := by decide +kernel
theorem dX5_readAtom_30 : decode cX5_readAtom 30 = .ok (.iconst 1, 1) := by decide +kernel
theorem dX5_readAtom_31 : decode cX5_readAtom 31 = .ok (.iadd, 1) := by decide +kernel
theorem dX5_readAtom_32 : decode cX5_readAtom 32 = .ok (.invokevirtual 66, 3) := by decide +kernel
theorem dX5_readAtom_35 : decode cX5_readAtom 35 = .ok (.ifCond .eq 7, 3) := by decide +kernel
theorem dX5_readAtom_38 : decode cX5_readAtom 38 = .ok (.iconst 1, 1) := by decide +kernel
theorem dX5_readAtom_39 : decode cX5_readAtom 39 = .ok (.goto 4, 3) := by decide +kernel
theorem dX5_readAtom_42 : decode cX5_readAtom 42 = .ok (.iconst 0, 1) := by decide +kernel
theorem dX5_readAtom_43 : decode cX5_readAtom 43 = .ok (.ireturn, 1) := by decide +kernel
theorem dX5_readAtom_44 : decode cX5_readAtom 44 = .ok (.iload_n 2, 1) := by decide +kernel
theorem dX5_readAtom_45 : decode cX5_readAtom 45 = .ok (.bipush 14, 2) := by decide +kernel
theorem dX5_readAtom_47 : decode cX5_readAtom 47 = .ok (.if_icmp .eq 9, 3) := by decide +kernel
theorem dX5_readAtom_50 : decode cX5_readAtom 50 = .ok (.iload_n 2, 1) := by decide +kernel
theorem dX5_readAtom_51 : decode cX5_readAtom 51 = .ok (.bipush 15, 2) := by decide +kernel
theorem dX5_readAtom_53 : decode cX5_readAtom 53 = .ok (.if_icmp .ne 17, 3) := by decide +kernel
theorem dX5_readAtom_56 : decode cX5_readAtom 56 = .ok (.aload_n 0, 1) := by decide +kernel
theorem dX5_readAtom_57 : decode cX5_readAtom 57 = .ok (.iload_n 2, 1) := by decide +kernel
theorem dX5_readAtom_58 : decode cX5_readAtom 58 = .ok (.invokevirtual 56, 3) := by decide +kernel
theorem dX5_readAtom_61 : decode cX5_readAtom 61 = .ok (.aload_n 0, 1) := by decide +kernel
theorem dX5_readAtom_62 : decode cX5_readAtom 62 = .ok (.getfield 15, 3) := by decide +kernel
theorem dX5_readAtom_65 : decode cX5_readAtom 65 = .ok (.invokevirtual 70, 3) := by decide +kernel
theorem dX5_readAtom_68 : decode cX5_readAtom 68 = .ok (.iconst 1, 1) := by decide +kernel
theorem dX5_readAtom_69 : decode cX5_readAtom 69 = .ok (.ireturn, 1) := by decide +kernel
theorem dX5_readAtom_70 : decode cX5_readAtom 70 = .ok (.aload_n 0, 1) := by decide +kernel
theorem dX5_readAtom_71 : decode cX5_readAtom 71 = .ok (.invokevirtual 73, 3) := by decide +kernel
theorem dX5_readAtom_74 : decode cX5_readAtom 74 = .ok (.ireturn, 1) := by decide +kernel
theorem dX5_readInner_0 : decode cX5_readInner 0 = .ok (.aload_n 0, 1) := by decide +kernel
theorem dX5_readInner_1 : decode cX5_readInner 1 = .ok (.getfield 15, 3) := by decide +kernel
theorem dX5_readInner_4 : decode cX5_readInner 4 = .ok (.invokevirtual 70, 3) := by decide +kernel
theorem dX5_readInner_7 : decode cX5_readInner 7 = .ok (.iload_n 1, 1) := by decide +kernel
theorem dX5_readInner_8 : decode cX5_readInner 8 = .ok (.sipush 140, 3) := by decide +kernel
theorem dX5_readInner_11 : decode cX5_readInner 11 = .ok (.if_icmp .ne 30, 3) := by decide +kernel
theorem dX5_readInner_14 : decode cX5_readInner 14 = .ok (.aload_n 0, 1) := by decide +kernel
theorem dX5_readInner_15 : decode cX5_readInner 15 = .ok (.iload_n 2, 1) := by decide +kernel
theorem dX5_readInner_16 : decode cX5_readInner 16 = .ok (.invokevirtual 37, 3) := by decide +kernel
theorem dX5_readInner_19 : decode cX5_readInner 19 = .ok (.ifCond .eq 20, 3) := by decide +kernel
theorem dX5_readInner_22 : decode cX5_readInner 22 = .ok (.aload_n 0, 1) := by decide +kernel
theorem dX5_readInner_23 : decode cX5_readInner 23 = .ok (.getfield 15, 3) := by decide +kernel
theorem dX5_readInner_26 : decode cX5_readInner 26 = .ok (.sipush 141, 3) := by decide +kernel
theorem dX5_readInner_29 : decode cX5_readInner 29 = .ok (.invokevirtual 33, 3) := by decide +kernel
theorem dX5_readInner_32 : decode cX5_readInner 32 = .ok (.ifCond .eq 7, 3) := by decide +kernel
theorem dX5_readInner_35 : decode cX5_readInner 35 = .ok (.iconst 1, 1) := by decide +kernel
theorem dX5_readInner_36 : decode cX5_readInner 36 = .ok (.goto 4, 3) := by decide +kernel
theorem dX5_readInner_39 : decode cX5_readInner 39 = .ok (.iconst 0, 1) := by decide +kernel
theorem dX5_readInner_40 : decode cX5_readInner 40 = .ok (.ireturn, 1) := by decide +kernel
theorem dX5_readInner_41 : decode cX5_readInner 41 = .ok (.aload_n 0, 1) := by decide +kernel
theorem dX5_readInner_42 : decode cX5_readInner 42 = .ok (.iload_n 2, 1) := by decide +kernel
theorem dX5_readInner_43 : decode cX5_readInner 43 = .ok (.invokevirtual 63, 3) := by decide +kernel
theorem dX5_readInner_46 : decode cX5_readInner 46 = .ok (.ifCond .ne 5, 3) := by decide +kernel
theorem dX5_readInner_49 : decode cX5_readInner 49 = .ok (.iconst 0, 1) := by decide +kernel
theorem dX5_readInner_50 : decode cX5_readInner 50 = .ok (.ireturn, 1) := by decide +kernel
theorem dX5_readInner_51 : decode cX5_readInner 51 = .ok (.aload_n 0, 1) := by decide +kernel
theorem dX5_readInner_52 : decode cX5_readInner 52 = .ok (.bipush 13, 2) := by decide +kernel
theorem dX5_readInner_54 : decode cX5_readInner 54 = .ok (.invokevirtual 56, 3) := by decide +kernel
theorem dX5_readInner_57 : decode cX5_readInner 57 = .ok (.iconst 1, 1) := by decide +kernel
theorem dX5_readInner_58 : decode cX5_readInner 58 = .ok (.ireturn, 1) := by decide +kernel
theorem dX5_readCompared_0 : decode cX5_readCompared 0 = .ok (.aload_n 0, 1) := by decide +kernel
theorem dX5_readCompared_1 : decode cX5_readCompared 1 = .ok (.invokevirtual 76, 3) := by decide +kernel
theorem dX5_readCompared_4 : decode cX5_readCompared 4 = .ok (.ifCond .ne 5, 3) := by decide +kernel
theorem dX5_readCompared_7 : decode cX5_readCompared 7 = .ok (.iconst 0, 1) := by decide +kernel
theorem dX5_readCompared_8 : decode cX5_readCompared 8 = .ok (.ireturn, 1) := by decide +kernel
theorem dX5_readCompared_9 : decode cX5_readCompared 9 = .ok (.aload_n 0, 1) := by decide +kernel
theorem dX5_readCompared_10 : decode cX5_readCompared 10 = .ok (.getfield 15, 3) := by decide +kernel
theorem dX5_readCompared_13 : decode cX5_readCompared 13 = .ok (.invokevirtual 23, 3) := by decide +kernel
theorem dX5_readCompared_16 : decode cX5_readCompared 16 = .ok (.istore_n 1, 1) := by decide +kernel
theorem dX5_readCompared_17 : decode cX5_readCompared 17 = .ok (.iload_n 1, 1) := by decide +kernel
theorem dX5_readCompared_18 : decode cX5_readCompared 18 = .ok (.sipush 160, 3) := by decide +kernel
theorem dX5_readCompared_21 : decode cX5_readCompared 21 = .ok (.if_icmp .eq 12, 3) := by decide +kernel
theorem dX5_readCompared_24 : decode cX5_readCompared 24 = .ok (.iload_n 1, 1) := by decide +kernel
theorem dX5_readCompared_25 : decode cX5_readCompared 25 = .ok (.sipush 162, 3) := by decide +kernel
theorem dX5_readCompared_28 : decode cX5_readCompared 28 = .ok (.if_icmp .eq 5, 3) := by decide +kernel
theorem dX5_readCompared_31 : decode cX5_readCompared 31 = .ok (.iconst 0, 1) := by decide +kernel
theorem dX5_readCompared_32 : decode cX5_readCompared 32 = .ok (.ireturn, 1) := by decide +kernel
theorem dX5_readCompared_33 : decode cX5_readCompared 33 = .ok (.aload_n 0, 1) := by decide +kernel
theorem dX5_readCompared_34 : decode cX5_readCompared 34 = .ok (.getfield 15, 3) := by decide +kernel
theorem dX5_readCompared_37 : decode cX5_readCompared 37 = .ok (.invokevirtual 70, 3) := by decide +kernel
theorem dX5_readCompared_40 : decode cX5_readCompared 40 = .ok (.aload_n 0, 1) := by decide +kernel
theorem dX5_readCompared_41 : decode cX5_readCompared 41 = .ok (.invokevirtual 76, 3) := by decide +kernel
theorem dX5_readCompared_44 : decode cX5_readCompared 44 = .ok (.ifCond .ne 5, 3) := by decide +kernel
theorem dX5_readCompared_47 : decode cX5_readCompared 47 = .ok (.iconst 0, 1) := by decide +kernel
theorem dX5_readCompared_48 : decode cX5_readCompared 48 = .ok (.ireturn, 1) := by decide +kernel
theorem dX5_readCompared_49 : decode cX5_readCompared 49 = .ok (.aload_n 0, 1) := by decide +kernel
theorem dX5_readCompared_50 : decode cX5_readCompared 50 = .ok (.iload_n 1, 1) := by decide +kernel
theorem dX5_readCompared_51 : decode cX5_readCompared 51 = .ok (.invokevirtual 56, 3) := by decide +kernel
theorem dX5_readCompared_54 : decode cX5_readCompared 54 = .ok (.iconst 1, 1) := by decide +kernel
theorem dX5_readCompared_55 : decode cX5_readCompared 55 = .ok (.ireturn, 1) := by decide +kernel
theorem dX5_readSum_0 : decode cX5_readSum 0 = .ok (.iconst 0, 1) := by decide +kernel
theorem dX5_readSum_1 : decode cX5_readSum 1 = .ok (.istore_n 1, 1) := by decide +kernel
theorem dX5_readSum_2 : decode cX5_readSum 2 = .ok (.iload_n 1, 1) := by decide +kernel
theorem dX5_readSum_3 : decode cX5_readSum 3 = .ok (.sipush 400, 3) := by decide +kernel
theorem dX5_readSum_6 : decode cX5_readSum 6 = .ok (.if_icmp .ge 96, 3) := by decide +kernel
theorem dX5_readSum_9 : decode cX5_readSum 9 = .ok (.aload_n 0, 1) := by decide +kernel
theorem dX5_readSum_10 : decode cX5_readSum 10 = .ok (.getfield 15, 3) := by decide +kernel
theorem dX5_readSum_13 : decode cX5_readSum 13 = .ok (.invokevirtual 23, 3) := by decide +kernel
theorem dX5_readSum_16 : decode cX5_readSum 16 = .ok (.istore_n 2, 1) := by decide +kernel
theorem dX5_readSum_17 : decode cX5_readSum 17 = .ok (.aload_n 0, 1) := by decide +kernel
theorem dX5_readSum_18 : decode cX5_readSum 18 = .ok (.getfield 15, 3) := by decide +kernel
theorem dX5_readSum_21 : decode cX5_readSum 21 = .ok (.iconst 0, 1) := by decide +kernel
theorem dX5_readSum_22 : decode cX5_readSum 22 = .ok (.sipush 999, 3) := by decide +kernel
theorem dX5_readSum_25 : decode cX5_readSum 25 = .ok (.invokevirtual 52, 3) := by decide +kernel
theorem dX5_readSum_28 : decode cX5_readSum 28 = .ok (.istore_n 3, 1) := by decide +kernel
theorem dX5_readSum_29 : decode cX5_readSum 29 = .ok (.iload_n 3, 1) := by decide +kernel
theorem dX5_readSum_30 : decode cX5_readSum 30 = .ok (.iconst (-1), 1) := by decide +kernel
theorem dX5_readSum_31 : decode cX5_readSum 31 = .ok (.if_icmp .eq 15, 3) := by decide +kernel
theorem dX5_readSum_34 : decode cX5_readSum 34 = .ok (.aload_n 0, 1) := by decide +kernel
theorem dX5_readSum_35 : decode cX5_readSum 35 = .ok (.sipush 1000, 3) := by decide +kernel
theorem dX5_readSum_38 : decode cX5_readSum 38 = .ok (.iload_n 3, 1) := by decide +kernel
theorem dX5_readSum_39 : decode cX5_readSum 39 = .ok (.iadd, 1) := by decide +kernel
theorem dX5_readSum_40 : decode cX5_readSum 40 = .ok (.invokevirtual 56, 3) := by decide +kernel
theorem dX5_readSum_43 : decode cX5_readSum 43 = .ok (.goto 27, 3) := by decide +kernel
theorem dX5_readSum_46 : decode cX5_readSum 46 = .ok (.iload_n 2, 1) := by decide +kernel
theorem dX5_readSum_47 : decode cX5_readSum 47 = .ok (.invokestatic 79, 3) := by decide +kernel
theorem dX5_readSum_50 : decode cX5_readSum 50 = .ok (.ifCond .eq 18, 3) := by decide +kernel
theorem dX5_readSum_53 : decode cX5_readSum 53 = .ok (.aload_n 0, 1) := by decide +kernel
theorem dX5_readSum_54 : decode cX5_readSum 54 = .ok (.iload_n 2, 1) := by decide +kernel
theorem dX5_readSum_55 : decode cX5_readSum 55 = .ok (.invokevirtual 56, 3) := by decide +kernel
theorem dX5_readSum_58 : decode cX5_readSum 58 = .ok (.aload_n 0, 1) := by decide +kernel
theorem dX5_readSum_59 : decode cX5_readSum 59 = .ok (.getfield 15, 3) := by decide +kernel
theorem dX5_readSum_62 : decode cX5_readSum 62 = .ok (.invokevirtual 70, 3) := by decide +kernel
theorem dX5_readSum_65 : decode cX5_readSum 65 = .ok (.goto 5, 3) := by decide +kernel
theorem dX5_readSum_68 : decode cX5_readSum 68 = .ok (.iconst 0, 1) := by decide +kernel
theorem dX5_readSum_69 : decode cX5_readSum 69 = .ok (.ireturn, 1) := by decide +kernel
theorem dX5_readSum_70 : decode cX5_readSum 70 = .ok (.iload_n 1, 1) := by decide +kernel
theorem dX5_readSum_71 : decode cX5_readSum 71 = .ok (.ifCond .le 10, 3) := by decide +kernel
theorem dX5_readSum_74 : decode cX5_readSum 74 = .ok (.aload_n 0, 1) := by decide +kernel
theorem dX5_readSum_75 : decode cX5_readSum 75 = .ok (.sipush 143, 3) := by decide +kernel
theorem dX5_readSum_78 : decode cX5_readSum 78 = .ok (.invokevirtual 56, 3) := by decide +kernel
theorem dX5_readSum_81 : decode cX5_readSum 81 = .ok (.aload_n 0, 1) := by decide +kernel
theorem dX5_readSum_82 : decode cX5_readSum 82 = .ok (.getfield 15, 3) := by decide +kernel
theorem dX5_readSum_85 : decode cX5_readSum 85 = .ok (.sipush 143, 3) := by decide +kernel
theorem dX5_readSum_88 : decode cX5_readSum 88 = .ok (.invokevirtual 33, 3) := by decide +kernel
theorem dX5_readSum_91 : decode cX5_readSum 91 = .ok (.ifCond .ne 5, 3) := by decide +kernel
theorem dX5_readSum_94 : decode cX5_readSum 94 = .ok (.iconst 1, 1) := by decide +kernel
theorem dX5_readSum_95 : decode cX5_readSum 95 = .ok (.ireturn, 1) := by decide +kernel
theorem dX5_readSum_96 : decode cX5_readSum 96 = .ok (.iinc 1 1, 3) := by decide +kernel
theorem dX5_readSum_99 : decode cX5_readSum 99 = .ok (.goto (-97), 3) := by decide +kernel
theorem dX5_readSum_102 : decode cX5_readSum 102 = .ok (.iconst 0, 1) := by decide +kernel
theorem dX5_readSum_103 : decode cX5_readSum 103 = .ok (.ireturn, 1) := by decide +kernel
theorem dX5_isPart_0 : decode cX5_isPart 0 = .ok (.iload_n 0, 1) := by decide +kernel
theorem dX5_isPart_1 : decode cX5_isPart 1 = .ok (.bipush 16, 2) := by decide +kernel
theorem dX5_isPart_3 : decode cX5_isPart 3 = .ok (.if_icmp .eq 27, 3) := by decide +kernel
theorem dX5_isPart_6 : decode cX5_isPart 6 = .ok (.iload_n 0, 1) := by decide +kernel
theorem dX5_isPart_7 : decode cX5_isPart 7 = .ok (.bipush 17, 2) := by decide +kernel
theorem dX5_isPart_9 : decode cX5_isPart 9 = .ok (.if_icmp .eq 21, 3) := by decide +kernel
theorem dX5_isPart_12 : decode cX5_isPart 12 = .ok (.iload_n 0, 1) := by decide +kernel
theorem dX5_isPart_13 : decode cX5_isPart 13 = .ok (.bipush 18, 2) := by decide +kernel
theorem dX5_isPart_15 : decode cX5_isPart 15 = .ok (.if_icmp .eq 15, 3) := by decide +kernel
theorem dX5_isPart_18 : decode cX5_isPart 18 = .ok (.iload_n 0, 1) := by decide +kernel
theorem dX5_isPart_19 : decode cX5_isPart 19 = .ok (.bipush 19, 2) := by decide +kernel
theorem dX5_isPart_21 : decode cX5_isPart 21 = .ok (.if_icmp .eq 9, 3) := by decide +kernel
theorem dX5_isPart_24 : decode cX5_isPart 24 = .ok (.iload_n 0, 1) := by decide +kernel
theorem dX5_isPart_25 : decode cX5_isPart 25 = .ok (.bipush 6, 2) := by decide +kernel
theorem dX5_isPart_27 : decode cX5_isPart 27 = .ok (.if_icmp .ne 7, 3) := by decide +kernel
theorem dX5_isPart_30 : decode cX5_isPart 30 = .ok (.iconst 1, 1) := by decide +kernel
theorem dX5_isPart_31 : decode cX5_isPart 31 = .ok (.goto 4, 3) := by decide +kernel
theorem dX5_isPart_34 : decode cX5_isPart 34 = .ok (.iconst 0, 1) := by decide +kernel
theorem dX5_isPart_35 : decode cX5_isPart 35 = .ok (.ireturn, 1) := by decide +kernel
theorem dX5_write_0 : decode cX5_write 0 = .ok (.aload_n 0, 1) := by decide +kernel
theorem dX5_write_1 : decode cX5_write 1 = .ok (.getfield 19, 3) := by decide +kernel
theorem dX5_write_4 : decode cX5_write 4 = .ok (.aload_n 0, 1) := by decide +kernel
theorem dX5_write_5 : decode cX5_write 5 = .ok (.getfield 9, 3) := by decide +kernel
theorem dX5_write_8 : decode cX5_write 8 = .ok (.arraylength, 1) := by decide +kernel
theorem dX5_write_9 : decode cX5_write 9 = .ok (.if_icmp .ge 20, 3) := by decide +kernel
theorem dX5_write_12 : decode cX5_write 12 = .ok (.aload_n 0, 1) := by decide +kernel
theorem dX5_write_13 : decode cX5_write 13 = .ok (.getfield 9, 3) := by decide +kernel
theorem dX5_write_16 : decode cX5_write 16 = .ok (.aload_n 0, 1) := by decide +kernel
theorem dX5_write_17 : decode cX5_write 17 = .ok (.dup, 1) := by decide +kernel
theorem dX5_write_18 : decode cX5_write 18 = .ok (.getfield 19, 3) := by decide +kernel
theorem dX5_write_21 : decode cX5_write 21 = .ok (.dup_x1, 1) := by decide +kernel
theorem dX5_write_22 : decode cX5_write 22 = .ok (.iconst 1, 1) := by decide +kernel
theorem dX5_write_23 : decode cX5_write 23 = .ok (.iadd, 1) := by decide +kernel
theorem dX5_write_24 : decode cX5_write 24 = .ok (.putfield 19, 3) := by decide +kernel
theorem dX5_write_27 : decode cX5_write 27 = .ok (.iload_n 1, 1) := by decide +kernel
theorem dX5_write_28 : decode cX5_write 28 = .ok (.iastore, 1) := by decide +kernel
theorem dX5_write_29 : decode cX5_write 29 = .ok (.return_, 1) := by decide +kernel
theorem dX6_init_0 : decode cX6_init 0 = .ok (.aload_n 0, 1) := by decide +kernel
theorem dX6_init_1 : decode cX6_init 1 = .ok (.invokespecial 3, 3) := by decide +kernel
theorem dX6_init_4 : decode cX6_init 4 = .ok (.aload_n 0, 1) := by decide +kernel
theorem dX6_init_5 : decode cX6_init 5 = .ok (.iconst 2, 1) := by decide +kernel
theorem dX6_init_6 : decode cX6_init 6 = .ok (.newarray .int, 2) := by decide +kernel
theorem dX6_init_8 : decode cX6_init 8 = .ok (.dup, 1) := by decide +kernel
theorem dX6_init_9 : decode cX6_init 9 = .ok (.iconst 0, 1) := by decide +kernel
theorem dX6_init_10 : decode cX6_init 10 = .ok (.iconst (-1), 1) := by decide +kernel
theorem dX6_init_11 : decode cX6_init 11 = .ok (.iastore, 1) := by decide +kernel
theorem dX6_init_12 : decode cX6_init 12 = .ok (.dup, 1) := by decide +kernel
theorem dX6_init_13 : decode cX6_init 13 = .ok (.iconst 1, 1) := by decide +kernel
theorem dX6_init_14 : decode cX6_init 14 = .ok (.iconst (-1), 1) := by decide +kernel
theorem dX6_init_15 : decode cX6_init 15 = .ok (.iastore, 1) := by decide +kernel
theorem dX6_init_16 : decode cX6_init 16 = .ok (.putfield 9, 3) := by decide +kernel
theorem dX6_init_19 : decode cX6_init 19 = .ok (.aload_n 0, 1) := by decide +kernel
theorem dX6_init_20 : decode cX6_init 20 = .ok (.bipush 6, 2) := by decide +kernel
theorem dX6_init_22 : decode cX6_init 22 = .ok (.anewarray 15, 3) := by decide +kernel
theorem dX6_init_25 : decode cX6_init 25 = .ok (.putfield 17, 3) := by decide +kernel
theorem dX6_init_28 : decode cX6_init 28 = .ok (.return_, 1) := by decide +kernel
theorem dX6_takeFrom_0 : decode cX6_takeFrom 0 = .ok (.aload_n 0, 1) := by decide +kernel
theorem dX6_takeFrom_1 : decode cX6_takeFrom 1 = .ok (.aload_n 1, 1) := by decide +kernel
theorem dX6_takeFrom_2 : decode cX6_takeFrom 2 = .ok (.getfield 21, 3) := by decide +kernel
theorem dX6_takeFrom_5 : decode cX6_takeFrom 5 = .ok (.putfield 21, 3) := by decide +kernel
theorem dX6_takeFrom_8 : decode cX6_takeFrom 8 = .ok (.iconst 0, 1) := by decide +kernel
theorem dX6_takeFrom_9 : decode cX6_takeFrom 9 = .ok (.istore_n 2, 1) := by decide +kernel
theorem dX6_takeFrom_10 : decode cX6_takeFrom 10 = .ok (.iload_n 2, 1) := by decide +kernel
theorem dX6_takeFrom_11 : decode cX6_takeFrom 11 = .ok (.aload_n 0, 1) := by decide +kernel
theorem dX6_takeFrom_12 : decode cX6_takeFrom 12 = .ok (.getfield 21, 3) := by decide +kernel
theorem dX6_takeFrom_15 : decode cX6_takeFrom 15 = .ok (.if_icmp .ge 21, 3) := by decide +kernel
theorem dX6_takeFrom_18 : decode cX6_takeFrom 18 = .ok (.aload_n 0, 1) := by decide +kernel
theorem dX6_takeFrom_19 : decode cX6_takeFrom 19 = .ok (.getfield 17, 3) := by decide +kernel
theorem dX6_takeFrom_22 : decode cX6_takeFrom 22 = .ok (.iload_n 2, 1) := by decide +kernel
theorem dX6_takeFrom_23 : decode cX6_takeFrom 23 = .ok (.aload_n 1, 1) := by decide +kernel
theorem dX6_takeFrom_24 : decode cX6_takeFrom 24 = .ok (.getfield 17, 3) := by decide +kernel
theorem dX6_takeFrom_27 : decode cX6_takeFrom 27 = .ok (.iload_n 2, 1) := by decide +kernel
theorem dX6_takeFrom_28 : decode cX6_takeFrom 28 = .ok (.aaload, 1) := by decide +kernel
theorem dX6_takeFrom_29 : decode cX6_takeFrom 29 = .ok (.aastore, 1) := by decide +kernel
theorem dX6_takeFrom_30 : decode cX6_takeFrom 30 = .ok (.iinc 2 1, 3) := by decide +kernel
theorem dX6_takeFrom_33 : decode cX6_takeFrom 33 = .ok (.goto (-23), 3) := by decide +kernel
theorem dX6_takeFrom_36 : decode cX6_takeFrom 36 = .ok (.aload_n 0, 1) := by decide +kernel
theorem dX6_takeFrom_37 : decode cX6_takeFrom 37 = .ok (.getfield 9, 3) := by decide +kernel
theorem dX6_takeFrom_40 : decode cX6_takeFrom 40 = .ok (.iconst 0, 1) := by decide +kernel
theorem dX6_takeFrom_41 : decode cX6_takeFrom 41 = .ok (.aload_n 1, 1) := by decide +kernel
theorem dX6_takeFrom_42 : decode cX6_takeFrom 42 = .ok (.getfield 9, 3) := by decide +kernel
theorem dX6_takeFrom_45 : decode cX6_takeFrom 45 = .ok (.iconst 0, 1) := by decide +kernel
theorem dX6_takeFrom_46 : decode cX6_takeFrom 46 = .ok (.iaload, 1) := by decide +kernel
theorem dX6_takeFrom_47 : decode cX6_takeFrom 47 = .ok (.iastore, 1) := by decide +kernel
theorem dX6_takeFrom_48 : decode cX6_takeFrom 48 = .ok (.aload_n 0, 1) := by decide +kernel
theorem dX6_takeFrom_49 : decode cX6_takeFrom 49 = .ok (.getfield 9, 3) := by decide +kernel
theorem dX6_takeFrom_52 : decode cX6_takeFrom 52 = .ok (.iconst 1, 1) := by decide +kernel
theorem dX6_takeFrom_53 : decode cX6_takeFrom 53 = .ok (.aload_n 1, 1) := by decide +kernel
theorem dX6_takeFrom_54 : decode cX6_takeFrom 54 = .ok (.getfield 9, 3) := by decide +kernel
theorem dX6_takeFrom_57 : decode cX6_takeFrom 57 = .ok (.iconst 1, 1) := by decide +kernel
theorem dX6_takeFrom_58 : decode cX6_takeFrom 58 = .ok (.iaload, 1) := by decide +kernel
theorem dX6_takeFrom_59 : decode cX6_takeFrom 59 = .ok (.iastore, 1) := by decide +kernel
theorem dX6_takeFrom_60 : decode cX6_takeFrom 60 = .ok (.return_, 1) := by decide +kernel
theorem dX6_add_0 : decode cX6_add 0 = .ok (.aload_n 0, 1) := by decide +kernel
theorem dX6_add_1 : decode cX6_add 1 = .ok (.getfield 21, 3) := by decide +kernel
theorem dX6_add_4 : decode cX6_add 4 = .ok (.bipush 6, 2) := by decide +kernel
theorem dX6_add_6 : decode cX6_add 6 = .ok (.if_icmp .lt 5, 3) := by decide +kernel
theorem dX6_add_9 : decode cX6_add 9 = .ok (.iconst (-1), 1) := by decide +kernel
theorem dX6_add_10 : decode cX6_add 10 = .ok (.ireturn, 1) := by decide +kernel
theorem dX6_add_11 : decode cX6_add 11 = .ok (.aload_n 0, 1) := by decide +kernel
theorem dX6_add_12 : decode cX6_add 12 = .ok (.getfield 17, 3) := by decide +kernel
theorem dX6_add_15 : decode cX6_add 15 = .ok (.aload_n 0, 1) := by decide +kernel
theorem dX6_add_16 : decode cX6_add 16 = .ok (.getfield 21, 3) := by decide +kernel
theorem dX6_add_19 : decode cX6_add 19 = .ok (.new 15, 3) := by decide +kernel
theorem dX6_add_22 : decode cX6_add 22 = .ok (.dup, 1) := by decide +kernel
theorem dX6_add_23 : decode cX6_add 23 = .ok (.aload_n 1, 1) := by decide +kernel
theorem dX6_add_24 : decode cX6_add 24 = .ok (.invokespecial 25, 3) := by decide +kernel
theorem dX6_add_27 : decode cX6_add 27 = .ok (.aastore, 1) := by decide +kernel
theorem dX6_add_28 : decode cX6_add 28 = .ok (.aload_n 0, 1) := by decide +kernel
theorem dX6_add_29 : decode cX6_add 29 = .ok (.dup, 1) := by decide +kernel
theorem dX6_add_30 : decode cX6_add 30 = .ok (.getfield 21, 3) := by decide +kernel
theorem dX6_add_33 : decode cX6_add 33 = .ok (.dup_x1, 1) := by decide +kernel
theorem dX6_add_34 : decode cX6_add 34 = .ok (.iconst 1, 1) := by decide +kernel
theorem dX6_add_35 : decode cX6_add 35 = .ok (.iadd, 1) := by decide +kernel
theorem dX6_add_36 : decode cX6_add 36 = .ok (.putfield 21, 3) := by decide +kernel
theorem dX6_add_39 : decode cX6_add 39 = .ok (.ireturn, 1) := by decide +kernel
theorem dX6_styleOf_0 : decode cX6_styleOf 0 = .ok (.aload_n 0, 1) := by decide +kernel
theorem dX6_styleOf_1 : decode cX6_styleOf 1 = .ok (.getfield 9, 3) := by decide +kernel
theorem dX6_styleOf_4 : decode cX6_styleOf 4 = .ok (.iload_n 1, 1) := by decide +kernel
theorem dX6_styleOf_5 : decode cX6_styleOf 5 = .ok (.iaload, 1) := by decide +kernel
theorem dX6_styleOf_6 : decode cX6_styleOf 6 = .ok (.istore_n 3, 1) := by decide +kernel
theorem dX6_styleOf_7 : decode cX6_styleOf 7 = .ok (.iload_n 3, 1) := by decide +kernel
theorem dX6_styleOf_8 : decode cX6_styleOf 8 = .ok (.ifCond .lt 20, 3) := by decide +kernel
theorem dX6_styleOf_11 : decode cX6_styleOf 11 = .ok (.iload_n 3, 1) := by decide +kernel
theorem dX6_styleOf_12 : decode cX6_styleOf 12 = .ok (.aload_n 0, 1) := by decide +kernel
theorem dX6_styleOf_13 : decode cX6_styleOf 13 = .ok (.getfield 21, 3) := by decide +kernel
theorem dX6_styleOf_16 : decode cX6_styleOf 16 = .ok (.if_icmp .ge 12, 3) := by decide +kernel
theorem dX6_styleOf_19 : decode cX6_styleOf 19 = .ok (.aload_n 0, 1) := by decide +kernel
theorem dX6_styleOf_20 : decode cX6_styleOf 20 = .ok (.getfield 17, 3) := by decide +kernel
theorem dX6_styleOf_23 : decode cX6_styleOf 23 = .ok (.iload_n 3, 1) := by decide +kernel
theorem dX6_styleOf_24 : decode cX6_styleOf 24 = .ok (.aaload, 1) := by decide +kernel
theorem dX6_styleOf_25 : decode cX6_styleOf 25 = .ok (.ifnonnull 5, 3) := by decide +kernel
theorem dX6_styleOf_28 : decode cX6_styleOf 28 = .ok (.iconst 0, 1) := by decide +kernel
theorem dX6_styleOf_29 : decode cX6_styleOf 29 = .ok (.ireturn, 1) := by decide +kernel
theorem dX6_styleOf_30 : decode cX6_styleOf 30 = .ok (.aload_n 0, 1) := by decide +kernel
theorem dX6_styleOf_31 : decode cX6_styleOf 31 = .ok (.getfield 17, 3) := by decide +kernel
theorem dX6_styleOf_34 : decode cX6_styleOf 34 = .ok (.iload_n 3, 1) := by decide +kernel
theorem dX6_styleOf_35 : decode cX6_styleOf 35 = .ok (.aaload, 1) := by decide +kernel
theorem dX6_styleOf_36 : decode cX6_styleOf 36 = .ok (.iload_n 1, 1) := by decide +kernel
theorem dX6_styleOf_37 : decode cX6_styleOf 37 = .ok (.aload_n 2, 1) := by decide +kernel
theorem dX6_styleOf_38 : decode cX6_styleOf 38 = .ok (.invokevirtual 28, 3) := by decide +kernel
theorem dX6_styleOf_41 : decode cX6_styleOf 41 = .ok (.ireturn, 1) := by decide +kernel
theorem dX7_init_0 : decode cX7_init 0 = .ok (.aload_n 0, 1) := by decide +kernel
theorem dX7_init_1 : decode cX7_init 1 = .ok (.invokespecial 5, 3) := by decide +kernel
theorem dX7_init_4 : decode cX7_init 4 = .ok (.aload_n 0, 1) := by decide +kernel
theorem dX7_init_5 : decode cX7_init 5 = .ok (.sipush 401, 3) := by decide +kernel
theorem dX7_init_8 : decode cX7_init 8 = .ok (.newarray .int, 2) := by decide +kernel
theorem dX7_init_10 : decode cX7_init 10 = .ok (.putfield 11, 3) := by decide +kernel
theorem dX7_init_13 : decode cX7_init 13 = .ok (.aload_n 0, 1) := by decide +kernel
theorem dX7_init_14 : decode cX7_init 14 = .ok (.sipush 401, 3) := by decide +kernel
theorem dX7_init_17 : decode cX7_init 17 = .ok (.newarray .int, 2) := by decide +kernel
theorem dX7_init_19 : decode cX7_init 19 = .ok (.putfield 15, 3) := by decide +kernel
theorem dX7_init_22 : decode cX7_init 22 = .ok (.aload_n 0, 1) := by decide +kernel
theorem dX7_init_23 : decode cX7_init 23 = .ok (.sipush 401, 3) := by decide +kernel
theorem dX7_init_26 : decode cX7_init 26 = .ok (.newarray .int, 2) := by decide +kernel
theorem dX7_init_28 : decode cX7_init 28 = .ok (.putfield 18, 3) := by decide +kernel
theorem dX7_init_31 : decode cX7_init 31 = .ok (.return_, 1) := by decide +kernel
theorem dX7_scan_0 : decode cX7_scan 0 = .ok (.aload_n 0, 1) := by decide +kernel
theorem dX7_scan_1 : decode cX7_scan 1 = .ok (.aload_n 1, 1) := by decide +kernel
theorem dX7_scan_2 : decode cX7_scan 2 = .ok (.putfield 21, 3) := by decide +kernel
theorem dX7_scan_5 : decode cX7_scan 5 = .ok (.aload_n 0, 1) := by decide +kernel
theorem dX7_scan_6 : decode cX7_scan 6 = .ok (.iload_n 2, 1) := by decide +kernel
theorem dX7_scan_7 : decode cX7_scan 7 = .ok (.aload_n 1, 1) := by decide +kernel
theorem dX7_scan_8 : decode cX7_scan 8 = .ok (.arraylength, 1) := by decide +kernel
theorem dX7_scan_9 : decode cX7_scan 9 = .ok (.sipush 400, 3) := by decide +kernel
theorem dX7_scan_12 : decode cX7_scan 12 = .ok (.invokestatic 25, 3) := by decide +kernel
theorem dX7_scan_15 : decode cX7_scan 15 = .ok (.invokestatic 25, 3) := by decide +kernel
theorem dX7_scan_18 : decode cX7_scan 18 = .ok (.putfield 31, 3) := by decide +kernel
theorem dX7_scan_21 : decode cX7_scan 21 = .ok (.aload_n 0, 1) := by decide +kernel
theorem dX7_scan_22 : decode cX7_scan 22 = .ok (.iconst 0, 1) := by decide +kernel
theorem dX7_scan_23 : decode cX7_scan 23 = .ok (.putfield 35, 3) := by decide +kernel
theorem dX7_scan_26 : decode cX7_scan 26 = .ok (.aload_n 0, 1) := by decide +kernel
theorem dX7_scan_27 : decode cX7_scan 27 = .ok (.iconst 0, 1) := by decide +kernel
theorem dX7_scan_28 : decode cX7_scan 28 = .ok (.putfield 38, 3) := by decide +kernel
theorem dX7_scan_31 : decode cX7_scan 31 = .ok (.iconst 0, 1) := by decide +kernel
theorem dX7_scan_32 : decode cX7_scan 32 = .ok (.istore_n 3, 1) := by decide +kernel
theorem dX7_scan_33 : decode cX7_scan 33 = .ok (.iconst 0, 1) := by decide +kernel
theorem dX7_scan_34 : decode cX7_scan 34 = .ok (.istore 4, 2) := by decide +kernel
theorem dX7_scan_36 : decode cX7_scan 36 = .ok (.iload 4, 2) := by decide +kernel
theorem dX7_scan_38 : decode cX7_scan 38 = .ok (.sipush 400, 3) := by decide +kernel
theorem dX7_scan_41 : decode cX7_scan 41 = .ok (.if_icmp .ge 40, 3) := by decide +kernel
theorem dX7_scan_44 : decode cX7_scan 44 = .ok (.iload_n 3, 1) := by decide +kernel
theorem dX7_scan_45 : decode cX7_scan 45 = .ok (.aload_n 0, 1) := by decide +kernel
theorem dX7_scan_46 : decode cX7_scan 46 = .ok (.getfield 31, 3) := by decide +kernel
theorem dX7_scan_49 : decode cX7_scan 49 = .ok (.if_icmp .ge 32, 3) := by decide +kernel
theorem dX7_scan_52 : decode cX7_scan 52 = .ok (.aload_n 0, 1) := by decide +kernel
theorem dX7_scan_53 : decode cX7_scan 53 = .ok (.getfield 21, 3) := by decide +kernel
theorem dX7_scan_56 : decode cX7_scan 56 = .ok (.iload_n 3, 1) := by decide +kernel
theorem dX7_scan_57 : decode cX7_scan 57 = .ok (.baload, 1) := by decide +kernel
theorem dX7_scan_58 : decode cX7_scan 58 = .ok (.bipush 32, 2) := by decide +kernel
theorem dX7_scan_60 : decode cX7_scan 60 = .ok (.if_icmp .ne 9, 3) := by decide +kernel
theorem dX7_scan_63 : decode cX7_scan 63 = .ok (.iload_n 3, 1) := by decide +kernel
theorem dX7_scan_64 : decode cX7_scan 64 = .ok (.iconst 1, 1) := by decide +kernel
theorem dX7_scan_65 : decode cX7_scan 65 = .ok (.iadd, 1) := by decide +kernel
theorem dX7_scan_66 : decode cX7_scan 66 = .ok (.goto 8, 3) := by decide +kernel
theorem dX7_scan_69 : decode cX7_scan 69 = .ok (.aload_n 0, 1) := by decide +kernel
theorem dX7_scan_70 : decode cX7_scan 70 = .ok (.iload_n 3, 1) := by decide +kernel
theorem dX7_scan_71 : decode cX7_scan 71 = .ok (.invokevirtual 41, 3) := by decide +kernel
theorem dX7_scan_74 : decode cX7_scan 74 = .ok (.istore_n 3, 1) := by decide +kernel
theorem dX7_scan_75 : decode cX7_scan 75 = .ok (.iinc 4 1, 3) := by decide +kernel
theorem dX7_scan_78 : decode cX7_scan 78 = .ok (.goto (-42), 3) := by decide +kernel
theorem dX7_scan_81 : decode cX7_scan 81 = .ok (.aload_n 0, 1) := by decide +kernel
theorem dX7_scan_82 : decode cX7_scan 82 = .ok (.getfield 11, 3) := by decide +kernel
theorem dX7_scan_85 : decode cX7_scan 85 = .ok (.aload_n 0, 1) := by decide +kernel
theorem dX7_scan_86 : decode cX7_scan 86 = .ok (.getfield 35, 3) := by decide +kernel
theorem dX7_scan_89 : decode cX7_scan 89 = .ok (.iconst 0, 1) := by decide +kernel
theorem dX7_scan_90 : decode cX7_scan 90 = .ok (.iastore, 1) := by decide +kernel
theorem dX7_scan_91 : decode cX7_scan 91 = .ok (.aload_n 0, 1) := by decide +kernel
theorem dX7_scan_92 : decode cX7_scan 92 = .ok (.getfield 15, 3) := by decide +kernel
theorem dX7_scan_95 : decode cX7_scan 95 = .ok (.aload_n 0, 1) := by decide +kernel
theorem dX7_scan_96 : decode cX7_scan 96 = .ok (.getfield 35, 3) := by decide +kernel
theorem dX7_scan_99 : decode cX7_scan 99 = .ok (.aload_n 0, 1) := by decide +kernel
theorem dX7_scan_100 : decode cX7_scan 100 = .ok (.getfield 31, 3) := by decide +kernel
theorem dX7_scan_103 : decode cX7_scan 103 = .ok (.iastore, 1) := by decide +kernel
theorem dX7_scan_104 : decode cX7_scan 104 = .ok (.return_, 1) := by decide +kernel
theorem dX7_scanThing_0 : decode cX7_scanThing 0 = .ok (.iload_n 1, 1) := by decide +kernel
theorem dX7_scanThing_1 : decode cX7_scanThing 1 = .ok (.iconst 1, 1) := by decide +kernel
theorem dX7_scanThing_2 : decode cX7_scanThing 2 = .ok (.iadd, 1) := by decide +kernel
theorem dX7_scanThing_3 : decode cX7_scanThing 3 = .ok (.istore_n 2, 1) := by decide +kernel
theorem dX7_scanThing_4 : decode cX7_scanThing 4 = .ok (.aload_n 0, 1) := by decide +kernel
theorem dX7_scanThing_5 : decode cX7_scanThing 5 = .ok (.getfield 15, 3) := by decide +kernel
theorem dX7_scanThing_8 : decode cX7_scanThing 8 = .ok (.aload_n 0, 1) := by decide +kernel
theorem dX7_scanThing_9 : decode cX7_scanThing 9 = .ok (.getfield 35, 3) := by decide +kernel
theorem dX7_scanThing_12 : decode cX7_scanThing 12 = .ok (.iload_n 1, 1) := by decide +kernel
theorem dX7_scanThing_13 : decode cX7_scanThing 13 = .ok (.iastore, 1) := by decide +kernel
theorem dX7_scanThing_14 : decode cX7_scanThing 14 = .ok (.aload_n 0, 1) := by decide +kernel
theorem dX7_scanThing_15 : decode cX7_scanThing 15 = .ok (.getfield 21, 3) := by decide +kernel
theorem dX7_scanThing_18 : decode cX7_scanThing 18 = .ok (.iload_n 1, 1) := by decide +kernel
theorem dX7_scanThing_19 : decode cX7_scanThing 19 = .ok (.baload, 1) := by decide +kernel
theorem dX7_scanThing_20 : decode cX7_scanThing 20 = .ok (.invokestatic 45, 3) := by decide +kernel
theorem dX7_scanThing_23 : decode cX7_scanThing 23 = .ok (.ifCond .eq 47, 3) := by decide +kernel
theorem dX7_scanThing_26 : decode cX7_scanThing 26 = .ok (.iload_n 2, 1) := by decide +kernel
theorem dX7_scanThing_27 : decode cX7_scanThing 27 = .ok (.aload_n 0, 1) := by decide +kernel
theorem dX7_scanThing_28 : decode cX7_scanThing 28 = .ok (.getfield 31, 3) := by decide +kernel
theorem dX7_scanThing_31 : decode cX7_scanThing 31 = .ok (.if_icmp .ge 21, 3) := by decide +kernel
theorem dX7_scanThing_34 : decode cX7_scanThing 34 = .ok (.aload_n 0, 1) := by decide +kernel
theorem dX7_scanThing_35 : decode cX7_scanThing 35 = .ok (.getfield 21, 3) := by decide +kernel
theorem dX7_scanThing_38 : decode cX7_scanThing 38 = .ok (.iload_n 2, 1) := by decide +kernel
theorem dX7_scanThing_39 : decode cX7_scanThing 39 = .ok (.baload, 1) := by decide +kernel
theorem dX7_scanThing_40 : decode cX7_scanThing 40 = .ok (.invokestatic 45, 3) := by decide +kernel
theorem dX7_scanThing_43 : decode cX7_scanThing 43 = .ok (.ifCond .eq 9, 3) := by decide +kernel
theorem dX7_scanThing_46 : decode cX7_scanThing 46 = .ok (.iinc 2 1, 3) := by decide +kernel
theorem dX7_scanThing_49 : decode cX7_scanThing 49 = .ok (.goto (-23), 3) := by decide +kernel
theorem dX7_scanThing_52 : decode cX7_scanThing 52 = .ok (.aload_n 0, 1) := by decide +kernel
theorem dX7_scanThing_53 : decode cX7_scanThing 53 = .ok (.getfield 11, 3) := by decide +kernel
theorem dX7_scanThing_56 : decode cX7_scanThing 56 = .ok (.aload_n 0, 1) := by decide +kernel
theorem dX7_scanThing_57 : decode cX7_scanThing 57 = .ok (.getfield 35, 3) := by decide +kernel
theorem dX7_scanThing_60 : decode cX7_scanThing 60 = .ok (.aload_n 0, 1) := by decide +kernel
theorem dX7_scanThing_61 : decode cX7_scanThing 61 = .ok (.iload_n 1, 1) := by decide +kernel
theorem dX7_scanThing_62 : decode cX7_scanThing 62 = .ok (.iload_n 2, 1) := by decide +kernel
theorem dX7_scanThing_63 : decode cX7_scanThing 63 = .ok (.invokevirtual 49, 3) := by decide +kernel
theorem dX7_scanThing_66 : decode cX7_scanThing 66 = .ok (.iastore, 1) := by decide +kernel
theorem dX7_scanThing_67 : decode cX7_scanThing 67 = .ok (.goto 91, 3) := by decide +kernel
theorem dX7_scanThing_70 : decode cX7_scanThing 70 = .ok (.aload_n 0, 1) := by decide +kernel
theorem dX7_scanThing_71 : decode cX7_scanThing 71 = .ok (.getfield 21, 3) := by decide +kernel
theorem dX7_scanThing_74 : decode cX7_scanThing 74 = .ok (.iload_n 1, 1) := by decide +kernel
theorem dX7_scanThing_75 : decode cX7_scanThing 75 = .ok (.baload, 1) := by decide +kernel
theorem dX7_scanThing_76 : decode cX7_scanThing 76 = .ok (.invokestatic 52, 3) := by decide +kernel
theorem dX7_scanThing_79 : decode cX7_scanThing 79 = .ok (.ifCond .eq 57, 3) := by decide +kernel
theorem dX7_scanThing_82 : decode cX7_scanThing 82 = .ok (.iload_n 2, 1) := by decide +kernel
theorem dX7_scanThing_83 : decode cX7_scanThing 83 = .ok (.aload_n 0, 1) := by decide +kernel
theorem dX7_scanThing_84 : decode cX7_scanThing 84 = .ok (.getfield 31, 3) := by decide +kernel
theorem dX7_scanThing_87 : decode cX7_scanThing 87 = .ok (.if_icmp .ge 21, 3) := by decide +kernel
theorem dX7_scanThing_90 : decode cX7_scanThing 90 = .ok (.aload_n 0, 1) := by decide +kernel
theorem dX7_scanThing_91 : decode cX7_scanThing 91 = .ok (.getfield 21, 3) := by decide +kernel
theorem dX7_scanThing_94 : decode cX7_scanThing 94 = .ok (.iload_n 2, 1) := by decide +kernel
theorem dX7_scanThing_95 : decode cX7_scanThing 95 = .ok (.baload, 1) := by decide +kernel
theorem dX7_scanThing_96 : decode cX7_scanThing 96 = .ok (.invokestatic 52, 3) := by decide +kernel
theorem dX7_scanThing_99 : decode cX7_scanThing 99 = .ok (.ifCond .eq 9, 3) := by decide +kernel
theorem dX7_scanThing_102 : decode cX7_scanThing 102 = .ok (.iinc 2 1, 3) := by decide +kernel
theorem dX7_scanThing_105 : decode cX7_scanThing 105 = .ok (.goto (-23), 3) := by decide +kernel
theorem dX7_scanThing_108 : decode cX7_scanThing 108 = .ok (.aload_n 0, 1) := by decide +kernel
theorem dX7_scanThing_109 : decode cX7_scanThing 109 = .ok (.getfield 11, 3) := by decide +kernel
theorem dX7_scanThing_112 : decode cX7_scanThing 112 = .ok (.aload_n 0, 1) := by decide +kernel
theorem dX7_scanThing_113 : decode cX7_scanThing 113 = .ok (.getfield 35, 3) := by decide +kernel
theorem dX7_scanThing_116 : decode cX7_scanThing 116 = .ok (.iconst 1, 1) := by decide +kernel
theorem dX7_scanThing_117 : decode cX7_scanThing 117 = .ok (.iastore, 1) := by decide +kernel
theorem dX7_scanThing_118 : decode cX7_scanThing 118 = .ok (.aload_n 0, 1) := by decide +kernel
theorem dX7_scanThing_119 : decode cX7_scanThing 119 = .ok (.getfield 18, 3) := by decide +kernel
theorem dX7_scanThing_122 : decode cX7_scanThing 122 = .ok (.aload_n 0, 1) := by decide +kernel
theorem dX7_scanThing_123 : decode cX7_scanThing 123 = .ok (.getfield 35, 3) := by decide +kernel
theorem dX7_scanThing_126 : decode cX7_scanThing 126 = .ok (.aload_n 0, 1) := by decide +kernel
theorem dX7_scanThing_127 : decode cX7_scanThing 127 = .ok (.iload_n 1, 1) := by decide +kernel
theorem dX7_scanThing_128 : decode cX7_scanThing 128 = .ok (.iload_n 2, 1) := by decide +kernel
theorem dX7_scanThing_129 : decode cX7_scanThing 129 = .ok (.invokevirtual 55, 3) := by decide +kernel
theorem dX7_scanThing_132 : decode cX7_scanThing 132 = .ok (.iastore, 1) := by decide +kernel
theorem dX7_scanThing_133 : decode cX7_scanThing 133 = .ok (.goto 25, 3) := by decide +kernel
theorem dX7_scanThing_136 : decode cX7_scanThing 136 = .ok (.aload_n 0, 1) := by decide +kernel
theorem dX7_scanThing_137 : decode cX7_scanThing 137 = .ok (.getfield 11, 3) := by decide +kernel
theorem dX7_scanThing_140 : decode cX7_scanThing 140 = .ok (.aload_n 0, 1) := by decide +kernel
theorem dX7_scanThing_141 : decode cX7_scanThing 141 = .ok (.getfield 35, 3) := by decide +kernel
theorem dX7_scanThing_144 : decode cX7_scanThing 144 = .ok (.bipush 100, 2) := by decide +kernel
theorem dX7_scanThing_146 : decode cX7_scanThing 146 = .ok (.aload_n 0, 1) := by decide +kernel
theorem dX7_scanThing_147 : decode cX7_scanThing 147 = .ok (.getfield 21, 3) := by decide +kernel
theorem dX7_scanThing_150 : decode cX7_scanThing 150 = .ok (.iload_n 1, 1) := by decide +kernel
theorem dX7_scanThing_151 : decode cX7_scanThing 151 = .ok (.baload, 1) := by decide +kernel
theorem dX7_scanThing_152 : decode cX7_scanThing 152 = .ok (.sipush 255, 3) := by decide +kernel
theorem dX7_scanThing_155 : decode cX7_scanThing 155 = .ok (.iand, 1) := by decide +kernel
theorem dX7_scanThing_156 : decode cX7_scanThing 156 = .ok (.iadd, 1) := by decide +kernel
theorem dX7_scanThing_157 : decode cX7_scanThing 157 = .ok (.iastore, 1) := by decide +kernel
theorem dX7_scanThing_158 : decode cX7_scanThing 158 = .ok (.aload_n 0, 1) := by decide +kernel
theorem dX7_scanThing_159 : decode cX7_scanThing 159 = .ok (.dup, 1) := by decide +kernel
theorem dX7_scanThing_160 : decode cX7_scanThing 160 = .ok (.getfield 35, 3) := by decide +kernel
theorem dX7_scanThing_163 : decode cX7_scanThing 163 = .ok (.iconst 1, 1) := by decide +kernel
theorem dX7_scanThing_164 : decode cX7_scanThing 164 = .ok (.iadd, 1) := by decide +kernel
theorem dX7_scanThing_165 : decode cX7_scanThing 165 = .ok (.putfield 35, 3) := by decide +kernel
theorem dX7_scanThing_168 : decode cX7_scanThing 168 = .ok (.iload_n 2, 1) := by decide +kernel
theorem dX7_scanThing_169 : decode cX7_scanThing 169 = .ok (.ireturn, 1) := by decide +kernel
theorem dX7_isLetter_0 : decode cX7_isLetter 0 = .ok (.iload_n 0, 1) := by decide +kernel
theorem dX7_isLetter_1 : decode cX7_isLetter 1 = .ok (.bipush 97, 2) := by decide +kernel
theorem dX7_isLetter_3 : decode cX7_isLetter 3 = .ok (.if_icmp .lt 13, 3) := by decide +kernel
theorem dX7_isLetter_6 : decode cX7_isLetter 6 = .ok (.iload_n 0, 1) := by decide +kernel
theorem dX7_isLetter_7 : decode cX7_isLetter 7 = .ok (.bipush 122, 2) := by decide +kernel
theorem dX7_isLetter_9 : decode cX7_isLetter 9 = .ok (.if_icmp .gt 7, 3) := by decide +kernel
theorem dX7_isLetter_12 : decode cX7_isLetter 12 = .ok (.iconst 1, 1) := by decide +kernel
theorem dX7_isLetter_13 : decode cX7_isLetter 13 = .ok (.goto 4, 3) := by decide +kernel
theorem dX7_isLetter_16 : decode cX7_isLetter 16 = .ok (.iconst 0, 1) := by decide +kernel
theorem dX7_isLetter_17 : decode cX7_isLetter 17 = .ok (.ireturn, 1) := by decide +kernel
theorem dX7_isDigit_0 : decode cX7_isDigit 0 = .ok (.iload_n 0, 1) := by decide +kernel
theorem dX7_isDigit_1 : decode cX7_isDigit 1 = .ok (.bipush 48, 2) := by decide +kernel
theorem dX7_isDigit_3 : decode cX7_isDigit 3 = .ok (.if_icmp .lt 13, 3) := by decide +kernel
theorem dX7_isDigit_6 : decode cX7_isDigit 6 = .ok (.iload_n 0, 1) := by decide +kernel
theorem dX7_isDigit_7 : decode cX7_isDigit 7 = .ok (.bipush 57, 2) := by decide +kernel
theorem dX7_isDigit_9 : decode cX7_isDigit 9 = .ok (.if_icmp .gt 7, 3) := by decide +kernel
theorem dX7_isDigit_12 : decode cX7_isDigit 12 = .ok (.iconst 1, 1) := by decide +kernel
theorem dX7_isDigit_13 : decode cX7_isDigit 13 = .ok (.goto 4, 3) := by decide +kernel
theorem dX7_isDigit_16 : decode cX7_isDigit 16 = .ok (.iconst 0, 1) := by decide +kernel
theorem dX7_isDigit_17 : decode cX7_isDigit 17 = .ok (.ireturn, 1) := by decide +kernel
theorem dX7_numberAt_0 : decode cX7_numberAt 0 = .ok (.iload_n 2, 1) := by decide +kernel
theorem dX7_numberAt_1 : decode cX7_numberAt 1 = .ok (.iload_n 1, 1) := by decide +kernel
theorem dX7_numberAt_2 : decode cX7_numberAt 2 = .ok (.isub, 1) := by decide +kernel
theorem dX7_numberAt_3 : decode cX7_numberAt 3 = .ok (.iconst 3, 1) := by decide +kernel
theorem dX7_numberAt_4 : decode cX7_numberAt 4 = .ok (.if_icmp .le 7, 3) := by decide +kernel
theorem dX7_numberAt_7 : decode cX7_numberAt 7 = .ok (.sipush 1000, 3) := by decide +kernel
theorem dX7_numberAt_10 : decode cX7_numberAt 10 = .ok (.ireturn, 1) := by decide +kernel
theorem dX7_numberAt_11 : decode cX7_numberAt 11 = .ok (.iconst 0, 1) := by decide +kernel
theorem dX7_numberAt_12 : decode cX7_numberAt 12 = .ok (.istore_n 3, 1) := by decide +kernel
theorem dX7_numberAt_13 : decode cX7_numberAt 13 = .ok (.iload_n 1, 1) := by decide +kernel
theorem dX7_numberAt_14 : decode cX7_numberAt 14 = .ok (.istore 4, 2) := by decide +kernel
theorem dX7_numberAt_16 : decode cX7_numberAt 16 = .ok (.iload 4, 2) := by decide +kernel
theorem dX7_numberAt_18 : decode cX7_numberAt 18 = .ok (.iload_n 2, 1) := by decide +kernel
theorem dX7_numberAt_19 : decode cX7_numberAt 19 = .ok (.if_icmp .ge 25, 3) := by decide +kernel
theorem dX7_numberAt_22 : decode cX7_numberAt 22 = .ok (.iload_n 3, 1) := by decide +kernel
theorem dX7_numberAt_23 : decode cX7_numberAt 23 = .ok (.bipush 10, 2) := by decide +kernel
theorem dX7_numberAt_25 : decode cX7_numberAt 25 = .ok (.imul, 1) := by decide +kernel
theorem dX7_numberAt_26 : decode cX7_numberAt 26 = .ok (.aload_n 0, 1) := by decide +kernel
theorem dX7_numberAt_27 : decode cX7_numberAt 27 = .ok (.getfield 21, 3) := by decide +kernel
theorem dX7_numberAt_30 : decode cX7_numberAt 30 = .ok (.iload 4, 2) := by decide +kernel
theorem dX7_numberAt_32 : decode cX7_numberAt 32 = .ok (.baload, 1) := by decide +kernel
theorem dX7_numberAt_33 : decode cX7_numberAt 33 = .ok (.iadd, 1) := by decide +kernel
theorem dX7_numberAt_34 : decode cX7_numberAt 34 = .ok (.bipush 48, 2) := by decide +kernel
theorem dX7_numberAt_36 : decode cX7_numberAt 36 = .ok (.isub, 1) := by decide +kernel
theorem dX7_numberAt_37 : decode cX7_numberAt 37 = .ok (.istore_n 3, 1) := by decide +kernel
theorem dX7_numberAt_38 : decode cX7_numberAt 38 = .ok (.iinc 4 1, 3) := by decide +kernel
theorem dX7_numberAt_41 : decode cX7_numberAt 41 = .ok (.goto (-25), 3) := by decide +kernel
theorem dX7_numberAt_44 : decode cX7_numberAt 44 = .ok (.iload_n 3, 1) := by decide +kernel
theorem dX7_numberAt_45 : decode cX7_numberAt 45 = .ok (.ireturn, 1) := by decide +kernel
theorem dX7_wordAt_0 : decode cX7_wordAt 0 = .ok (.aload_n 0, 1) := by decide +kernel
theorem dX7_wordAt_1 : decode cX7_wordAt 1 = .ok (.iload_n 1, 1) := by decide +kernel
theorem dX7_wordAt_2 : decode cX7_wordAt 2 = .ok (.iload_n 2, 1) := by decide +kernel
theorem dX7_wordAt_3 : decode cX7_wordAt 3 = .ok (.invokevirtual 58, 3) := by decide +kernel
theorem dX7_wordAt_6 : decode cX7_wordAt 6 = .ok (.istore_n 3, 1) := by decide +kernel
theorem dX7_wordAt_7 : decode cX7_wordAt 7 = .ok (.iload_n 3, 1) := by decide +kernel
theorem dX7_wordAt_8 : decode cX7_wordAt 8 = .ok (.bipush 20, 2) := by decide +kernel
theorem dX7_wordAt_10 : decode cX7_wordAt 10 = .ok (.if_icmp .eq 7, 3) := by decide +kernel
theorem dX7_wordAt_13 : decode cX7_wordAt 13 = .ok (.iload_n 3, 1) := by decide +kernel
theorem dX7_wordAt_14 : decode cX7_wordAt 14 = .ok (.goto 9, 3) := by decide +kernel
theorem dX7_wordAt_17 : decode cX7_wordAt 17 = .ok (.aload_n 0, 1) := by decide +kernel
theorem dX7_wordAt_18 : decode cX7_wordAt 18 = .ok (.iload_n 1, 1) := by decide +kernel
theorem dX7_wordAt_19 : decode cX7_wordAt 19 = .ok (.iload_n 2, 1) := by decide +kernel
theorem dX7_wordAt_20 : decode cX7_wordAt 20 = .ok (.invokevirtual 61, 3) := by decide +kernel
theorem dX7_wordAt_23 : decode cX7_wordAt 23 = .ok (.ireturn, 1) := by decide +kernel
theorem dX7_courtWordAt_0 : decode cX7_courtWordAt 0 = .ok (.aload_n 0, 1) := by decide +kernel
theorem dX7_courtWordAt_1 : decode cX7_courtWordAt 1 = .ok (.iload_n 1, 1) := by decide +kernel
theorem dX7_courtWordAt_2 : decode cX7_courtWordAt 2 = .ok (.iload_n 2, 1) := by decide +kernel
theorem dX7_courtWordAt_3 : decode cX7_courtWordAt 3 = .ok (.ldc 64, 2) := by decide +kernel
theorem dX7_courtWordAt_5 : decode cX7_courtWordAt 5 = .ok (.invokevirtual 66, 3) := by decide +kernel
theorem dX7_courtWordAt_8 : decode cX7_courtWordAt 8 = .ok (.ifCond .eq 7, 3) := by decide +kernel
theorem dX7_courtWordAt_11 : decode cX7_courtWordAt 11 = .ok (.iconst 2, 1) := by decide +kernel
theorem dX7_courtWordAt_12 : decode cX7_courtWordAt 12 = .ok (.goto 98, 3) := by decide +kernel
theorem dX7_courtWordAt_15 : decode cX7_courtWordAt 15 = .ok (.aload_n 0, 1) := by decide +kernel
theorem dX7_courtWordAt_16 : decode cX7_courtWordAt 16 = .ok (.iload_n 1, 1) := by decide +kernel
theorem dX7_courtWordAt_17 : decode cX7_courtWordAt 17 = .ok (.iload_n 2, 1) := by decide +kernel
theorem dX7_courtWordAt_18 : decode cX7_courtWordAt 18 = .ok (.ldc 70, 2) := by decide +kernel
theorem dX7_courtWordAt_20 : decode cX7_courtWordAt 20 = .ok (.invokevirtual 66, 3) := by decide +kernel
theorem dX7_courtWordAt_23 : decode cX7_courtWordAt 23 = .ok (.ifCond .eq 7, 3) := by decide +kernel
theorem dX7_courtWordAt_26 : decode cX7_courtWordAt 26 = .ok (.iconst 3, 1) := by decide +kernel
theorem dX7_courtWordAt_27 : decode cX7_courtWordAt 27 = .ok (.goto 83, 3) := by decide +kernel
theorem dX7_courtWordAt_30 : decode cX7_courtWordAt 30 = .ok (.aload_n 0, 1) := by decide +kernel
theorem dX7_courtWordAt_31 : decode cX7_courtWordAt 31 = .ok (.iload_n 1, 1) := by decide +kernel
theorem dX7_courtWordAt_32 : decode cX7_courtWordAt 32 = .ok (.iload_n 2, 1) := by decide +kernel
theorem dX7_courtWordAt_33 : decode cX7_courtWordAt 33 = .ok (.ldc 72, 2) := by decide +kernel
theorem dX7_courtWordAt_35 : decode cX7_courtWordAt 35 = .ok (.invokevirtual 66, 3) := by decide +kernel
theorem dX7_courtWordAt_38 : decode cX7_courtWordAt 38 = .ok (.ifCond .eq 7, 3) := by decide +kernel
theorem dX7_courtWordAt_41 : decode cX7_courtWordAt 41 = .ok (.iconst 4, 1) := by decide +kernel
theorem dX7_courtWordAt_42 : decode cX7_courtWordAt 42 = .ok (.goto 68, 3) := by decide +kernel
theorem dX7_courtWordAt_45 : decode cX7_courtWordAt 45 = .ok (.aload_n 0, 1) := by decide +kernel
theorem dX7_courtWordAt_46 : decode cX7_courtWordAt 46 = .ok (.iload_n 1, 1) := by decide +kernel
theorem dX7_courtWordAt_47 : decode cX7_courtWordAt 47 = .ok (.iload_n 2, 1) := by decide +kernel
theorem dX7_courtWordAt_48 : decode cX7_courtWordAt 48 = .ok (.ldc 74, 2) := by decide +kernel
theorem dX7_courtWordAt_50 : decode cX7_courtWordAt 50 = .ok (.invokevirtual 66, 3) := by decide +kernel
theorem dX7_courtWordAt_53 : decode cX7_courtWordAt 53 = .ok (.ifCond .eq 7, 3) := by decide +kernel
theorem dX7_courtWordAt_56 : decode cX7_courtWordAt 56 = .ok (.iconst 5, 1) := by decide +kernel
theorem dX7_courtWordAt_57 : decode cX7_courtWordAt 57 = .ok (.goto 53, 3) := by decide +kernel
theorem dX7_courtWordAt_60 : decode cX7_courtWordAt 60 = .ok (.aload_n 0, 1) := by decide +kernel
theorem dX7_courtWordAt_61 : decode cX7_courtWordAt 61 = .ok (.iload_n 1, 1) := by decide +kernel
theorem dX7_courtWordAt_62 : decode cX7_courtWordAt 62 = .ok (.iload_n 2, 1) := by decide +kernel
theorem dX7_courtWordAt_63 : decode cX7_courtWordAt 63 = .ok (.ldc 76, 2) := by decide +kernel
theorem dX7_courtWordAt_65 : decode cX7_courtWordAt 65 = .ok (.invokevirtual 66, 3) := by decide +kernel
theorem dX7_courtWordAt_68 : decode cX7_courtWordAt 68 = .ok (.ifCond .eq 8, 3) := by decide +kernel
theorem dX7_courtWordAt_71 : decode cX7_courtWordAt 71 = .ok (.bipush 6, 2) := by decide +kernel
theorem dX7_courtWordAt_73 : decode cX7_courtWordAt 73 = .ok (.goto 37, 3) := by decide +kernel
theorem dX7_courtWordAt_76 : decode cX7_courtWordAt 76 = .ok (.aload_n 0, 1) := by decide +kernel
theorem dX7_courtWordAt_77 : decode cX7_courtWordAt 77 = .ok (.iload_n 1, 1) := by decide +kernel
theorem dX7_courtWordAt_78 : decode cX7_courtWordAt 78 = .ok (.iload_n 2, 1) := by decide +kernel
theorem dX7_courtWordAt_79 : decode cX7_courtWordAt 79 = .ok (.ldc 78, 2) := by decide +kernel
theorem dX7_courtWordAt_81 : decode cX7_courtWordAt 81 = .ok (.invokevirtual 66, 3) := by decide +kernel
theorem dX7_courtWordAt_84 : decode cX7_courtWordAt 84 = .ok (.ifCond .eq 8, 3) := by decide +kernel
theorem dX7_courtWordAt_87 : decode cX7_courtWordAt 87 = .ok (.bipush 7, 2) := by decide +kernel
theorem dX7_courtWordAt_89 : decode cX7_courtWordAt 89 = .ok (.goto 21, 3) := by decide +kernel
theorem dX7_courtWordAt_92 : decode cX7_courtWordAt 92 = .ok (.aload_n 0, 1) := by decide +kernel
theorem dX7_courtWordAt_93 : decode cX7_courtWordAt 93 = .ok (.iload_n 1, 1) := by decide +kernel
theorem dX7_courtWordAt_94 : decode cX7_courtWordAt 94 = .ok (.iload_n 2, 1) := by decide +kernel
theorem dX7_courtWordAt_95 : decode cX7_courtWordAt 95 = .ok (.ldc 80, 2) := by decide +kernel
theorem dX7_courtWordAt_97 : decode cX7_courtWordAt 97 = .ok (.invokevirtual 66, 3) := by decide +kernel
theorem dX7_courtWordAt_100 : decode cX7_courtWordAt 100 = .ok (.ifCond .eq 8, 3) := by decide +kernel
theorem dX7_courtWordAt_103 : decode cX7_courtWordAt 103 = .ok (.bipush 8, 2) := by decide +kernel
theorem dX7_courtWordAt_105 : decode cX7_courtWordAt 105 = .ok (.goto 5, 3) := by decide +kernel
theorem dX7_courtWordAt_108 : decode cX7_courtWordAt 108 = .ok (.bipush 20, 2) := by decide +kernel
theorem dX7_courtWordAt_110 : decode cX7_courtWordAt 110 = .ok (.ireturn, 1) := by decide +kernel
theorem dX7_ruleWordAt_0 : decode cX7_ruleWordAt 0 = .ok (.aload_n 0, 1) := by decide +kernel
theorem dX7_ruleWordAt_1 : decode cX7_ruleWordAt 1 = .ok (.iload_n 1, 1) := by decide +kernel
theorem dX7_ruleWordAt_2 : decode cX7_ruleWordAt 2 = .ok (.iload_n 2, 1) := by decide +kernel
theorem dX7_ruleWordAt_3 : decode cX7_ruleWordAt 3 = .ok (.ldc 82, 2) := by decide +kernel
theorem dX7_ruleWordAt_5 : decode cX7_ruleWordAt 5 = .ok (.invokevirtual 66, 3) := by decide +kernel
theorem dX7_ruleWordAt_8 : decode cX7_ruleWordAt 8 = .ok (.ifCond .eq 8, 3) := by decide +kernel
theorem dX7_ruleWordAt_11 : decode cX7_ruleWordAt 11 = .ok (.bipush 9, 2) := by decide +kernel
theorem dX7_ruleWordAt_13 : decode cX7_ruleWordAt 13 = .ok (.goto 165, 3) := by decide +kernel
theorem dX7_ruleWordAt_16 : decode cX7_ruleWordAt 16 = .ok (.aload_n 0, 1) := by decide +kernel
theorem dX7_ruleWordAt_17 : decode cX7_ruleWordAt 17 = .ok (.iload_n 1, 1) := by decide +kernel
theorem dX7_ruleWordAt_18 : decode cX7_ruleWordAt 18 = .ok (.iload_n 2, 1) := by decide +kernel
theorem dX7_ruleWordAt_19 : decode cX7_ruleWordAt 19 = .ok (.ldc 84, 2) := by decide +kernel
theorem dX7_ruleWordAt_21 : decode cX7_ruleWordAt 21 = .ok (.invokevirtual 66, 3) := by decide +kernel
theorem dX7_ruleWordAt_24 : decode cX7_ruleWordAt 24 = .ok (.ifCond .eq 8, 3) := by decide +kernel
theorem dX7_ruleWordAt_27 : decode cX7_ruleWordAt 27 = .ok (.bipush 10, 2) := by decide +kernel
theorem dX7_ruleWordAt_29 : decode cX7_ruleWordAt 29 = .ok (.goto 149, 3) := by decide +kernel
theorem dX7_ruleWordAt_32 : decode cX7_ruleWordAt 32 = .ok (.aload_n 0, 1) := by decide +kernel
theorem dX7_ruleWordAt_33 : decode cX7_ruleWordAt 33 = .ok (.iload_n 1, 1) := by decide +kernel
theorem dX7_ruleWordAt_34 : decode cX7_ruleWordAt 34 = .ok (.iload_n 2, 1) := by decide +kernel
theorem dX7_ruleWordAt_35 : decode cX7_ruleWordAt 35 = .ok (.ldc 86, 2) := by decide +kernel
theorem dX7_ruleWordAt_37 : decode cX7_ruleWordAt 37 = .ok (.invokevirtual 66, 3) := by decide +kernel
theorem dX7_ruleWordAt_40 : decode cX7_ruleWordAt 40 = .ok (.ifCond .eq 8, 3) := by decide +kernel
theorem dX7_ruleWordAt_43 : decode cX7_ruleWordAt 43 = .ok (.bipush 11, 2) := by decide +kernel
theorem dX7_ruleWordAt_45 : decode cX7_ruleWordAt 45 = .ok (.goto 133, 3) := by decide +kernel
theorem dX7_ruleWordAt_48 : decode cX7_ruleWordAt 48 = .ok (.aload_n 0, 1) := by decide +kernel
theorem dX7_ruleWordAt_49 : decode cX7_ruleWordAt 49 = .ok (.iload_n 1, 1) := by decide +kernel
theorem dX7_ruleWordAt_50 : decode cX7_ruleWordAt 50 = .ok (.iload_n 2, 1) := by decide +kernel
theorem dX7_ruleWordAt_51 : decode cX7_ruleWordAt 51 = .ok (.ldc 88, 2) := by decide +kernel
theorem dX7_ruleWordAt_53 : decode cX7_ruleWordAt 53 = .ok (.invokevirtual 66, 3) := by decide +kernel
theorem dX7_ruleWordAt_56 : decode cX7_ruleWordAt 56 = .ok (.ifCond .eq 8, 3) := by decide +kernel
theorem dX7_ruleWordAt_59 : decode cX7_ruleWordAt 59 = .ok (.bipush 12, 2) := by decide +kernel
theorem dX7_ruleWordAt_61 : decode cX7_ruleWordAt 61 = .ok (.goto 117, 3) := by decide +kernel
theorem dX7_ruleWordAt_64 : decode cX7_ruleWordAt 64 = .ok (.aload_n 0, 1) := by decide +kernel
theorem dX7_ruleWordAt_65 : decode cX7_ruleWordAt 65 = .ok (.iload_n 1, 1) := by decide +kernel
theorem dX7_ruleWordAt_66 : decode cX7_ruleWordAt 66 = .ok (.iload_n 2, 1) := by decide +kernel
theorem dX7_ruleWordAt_67 : decode cX7_ruleWordAt 67 = .ok (.ldc 90, 2) := by decide +kernel
theorem dX7_ruleWordAt_69 : decode cX7_ruleWordAt 69 = .ok (.invokevirtual 66, 3) := by decide +kernel
theorem dX7_ruleWordAt_72 : decode cX7_ruleWordAt 72 = .ok (.ifCond .eq 8, 3) := by decide +kernel
theorem dX7_ruleWordAt_75 : decode cX7_ruleWordAt 75 = .ok (.bipush 13, 2) := by decide +kernel
theorem dX7_ruleWordAt_77 : decode cX7_ruleWordAt 77 = .ok (.goto 101, 3) := by decide +kernel
theorem dX7_ruleWordAt_80 : decode cX7_ruleWordAt 80 = .ok (.aload_n 0, 1) := by decide +kernel
theorem dX7_ruleWordAt_81 : decode cX7_ruleWordAt 81 = .ok (.iload_n 1, 1) := by decide +kernel
theorem dX7_ruleWordAt_82 : decode cX7_ruleWordAt 82 = .ok (.iload_n 2, 1) := by decide +kernel
theorem dX7_ruleWordAt_83 : decode cX7_ruleWordAt 83 = .ok (.ldc 92, 2) := by decide +kernel
theorem dX7_ruleWordAt_85 : decode cX7_ruleWordAt 85 = .ok (.invokevirtual 66, 3) := by decide +kernel
theorem dX7_ruleWordAt_88 : decode cX7_ruleWordAt 88 = .ok (.ifCond .eq 8, 3) := by decide +kernel
theorem dX7_ruleWordAt_91 : decode cX7_ruleWordAt 91 = .ok (.bipush 14, 2) := by decide +kernel
theorem dX7_ruleWordAt_93 : decode cX7_ruleWordAt 93 = .ok (.goto 85, 3) := by decide +kernel
theorem dX7_ruleWordAt_96 : decode cX7_ruleWordAt 96 = .ok (.aload_n 0, 1) := by decide +kernel
theorem dX7_ruleWordAt_97 : decode cX7_ruleWordAt 97 = .ok (.iload_n 1, 1) := by decide +kernel
theorem dX7_ruleWordAt_98 : decode cX7_ruleWordAt 98 = .ok (.iload_n 2, 1) := by decide +kernel
theorem dX7_ruleWordAt_99 : decode cX7_ruleWordAt 99 = .ok (.ldc 94, 2) := by decide +kernel
theorem dX7_ruleWordAt_101 : decode cX7_ruleWordAt 101 = .ok (.invokevirtual 66, 3) := by decide +kernel
theorem dX7_ruleWordAt_104 : decode cX7_ruleWordAt 104 = .ok (.ifCond .eq 8, 3) := by decide +kernel
theorem dX7_ruleWordAt_107 : decode cX7_ruleWordAt 107 = .ok (.bipush 15, 2) := by decide +kernel
theorem dX7_ruleWordAt_109 : decode cX7_ruleWordAt 109 = .ok (.goto 69, 3) := by decide +kernel
theorem dX7_ruleWordAt_112 : decode cX7_ruleWordAt 112 = .ok (.aload_n 0, 1) := by decide +kernel
theorem dX7_ruleWordAt_113 : decode cX7_ruleWordAt 113 = .ok (.iload_n 1, 1) := by decide +kernel
theorem dX7_ruleWordAt_114 : decode cX7_ruleWordAt 114 = .ok (.iload_n 2, 1) := by decide +kernel
theorem dX7_ruleWordAt_115 : decode cX7_ruleWordAt 115 = .ok (.ldc 96, 2) := by decide +kernel
theorem dX7_ruleWordAt_117 : decode cX7_ruleWordAt 117 = .ok (.invokevirtual 66, 3) := by decide +kernel
theorem dX7_ruleWordAt_120 : decode cX7_ruleWordAt 120 = .ok (.ifCond .eq 8, 3) := by decide +kernel
theorem dX7_ruleWordAt_123 : decode cX7_ruleWordAt 123 = .ok (.bipush 16, 2) := by decide +kernel
theorem dX7_ruleWordAt_125 : decode cX7_ruleWordAt 125 = .ok (.goto 53, 3) := by decide +kernel
theorem dX7_ruleWordAt_128 : decode cX7_ruleWordAt 128 = .ok (.aload_n 0, 1) := by decide +kernel
theorem dX7_ruleWordAt_129 : decode cX7_ruleWordAt 129 = .ok (.iload_n 1, 1) := by decide +kernel
theorem dX7_ruleWordAt_130 : decode cX7_ruleWordAt 130 = .ok (.iload_n 2, 1) := by decide +kernel
theorem dX7_ruleWordAt_131 : decode cX7_ruleWordAt 131 = .ok (.ldc 98, 2) := by decide +kernel
theorem dX7_ruleWordAt_133 : decode cX7_ruleWordAt 133 = .ok (.invokevirtual 66, 3) := by decide +kernel
theorem dX7_ruleWordAt_136 : decode cX7_ruleWordAt 136 = .ok (.ifCond .eq 8, 3) := by decide +kernel
theorem dX7_ruleWordAt_139 : decode cX7_ruleWordAt 139 = .ok (.bipush 17, 2) := by decide +kernel
theorem dX7_ruleWordAt_141 : decode cX7_ruleWordAt 141 = .ok (.goto 37, 3) := by decide +kernel
theorem dX7_ruleWordAt_144 : decode cX7_ruleWordAt 144 = .ok (.aload_n 0, 1) := by decide +kernel
theorem dX7_ruleWordAt_145 : decode cX7_ruleWordAt 145 = .ok (.iload_n 1, 1) := by decide +kernel
theorem dX7_ruleWordAt_146 : decode cX7_ruleWordAt 146 = .ok (.iload_n 2, 1) := by decide +kernel
theorem dX7_ruleWordAt_147 : decode cX7_ruleWordAt 147 = .ok (.ldc 100, 2) := by decide +kernel
theorem dX7_ruleWordAt_149 : decode cX7_ruleWordAt 149 = .ok (.invokevirtual 66, 3) := by decide +kernel
theorem dX7_ruleWordAt_152 : decode cX7_ruleWordAt 152 = .ok (.ifCond .eq 8, 3) := by decide +kernel
theorem dX7_ruleWordAt_155 : decode cX7_ruleWordAt 155 = .ok (.bipush 18, 2) := by decide +kernel
theorem dX7_ruleWordAt_157 : decode cX7_ruleWordAt 157 = .ok (.goto 21, 3) := by decide +kernel
theorem dX7_ruleWordAt_160 : decode cX7_ruleWordAt 160 = .ok (.aload_n 0, 1) := by decide +kernel
theorem dX7_ruleWordAt_161 : decode cX7_ruleWordAt 161 = .ok (.iload_n 1, 1) := by decide +kernel
theorem dX7_ruleWordAt_162 : decode cX7_ruleWordAt 162 = .ok (.iload_n 2, 1) := by decide +kernel
theorem dX7_ruleWordAt_163 : decode cX7_ruleWordAt 163 = .ok (.ldc 102, 2) := by decide +kernel
theorem dX7_ruleWordAt_165 : decode cX7_ruleWordAt 165 = .ok (.invokevirtual 66, 3) := by decide +kernel
theorem dX7_ruleWordAt_168 : decode cX7_ruleWordAt 168 = .ok (.ifCond .eq 8, 3) := by decide +kernel
theorem dX7_ruleWordAt_171 : decode cX7_ruleWordAt 171 = .ok (.bipush 19, 2) := by decide +kernel
theorem dX7_ruleWordAt_173 : decode cX7_ruleWordAt 173 = .ok (.goto 5, 3) := by decide +kernel
theorem dX7_ruleWordAt_176 : decode cX7_ruleWordAt 176 = .ok (.bipush 20, 2) := by decide +kernel
theorem dX7_ruleWordAt_178 : decode cX7_ruleWordAt 178 = .ok (.ireturn, 1) := by decide +kernel
theorem dX7_spells_0 : decode cX7_spells 0 = .ok (.iload_n 2, 1) := by decide +kernel
theorem dX7_spells_1 : decode cX7_spells 1 = .ok (.iload_n 1, 1) := by decide +kernel
theorem dX7_spells_2 : decode cX7_spells 2 = .ok (.isub, 1) := by decide +kernel
theorem dX7_spells_3 : decode cX7_spells 3 = .ok (.aload_n 3, 1) := by decide +kernel
theorem dX7_spells_4 : decode cX7_spells 4 = .ok (.invokevirtual 104, 3) := by decide +kernel
theorem dX7_spells_7 : decode cX7_spells 7 = .ok (.if_icmp .eq 5, 3) := by decide +kernel
theorem dX7_spells_10 : decode cX7_spells 10 = .ok (.iconst 0, 1) := by decide +kernel
theorem dX7_spells_11 : decode cX7_spells 11 = .ok (.ireturn, 1) := by decide +kernel
theorem dX7_spells_12 : decode cX7_spells 12 = .ok (.iconst 0, 1) := by decide +kernel
theorem dX7_spells_13 : decode cX7_spells 13 = .ok (.istore 4, 2) := by decide +kernel
theorem dX7_spells_15 : decode cX7_spells 15 = .ok (.iload 4, 2) := by decide +kernel
theorem dX7_spells_17 : decode cX7_spells 17 = .ok (.aload_n 3, 1) := by decide +kernel
theorem dX7_spells_18 : decode cX7_spells 18 = .ok (.invokevirtual 104, 3) := by decide +kernel
theorem dX7_spells_21 : decode cX7_spells 21 = .ok (.if_icmp .ge 29, 3) := by decide +kernel
theorem dX7_spells_24 : decode cX7_spells 24 = .ok (.aload_n 0, 1) := by decide +kernel
theorem dX7_spells_25 : decode cX7_spells 25 = .ok (.getfield 21, 3) := by decide +kernel
theorem dX7_spells_28 : decode cX7_spells 28 = .ok (.iload_n 1, 1) := by decide +kernel
theorem dX7_spells_29 : decode cX7_spells 29 = .ok (.iload 4, 2) := by decide +kernel
theorem dX7_spells_31 : decode cX7_spells 31 = .ok (.iadd, 1) := by decide +kernel
theorem dX7_spells_32 : decode cX7_spells 32 = .ok (.baload, 1) := by decide +kernel
theorem dX7_spells_33 : decode cX7_spells 33 = .ok (.aload_n 3, 1) := by decide +kernel
theorem dX7_spells_34 : decode cX7_spells 34 = .ok (.iload 4, 2) := by decide +kernel
theorem dX7_spells_36 : decode cX7_spells 36 = .ok (.invokevirtual 109, 3) := by decide +kernel
theorem dX7_spells_39 : decode cX7_spells 39 = .ok (.if_icmp .eq 5, 3) := by decide +kernel
theorem dX7_spells_42 : decode cX7_spells 42 = .ok (.iconst 0, 1) := by decide +kernel
theorem dX7_spells_43 : decode cX7_spells 43 = .ok (.ireturn, 1) := by decide +kernel
theorem dX7_spells_44 : decode cX7_spells 44 = .ok (.iinc 4 1, 3) := by decide +kernel
theorem dX7_spells_47 : decode cX7_spells 47 = .ok (.goto (-32), 3) := by decide +kernel
theorem dX7_spells_50 : decode cX7_spells 50 = .ok (.iconst 1, 1) := by decide +kernel
theorem dX7_spells_51 : decode cX7_spells 51 = .ok (.ireturn, 1) := by decide +kernel
theorem dX7_thing_0 : decode cX7_thing 0 = .ok (.aload_n 0, 1) := by decide +kernel
theorem dX7_thing_1 : decode cX7_thing 1 = .ok (.getfield 11, 3) := by decide +kernel
theorem dX7_thing_4 : decode cX7_thing 4 = .ok (.aload_n 0, 1) := by decide +kernel
theorem dX7_thing_5 : decode cX7_thing 5 = .ok (.getfield 38, 3) := by decide +kernel
theorem dX7_thing_8 : decode cX7_thing 8 = .ok (.iaload, 1) := by decide +kernel
theorem dX7_thing_9 : decode cX7_thing 9 = .ok (.ireturn, 1) := by decide +kernel
theorem dX7_place_0 : decode cX7_place 0 = .ok (.aload_n 0, 1) := by decide +kernel
theorem dX7_place_1 : decode cX7_place 1 = .ok (.getfield 15, 3) := by decide +kernel
theorem dX7_place_4 : decode cX7_place 4 = .ok (.aload_n 0, 1) := by decide +kernel
theorem dX7_place_5 : decode cX7_place 5 = .ok (.getfield 38, 3) := by decide +kernel
theorem dX7_place_8 : decode cX7_place 8 = .ok (.iaload, 1) := by decide +kernel
theorem dX7_place_9 : decode cX7_place 9 = .ok (.ireturn, 1) := by decide +kernel
theorem dX7_pass_0 : decode cX7_pass 0 = .ok (.aload_n 0, 1) := by decide +kernel
theorem dX7_pass_1 : decode cX7_pass 1 = .ok (.getfield 38, 3) := by decide +kernel
theorem dX7_pass_4 : decode cX7_pass 4 = .ok (.aload_n 0, 1) := by decide +kernel
theorem dX7_pass_5 : decode cX7_pass 5 = .ok (.getfield 35, 3) := by decide +kernel
theorem dX7_pass_8 : decode cX7_pass 8 = .ok (.if_icmp .ge 13, 3) := by decide +kernel
theorem dX7_pass_11 : decode cX7_pass 11 = .ok (.aload_n 0, 1) := by decide +kernel
theorem dX7_pass_12 : decode cX7_pass 12 = .ok (.dup, 1) := by decide +kernel
theorem dX7_pass_13 : decode cX7_pass 13 = .ok (.getfield 38, 3) := by decide +kernel
theorem dX7_pass_16 : decode cX7_pass 16 = .ok (.iconst 1, 1) := by decide +kernel
theorem dX7_pass_17 : decode cX7_pass 17 = .ok (.iadd, 1) := by decide +kernel
theorem dX7_pass_18 : decode cX7_pass 18 = .ok (.putfield 38, 3) := by decide +kernel
theorem dX7_pass_21 : decode cX7_pass 21 = .ok (.return_, 1) := by decide +kernel
theorem dX7_passes_0 : decode cX7_passes 0 = .ok (.aload_n 0, 1) := by decide +kernel
theorem dX7_passes_1 : decode cX7_passes 1 = .ok (.getfield 38, 3) := by decide +kernel
theorem dX7_passes_4 : decode cX7_passes 4 = .ok (.aload_n 0, 1) := by decide +kernel
theorem dX7_passes_5 : decode cX7_passes 5 = .ok (.getfield 35, 3) := by decide +kernel
theorem dX7_passes_8 : decode cX7_passes 8 = .ok (.if_icmp .ge 16, 3) := by decide +kernel
theorem dX7_passes_11 : decode cX7_passes 11 = .ok (.aload_n 0, 1) := by decide +kernel
theorem dX7_passes_12 : decode cX7_passes 12 = .ok (.getfield 11, 3) := by decide +kernel
theorem dX7_passes_15 : decode cX7_passes 15 = .ok (.aload_n 0, 1) := by decide +kernel
theorem dX7_passes_16 : decode cX7_passes 16 = .ok (.getfield 38, 3) := by decide +kernel
theorem dX7_passes_19 : decode cX7_passes 19 = .ok (.iaload, 1) := by decide +kernel
theorem dX7_passes_20 : decode cX7_passes 20 = .ok (.iload_n 1, 1) := by decide +kernel
theorem dX7_passes_21 : decode cX7_passes 21 = .ok (.if_icmp .eq 5, 3) := by decide +kernel
theorem dX7_passes_24 : decode cX7_passes 24 = .ok (.iconst 0, 1) := by decide +kernel
theorem dX7_passes_25 : decode cX7_passes 25 = .ok (.ireturn, 1) := by decide +kernel
theorem dX7_passes_26 : decode cX7_passes 26 = .ok (.aload_n 0, 1) := by decide +kernel
theorem dX7_passes_27 : decode cX7_passes 27 = .ok (.dup, 1) := by decide +kernel
theorem dX7_passes_28 : decode cX7_passes 28 = .ok (.getfield 38, 3) := by decide +kernel
theorem dX7_passes_31 : decode cX7_passes 31 = .ok (.iconst 1, 1) := by decide +kernel
theorem dX7_passes_32 : decode cX7_passes 32 = .ok (.iadd, 1) := by decide +kernel
theorem dX7_passes_33 : decode cX7_passes 33 = .ok (.putfield 38, 3) := by decide +kernel
theorem dX7_passes_36 : decode cX7_passes 36 = .ok (.iconst 1, 1) := by decide +kernel
theorem dX7_passes_37 : decode cX7_passes 37 = .ok (.ireturn, 1) := by decide +kernel
theorem dX7_passNumber_0 : decode cX7_passNumber 0 = .ok (.aload_n 0, 1) := by decide +kernel
theorem dX7_passNumber_1 : decode cX7_passNumber 1 = .ok (.getfield 38, 3) := by decide +kernel
theorem dX7_passNumber_4 : decode cX7_passNumber 4 = .ok (.aload_n 0, 1) := by decide +kernel
theorem dX7_passNumber_5 : decode cX7_passNumber 5 = .ok (.getfield 35, 3) := by decide +kernel
theorem dX7_passNumber_8 : decode cX7_passNumber 8 = .ok (.if_icmp .ge 42, 3) := by decide +kernel
theorem dX7_passNumber_11 : decode cX7_passNumber 11 = .ok (.aload_n 0, 1) := by decide +kernel
theorem dX7_passNumber_12 : decode cX7_passNumber 12 = .ok (.getfield 11, 3) := by decide +kernel
theorem dX7_passNumber_15 : decode cX7_passNumber 15 = .ok (.aload_n 0, 1) := by decide +kernel
theorem dX7_passNumber_16 : decode cX7_passNumber 16 = .ok (.getfield 38, 3) := by decide +kernel
theorem dX7_passNumber_19 : decode cX7_passNumber 19 = .ok (.iaload, 1) := by decide +kernel
theorem dX7_passNumber_20 : decode cX7_passNumber 20 = .ok (.iconst 1, 1) := by decide +kernel
theorem dX7_passNumber_21 : decode cX7_passNumber 21 = .ok (.if_icmp .ne 29, 3) := by decide +kernel
theorem dX7_passNumber_24 : decode cX7_passNumber 24 = .ok (.aload_n 0, 1) := by decide +kernel
theorem dX7_passNumber_25 : decode cX7_passNumber 25 = .ok (.getfield 18, 3) := by decide +kernel
theorem dX7_passNumber_28 : decode cX7_passNumber 28 = .ok (.aload_n 0, 1) := by decide +kernel
theorem dX7_passNumber_29 : decode cX7_passNumber 29 = .ok (.getfield 38, 3) := by decide +kernel
theorem dX7_passNumber_32 : decode cX7_passNumber 32 = .ok (.iaload, 1) := by decide +kernel
theorem dX7_passNumber_33 : decode cX7_passNumber 33 = .ok (.iload_n 1, 1) := by decide +kernel
theorem dX7_passNumber_34 : decode cX7_passNumber 34 = .ok (.if_icmp .lt 16, 3) := by decide +kernel
theorem dX7_passNumber_37 : decode cX7_passNumber 37 = .ok (.aload_n 0, 1) := by decide +kernel
theorem dX7_passNumber_38 : decode cX7_passNumber 38 = .ok (.getfield 18, 3) := by decide +kernel
theorem dX7_passNumber_41 : decode cX7_passNumber 41 = .ok (.aload_n 0, 1) := by decide +kernel
theorem dX7_passNumber_42 : decode cX7_passNumber 42 = .ok (.getfield 38, 3) := by decide +kernel
theorem dX7_passNumber_45 : decode cX7_passNumber 45 = .ok (.iaload, 1) := by decide +kernel
theorem dX7_passNumber_46 : decode cX7_passNumber 46 = .ok (.iload_n 2, 1) := by decide +kernel
theorem dX7_passNumber_47 : decode cX7_passNumber 47 = .ok (.if_icmp .le 5, 3) := by decide +kernel
theorem dX7_passNumber_50 : decode cX7_passNumber 50 = .ok (.iconst (-1), 1) := by decide +kernel
theorem dX7_passNumber_51 : decode cX7_passNumber 51 = .ok (.ireturn, 1) := by decide +kernel
theorem dX7_passNumber_52 : decode cX7_passNumber 52 = .ok (.aload_n 0, 1) := by decide +kernel
theorem dX7_passNumber_53 : decode cX7_passNumber 53 = .ok (.getfield 18, 3) := by decide +kernel
theorem dX7_passNumber_56 : decode cX7_passNumber 56 = .ok (.aload_n 0, 1) := by decide +kernel
theorem dX7_passNumber_57 : decode cX7_passNumber 57 = .ok (.dup, 1) := by decide +kernel
theorem dX7_passNumber_58 : decode cX7_passNumber 58 = .ok (.getfield 38, 3) := by decide +kernel
theorem dX7_passNumber_61 : decode cX7_passNumber 61 = .ok (.dup_x1, 1) := by decide +kernel
theorem dX7_passNumber_62 : decode cX7_passNumber 62 = .ok (.iconst 1, 1) := by decide +kernel
theorem dX7_passNumber_63 : decode cX7_passNumber 63 = .ok (.iadd, 1) := by decide +kernel
theorem dX7_passNumber_64 : decode cX7_passNumber 64 = .ok (.putfield 38, 3) := by decide +kernel
theorem dX7_passNumber_67 : decode cX7_passNumber 67 = .ok (.iaload, 1) := by decide +kernel
theorem dX7_passNumber_68 : decode cX7_passNumber 68 = .ok (.ireturn, 1) := by decide +kernel
theorem dX8_init_0 : decode cX8_init 0 = .ok (.aload_n 0, 1) := by decide +kernel
theorem dX8_init_1 : decode cX8_init 1 = .ok (.invokespecial 3, 3) := by decide +kernel
theorem dX8_init_4 : decode cX8_init 4 = .ok (.return_, 1) := by decide +kernel
theorem dX8_takeFrom_0 : decode cX8_takeFrom 0 = .ok (.aload_n 0, 1) := by decide +kernel
theorem dX8_takeFrom_1 : decode cX8_takeFrom 1 = .ok (.aload_n 1, 1) := by decide +kernel
theorem dX8_takeFrom_2 : decode cX8_takeFrom 2 = .ok (.getfield 9, 3) := by decide +kernel
theorem dX8_takeFrom_5 : decode cX8_takeFrom 5 = .ok (.putfield 9, 3) := by decide +kernel
theorem dX8_takeFrom_8 : decode cX8_takeFrom 8 = .ok (.aload_n 0, 1) := by decide +kernel
theorem dX8_takeFrom_9 : decode cX8_takeFrom 9 = .ok (.aload_n 1, 1) := by decide +kernel
theorem dX8_takeFrom_10 : decode cX8_takeFrom 10 = .ok (.getfield 15, 3) := by decide +kernel
theorem dX8_takeFrom_13 : decode cX8_takeFrom 13 = .ok (.putfield 15, 3) := by decide +kernel
theorem dX8_takeFrom_16 : decode cX8_takeFrom 16 = .ok (.aload_n 0, 1) := by decide +kernel
theorem dX8_takeFrom_17 : decode cX8_takeFrom 17 = .ok (.aload_n 1, 1) := by decide +kernel
theorem dX8_takeFrom_18 : decode cX8_takeFrom 18 = .ok (.getfield 18, 3) := by decide +kernel
theorem dX8_takeFrom_21 : decode cX8_takeFrom 21 = .ok (.putfield 18, 3) := by decide +kernel
theorem dX8_takeFrom_24 : decode cX8_takeFrom 24 = .ok (.aload_n 0, 1) := by decide +kernel
theorem dX8_takeFrom_25 : decode cX8_takeFrom 25 = .ok (.aload_n 1, 1) := by decide +kernel
theorem dX8_takeFrom_26 : decode cX8_takeFrom 26 = .ok (.getfield 21, 3) := by decide +kernel
theorem dX8_takeFrom_29 : decode cX8_takeFrom 29 = .ok (.putfield 21, 3) := by decide +kernel
theorem dX8_takeFrom_32 : decode cX8_takeFrom 32 = .ok (.aload_n 0, 1) := by decide +kernel
theorem dX8_takeFrom_33 : decode cX8_takeFrom 33 = .ok (.aload_n 1, 1) := by decide +kernel
theorem dX8_takeFrom_34 : decode cX8_takeFrom 34 = .ok (.getfield 24, 3) := by decide +kernel
theorem dX8_takeFrom_37 : decode cX8_takeFrom 37 = .ok (.putfield 24, 3) := by decide +kernel
theorem dX8_takeFrom_40 : decode cX8_takeFrom 40 = .ok (.aload_n 0, 1) := by decide +kernel
theorem dX8_takeFrom_41 : decode cX8_takeFrom 41 = .ok (.aload_n 1, 1) := by decide +kernel
theorem dX8_takeFrom_42 : decode cX8_takeFrom 42 = .ok (.getfield 27, 3) := by decide +kernel
theorem dX8_takeFrom_45 : decode cX8_takeFrom 45 = .ok (.putfield 27, 3) := by decide +kernel
theorem dX8_takeFrom_48 : decode cX8_takeFrom 48 = .ok (.aload_n 0, 1) := by decide +kernel
theorem dX8_takeFrom_49 : decode cX8_takeFrom 49 = .ok (.aload_n 1, 1) := by decide +kernel
theorem dX8_takeFrom_50 : decode cX8_takeFrom 50 = .ok (.getfield 30, 3) := by decide +kernel
theorem dX8_takeFrom_53 : decode cX8_takeFrom 53 = .ok (.putfield 30, 3) := by decide +kernel
theorem dX8_takeFrom_56 : decode cX8_takeFrom 56 = .ok (.aload_n 0, 1) := by decide +kernel
theorem dX8_takeFrom_57 : decode cX8_takeFrom 57 = .ok (.aload_n 1, 1) := by decide +kernel
theorem dX8_takeFrom_58 : decode cX8_takeFrom 58 = .ok (.getfield 34, 3) := by decide +kernel
theorem dX8_takeFrom_61 : decode cX8_takeFrom 61 = .ok (.putfield 34, 3) := by decide +kernel
theorem dX8_takeFrom_64 : decode cX8_takeFrom 64 = .ok (.aload_n 0, 1) := by decide +kernel
theorem dX8_takeFrom_65 : decode cX8_takeFrom 65 = .ok (.aload_n 1, 1) := by decide +kernel
theorem dX8_takeFrom_66 : decode cX8_takeFrom 66 = .ok (.getfield 37, 3) := by decide +kernel
theorem dX8_takeFrom_69 : decode cX8_takeFrom 69 = .ok (.putfield 37, 3) := by decide +kernel
theorem dX8_takeFrom_72 : decode cX8_takeFrom 72 = .ok (.aload_n 0, 1) := by decide +kernel
theorem dX8_takeFrom_73 : decode cX8_takeFrom 73 = .ok (.aload_n 1, 1) := by decide +kernel
theorem dX8_takeFrom_74 : decode cX8_takeFrom 74 = .ok (.getfield 40, 3) := by decide +kernel
theorem dX8_takeFrom_77 : decode cX8_takeFrom 77 = .ok (.putfield 40, 3) := by decide +kernel
theorem dX8_takeFrom_80 : decode cX8_takeFrom 80 = .ok (.aload_n 0, 1) := by decide +kernel
theorem dX8_takeFrom_81 : decode cX8_takeFrom 81 = .ok (.aload_n 1, 1) := by decide +kernel
theorem dX8_takeFrom_82 : decode cX8_takeFrom 82 = .ok (.getfield 43, 3) := by decide +kernel
theorem dX8_takeFrom_85 : decode cX8_takeFrom 85 = .ok (.putfield 43, 3) := by decide +kernel
theorem dX8_takeFrom_88 : decode cX8_takeFrom 88 = .ok (.return_, 1) := by decide +kernel
theorem dX8_restart_0 : decode cX8_restart 0 = .ok (.aload_n 0, 1) := by decide +kernel
theorem dX8_restart_1 : decode cX8_restart 1 = .ok (.iload_n 1, 1) := by decide +kernel
theorem dX8_restart_2 : decode cX8_restart 2 = .ok (.putfield 9, 3) := by decide +kernel
theorem dX8_restart_5 : decode cX8_restart 5 = .ok (.aload_n 0, 1) := by decide +kernel
theorem dX8_restart_6 : decode cX8_restart 6 = .ok (.iload_n 2, 1) := by decide +kernel
theorem dX8_restart_7 : decode cX8_restart 7 = .ok (.putfield 15, 3) := by decide +kernel
theorem dX8_restart_10 : decode cX8_restart 10 = .ok (.aload_n 0, 1) := by decide +kernel
theorem dX8_restart_11 : decode cX8_restart 11 = .ok (.iload_n 3, 1) := by decide +kernel
theorem dX8_restart_12 : decode cX8_restart 12 = .ok (.putfield 18, 3) := by decide +kernel
theorem dX8_restart_15 : decode cX8_restart 15 = .ok (.aload_n 0, 1) := by decide +kernel
theorem dX8_restart_16 : decode cX8_restart 16 = .ok (.iconst 0, 1) := by decide +kernel
theorem dX8_restart_17 : decode cX8_restart 17 = .ok (.putfield 21, 3) := by decide +kernel
theorem dX8_restart_20 : decode cX8_restart 20 = .ok (.aload_n 0, 1) := by decide +kernel
theorem dX8_restart_21 : decode cX8_restart 21 = .ok (.iconst 0, 1) := by decide +kernel
theorem dX8_restart_22 : decode cX8_restart 22 = .ok (.putfield 30, 3) := by decide +kernel
theorem dX8_restart_25 : decode cX8_restart 25 = .ok (.return_, 1) := by decide +kernel
theorem dX8_isOver_0 : decode cX8_isOver 0 = .ok (.aload_n 0, 1) := by decide +kernel
theorem dX8_isOver_1 : decode cX8_isOver 1 = .ok (.getfield 34, 3) := by decide +kernel
theorem dX8_isOver_4 : decode cX8_isOver 4 = .ok (.aload_n 1, 1) := by decide +kernel
theorem dX8_isOver_5 : decode cX8_isOver 5 = .ok (.getfield 46, 3) := by decide +kernel
theorem dX8_isOver_8 : decode cX8_isOver 8 = .ok (.if_icmp .ge 14, 3) := by decide +kernel
theorem dX8_isOver_11 : decode cX8_isOver 11 = .ok (.aload_n 0, 1) := by decide +kernel
theorem dX8_isOver_12 : decode cX8_isOver 12 = .ok (.getfield 37, 3) := by decide +kernel
theorem dX8_isOver_15 : decode cX8_isOver 15 = .ok (.aload_n 1, 1) := by decide +kernel
theorem dX8_isOver_16 : decode cX8_isOver 16 = .ok (.getfield 46, 3) := by decide +kernel
theorem dX8_isOver_19 : decode cX8_isOver 19 = .ok (.if_icmp .lt 7, 3) := by decide +kernel
theorem dX8_isOver_22 : decode cX8_isOver 22 = .ok (.iconst 1, 1) := by decide +kernel
theorem dX8_isOver_23 : decode cX8_isOver 23 = .ok (.goto 4, 3) := by decide +kernel
theorem dX8_isOver_26 : decode cX8_isOver 26 = .ok (.iconst 0, 1) := by decide +kernel
theorem dX8_isOver_27 : decode cX8_isOver 27 = .ok (.ireturn, 1) := by decide +kernel
theorem dX8_isPointOfGame_0 : decode cX8_isPointOfGame 0 = .ok (.aload_n 0, 1) := by decide +kernel
theorem dX8_isPointOfGame_1 : decode cX8_isPointOfGame 1 = .ok (.getfield 9, 3) := by decide +kernel
theorem dX8_isPointOfGame_4 : decode cX8_isPointOfGame 4 = .ok (.iconst 3, 1) := by decide +kernel
theorem dX8_isPointOfGame_5 : decode cX8_isPointOfGame 5 = .ok (.if_icmp .lt 14, 3) := by decide +kernel
theorem dX8_isPointOfGame_8 : decode cX8_isPointOfGame 8 = .ok (.aload_n 0, 1) := by decide +kernel
theorem dX8_isPointOfGame_9 : decode cX8_isPointOfGame 9 = .ok (.getfield 9, 3) := by decide +kernel
theorem dX8_isPointOfGame_12 : decode cX8_isPointOfGame 12 = .ok (.aload_n 0, 1) := by decide +kernel
theorem dX8_isPointOfGame_13 : decode cX8_isPointOfGame 13 = .ok (.getfield 15, 3) := by decide +kernel
theorem dX8_isPointOfGame_16 : decode cX8_isPointOfGame 16 = .ok (.if_icmp .gt 22, 3) := by decide +kernel
theorem dX8_isPointOfGame_19 : decode cX8_isPointOfGame 19 = .ok (.aload_n 0, 1) := by decide +kernel
theorem dX8_isPointOfGame_20 : decode cX8_isPointOfGame 20 = .ok (.getfield 15, 3) := by decide +kernel
theorem dX8_isPointOfGame_23 : decode cX8_isPointOfGame 23 = .ok (.iconst 3, 1) := by decide +kernel
theorem dX8_isPointOfGame_24 : decode cX8_isPointOfGame 24 = .ok (.if_icmp .lt 18, 3) := by decide +kernel
theorem dX8_isPointOfGame_27 : decode cX8_isPointOfGame 27 = .ok (.aload_n 0, 1) := by decide +kernel
theorem dX8_isPointOfGame_28 : decode cX8_isPointOfGame 28 = .ok (.getfield 15, 3) := by decide +kernel
theorem dX8_isPointOfGame_31 : decode cX8_isPointOfGame 31 = .ok (.aload_n 0, 1) := by decide +kernel
theorem dX8_isPointOfGame_32 : decode cX8_isPointOfGame 32 = .ok (.getfield 9, 3) := by decide +kernel
theorem dX8_isPointOfGame_35 : decode cX8_isPointOfGame 35 = .ok (.if_icmp .le 7, 3) := by decide +kernel
theorem dX8_isPointOfGame_38 : decode cX8_isPointOfGame 38 = .ok (.iconst 1, 1) := by decide +kernel
theorem dX8_isPointOfGame_39 : decode cX8_isPointOfGame 39 = .ok (.goto 4, 3) := by decide +kernel
theorem dX8_isPointOfGame_42 : decode cX8_isPointOfGame 42 = .ok (.iconst 0, 1) := by decide +kernel
theorem dX8_isPointOfGame_43 : decode cX8_isPointOfGame 43 = .ok (.ireturn, 1) := by decide +kernel
theorem dX8_tell_0 : decode cX8_tell 0 = .ok (.iload_n 1, 1) := by decide +kernel
theorem dX8_tell_1 : decode cX8_tell 1 = .ok (.tableswitch 127 0 8 #[51, 56, 61, 66, 71, 87, 104, 117, 122], 51) := by decide +kernel
theorem dX8_tell_52 : decode cX8_tell 52 = .ok (.aload_n 0, 1) := by decide +kernel
theorem dX8_tell_53 : decode cX8_tell 53 = .ok (.getfield 9, 3) := by decide +kernel
theorem dX8_tell_56 : decode cX8_tell 56 = .ok (.ireturn, 1) := by decide +kernel
theorem dX8_tell_57 : decode cX8_tell 57 = .ok (.aload_n 0, 1) := by decide +kernel
theorem dX8_tell_58 : decode cX8_tell 58 = .ok (.getfield 15, 3) := by decide +kernel
theorem dX8_tell_61 : decode cX8_tell 61 = .ok (.ireturn, 1) := by decide +kernel
theorem dX8_tell_62 : decode cX8_tell 62 = .ok (.aload_n 0, 1) := by decide +kernel
theorem dX8_tell_63 : decode cX8_tell 63 = .ok (.getfield 18, 3) := by decide +kernel
theorem dX8_tell_66 : decode cX8_tell 66 = .ok (.ireturn, 1) := by decide +kernel
theorem dX8_tell_67 : decode cX8_tell 67 = .ok (.aload_n 0, 1) := by decide +kernel
theorem dX8_tell_68 : decode cX8_tell 68 = .ok (.getfield 21, 3) := by decide +kernel
theorem dX8_tell_71 : decode cX8_tell 71 = .ok (.ireturn, 1) := by decide +kernel
theorem dX8_tell_72 : decode cX8_tell 72 = .ok (.aload_n 0, 1) := by decide +kernel
theorem dX8_tell_73 : decode cX8_tell 73 = .ok (.getfield 21, 3) := by decide +kernel
theorem dX8_tell_76 : decode cX8_tell 76 = .ok (.ifCond .le 10, 3) := by decide +kernel
theorem dX8_tell_79 : decode cX8_tell 79 = .ok (.aload_n 0, 1) := by decide +kernel
theorem dX8_tell_80 : decode cX8_tell 80 = .ok (.getfield 24, 3) := by decide +kernel
theorem dX8_tell_83 : decode cX8_tell 83 = .ok (.goto 4, 3) := by decide +kernel
theorem dX8_tell_86 : decode cX8_tell 86 = .ok (.iconst (-1), 1) := by decide +kernel
theorem dX8_tell_87 : decode cX8_tell 87 = .ok (.ireturn, 1) := by decide +kernel
theorem dX8_tell_88 : decode cX8_tell 88 = .ok (.aload_n 0, 1) := by decide +kernel
theorem dX8_tell_89 : decode cX8_tell 89 = .ok (.getfield 21, 3) := by decide +kernel
theorem dX8_tell_92 : decode cX8_tell 92 = .ok (.iconst 1, 1) := by decide +kernel
theorem dX8_tell_93 : decode cX8_tell 93 = .ok (.if_icmp .le 10, 3) := by decide +kernel
theorem dX8_tell_96 : decode cX8_tell 96 = .ok (.aload_n 0, 1) := by decide +kernel
theorem dX8_tell_97 : decode cX8_tell 97 = .ok (.getfield 27, 3) := by decide +kernel
theorem dX8_tell_100 : decode cX8_tell 100 = .ok (.goto 4, 3) := by decide +kernel
theorem dX8_tell_103 : decode cX8_tell 103 = .ok (.iconst (-1), 1) := by decide +kernel
theorem dX8_tell_104 : decode cX8_tell 104 = .ok (.ireturn, 1) := by decide +kernel
theorem dX8_tell_105 : decode cX8_tell 105 = .ok (.aload_n 0, 1) := by decide +kernel
theorem dX8_tell_106 : decode cX8_tell 106 = .ok (.getfield 30, 3) := by decide +kernel
theorem dX8_tell_109 : decode cX8_tell 109 = .ok (.ifCond .eq 7, 3) := by decide +kernel
theorem dX8_tell_112 : decode cX8_tell 112 = .ok (.iconst 1, 1) := by decide +kernel
theorem dX8_tell_113 : decode cX8_tell 113 = .ok (.goto 4, 3) := by decide +kernel
theorem dX8_tell_116 : decode cX8_tell 116 = .ok (.iconst 0, 1) := by decide +kernel
theorem dX8_tell_117 : decode cX8_tell 117 = .ok (.ireturn, 1) := by decide +kernel
theorem dX8_tell_118 : decode cX8_tell 118 = .ok (.aload_n 0, 1) := by decide +kernel
theorem dX8_tell_119 : decode cX8_tell 119 = .ok (.getfield 34, 3) := by decide +kernel
theorem dX8_tell_122 : decode cX8_tell 122 = .ok (.ireturn, 1) := by decide +kernel
theorem dX8_tell_123 : decode cX8_tell 123 = .ok (.aload_n 0, 1) := by decide +kernel
theorem dX8_tell_124 : decode cX8_tell 124 = .ok (.getfield 37, 3) := by decide +kernel
theorem dX8_tell_127 : decode cX8_tell 127 = .ok (.ireturn, 1) := by decide +kernel
theorem dX8_tell_128 : decode cX8_tell 128 = .ok (.aload_n 0, 1) := by decide +kernel
theorem dX8_tell_129 : decode cX8_tell 129 = .ok (.invokevirtual 51, 3) := by decide +kernel
theorem dX8_tell_132 : decode cX8_tell 132 = .ok (.ifCond .eq 7, 3) := by decide +kernel
theorem dX8_tell_135 : decode cX8_tell 135 = .ok (.iconst 1, 1) := by decide +kernel
theorem dX8_tell_136 : decode cX8_tell 136 = .ok (.goto 4, 3) := by decide +kernel
theorem dX8_tell_139 : decode cX8_tell 139 = .ok (.iconst 0, 1) := by decide +kernel
theorem dX8_tell_140 : decode cX8_tell 140 = .ok (.ireturn, 1) := by decide +kernel
theorem dX8_strike_0 : decode cX8_strike 0 = .ok (.iload_n 1, 1) := by decide +kernel
theorem dX8_strike_1 : decode cX8_strike 1 = .ok (.ifCond .ne 7, 3) := by decide +kernel
theorem dX8_strike_4 : decode cX8_strike 4 = .ok (.iconst 1, 1) := by decide +kernel
theorem dX8_strike_5 : decode cX8_strike 5 = .ok (.goto 13, 3) := by decide +kernel
theorem dX8_strike_8 : decode cX8_strike 8 = .ok (.iload_n 1, 1) := by decide +kernel
theorem dX8_strike_9 : decode cX8_strike 9 = .ok (.iconst 1, 1) := by decide +kernel
theorem dX8_strike_10 : decode cX8_strike 10 = .ok (.if_icmp .ne 7, 3) := by decide +kernel
theorem dX8_strike_13 : decode cX8_strike 13 = .ok (.iconst 2, 1) := by decide +kernel
theorem dX8_strike_14 : decode cX8_strike 14 = .ok (.goto 4, 3) := by decide +kernel
theorem dX8_strike_17 : decode cX8_strike 17 = .ok (.iconst 0, 1) := by decide +kernel
theorem dX8_strike_18 : decode cX8_strike 18 = .ok (.istore 4, 2) := by decide +kernel
theorem dX8_strike_20 : decode cX8_strike 20 = .ok (.aload_n 0, 1) := by decide +kernel
theorem dX8_strike_21 : decode cX8_strike 21 = .ok (.getfield 30, 3) := by decide +kernel
theorem dX8_strike_24 : decode cX8_strike 24 = .ok (.ifCond .eq 36, 3) := by decide +kernel
theorem dX8_strike_27 : decode cX8_strike 27 = .ok (.iload_n 1, 1) := by decide +kernel
theorem dX8_strike_28 : decode cX8_strike 28 = .ok (.iconst 2, 1) := by decide +kernel
theorem dX8_strike_29 : decode cX8_strike 29 = .ok (.if_icmp .ne 18, 3) := by decide +kernel
theorem dX8_strike_32 : decode cX8_strike 32 = .ok (.aload_n 3, 1) := by decide +kernel
theorem dX8_strike_33 : decode cX8_strike 33 = .ok (.iload_n 2, 1) := by decide +kernel
theorem dX8_strike_34 : decode cX8_strike 34 = .ok (.aload_n 0, 1) := by decide +kernel
theorem dX8_strike_35 : decode cX8_strike 35 = .ok (.getfield 24, 3) := by decide +kernel
theorem dX8_strike_38 : decode cX8_strike 38 = .ok (.invokestatic 55, 3) := by decide +kernel
theorem dX8_strike_41 : decode cX8_strike 41 = .ok (.invokevirtual 61, 3) := by decide +kernel
theorem dX8_strike_44 : decode cX8_strike 44 = .ok (.goto 5, 3) := by decide +kernel
theorem dX8_strike_47 : decode cX8_strike 47 = .ok (.iload 4, 2) := by decide +kernel
theorem dX8_strike_49 : decode cX8_strike 49 = .ok (.istore 5, 2) := by decide +kernel
theorem dX8_strike_51 : decode cX8_strike 51 = .ok (.aload_n 0, 1) := by decide +kernel
theorem dX8_strike_52 : decode cX8_strike 52 = .ok (.iload 5, 2) := by decide +kernel
theorem dX8_strike_54 : decode cX8_strike 54 = .ok (.invokevirtual 65, 3) := by decide +kernel
theorem dX8_strike_57 : decode cX8_strike 57 = .ok (.iload 5, 2) := by decide +kernel
theorem dX8_strike_59 : decode cX8_strike 59 = .ok (.ireturn, 1) := by decide +kernel
theorem dX8_strike_60 : decode cX8_strike 60 = .ok (.iload_n 1, 1) := by decide +kernel
theorem dX8_strike_61 : decode cX8_strike 61 = .ok (.iconst 2, 1) := by decide +kernel
theorem dX8_strike_62 : decode cX8_strike 62 = .ok (.if_icmp .ne 8, 3) := by decide +kernel
theorem dX8_strike_65 : decode cX8_strike 65 = .ok (.aload_n 0, 1) := by decide +kernel
theorem dX8_strike_66 : decode cX8_strike 66 = .ok (.iload_n 2, 1) := by decide +kernel
theorem dX8_strike_67 : decode cX8_strike 67 = .ok (.invokevirtual 69, 3) := by decide +kernel
theorem dX8_strike_70 : decode cX8_strike 70 = .ok (.aload_n 0, 1) := by decide +kernel
theorem dX8_strike_71 : decode cX8_strike 71 = .ok (.iload 4, 2) := by decide +kernel
theorem dX8_strike_73 : decode cX8_strike 73 = .ok (.invokevirtual 72, 3) := by decide +kernel
theorem dX8_strike_76 : decode cX8_strike 76 = .ok (.aload_n 0, 1) := by decide +kernel
theorem dX8_strike_77 : decode cX8_strike 77 = .ok (.aload_n 3, 1) := by decide +kernel
theorem dX8_strike_78 : decode cX8_strike 78 = .ok (.getfield 75, 3) := by decide +kernel
theorem dX8_strike_81 : decode cX8_strike 81 = .ok (.invokevirtual 78, 3) := by decide +kernel
theorem dX8_strike_84 : decode cX8_strike 84 = .ok (.iload 4, 2) := by decide +kernel
theorem dX8_strike_86 : decode cX8_strike 86 = .ok (.ireturn, 1) := by decide +kernel
theorem dX8_playOff_0 : decode cX8_playOff 0 = .ok (.aload_n 0, 1) := by decide +kernel
theorem dX8_playOff_1 : decode cX8_playOff 1 = .ok (.aload_n 0, 1) := by decide +kernel
theorem dX8_playOff_2 : decode cX8_playOff 2 = .ok (.getfield 27, 3) := by decide +kernel
theorem dX8_playOff_5 : decode cX8_playOff 5 = .ok (.putfield 24, 3) := by decide +kernel
theorem dX8_playOff_8 : decode cX8_playOff 8 = .ok (.aload_n 0, 1) := by decide +kernel
theorem dX8_playOff_9 : decode cX8_playOff 9 = .ok (.dup, 1) := by decide +kernel
theorem dX8_playOff_10 : decode cX8_playOff 10 = .ok (.getfield 21, 3) := by decide +kernel
theorem dX8_playOff_13 : decode cX8_playOff 13 = .ok (.iconst 1, 1) := by decide +kernel
theorem dX8_playOff_14 : decode cX8_playOff 14 = .ok (.isub, 1) := by decide +kernel
theorem dX8_playOff_15 : decode cX8_playOff 15 = .ok (.putfield 21, 3) := by decide +kernel
theorem dX8_playOff_18 : decode cX8_playOff 18 = .ok (.aload_n 0, 1) := by decide +kernel
theorem dX8_playOff_19 : decode cX8_playOff 19 = .ok (.aload_n 0, 1) := by decide +kernel
theorem dX8_playOff_20 : decode cX8_playOff 20 = .ok (.getfield 21, 3) := by decide +kernel
theorem dX8_playOff_23 : decode cX8_playOff 23 = .ok (.ifCond .le 7, 3) := by decide +kernel
theorem dX8_playOff_26 : decode cX8_playOff 26 = .ok (.iconst 1, 1) := by decide +kernel
theorem dX8_playOff_27 : decode cX8_playOff 27 = .ok (.goto 4, 3) := by decide +kernel
theorem dX8_playOff_30 : decode cX8_playOff 30 = .ok (.iconst 0, 1) := by decide +kernel
theorem dX8_playOff_31 : decode cX8_playOff 31 = .ok (.putfield 30, 3) := by decide +kernel
theorem dX8_playOff_34 : decode cX8_playOff 34 = .ok (.aload_n 0, 1) := by decide +kernel
theorem dX8_playOff_35 : decode cX8_playOff 35 = .ok (.iload_n 1, 1) := by decide +kernel
theorem dX8_playOff_36 : decode cX8_playOff 36 = .ok (.invokevirtual 72, 3) := by decide +kernel
theorem dX8_playOff_39 : decode cX8_playOff 39 = .ok (.return_, 1) := by decide +kernel
theorem dX8_takeBisque_0 : decode cX8_takeBisque 0 = .ok (.aload_n 0, 1) := by decide +kernel
theorem dX8_takeBisque_1 : decode cX8_takeBisque 1 = .ok (.iload_n 1, 1) := by decide +kernel
theorem dX8_takeBisque_2 : decode cX8_takeBisque 2 = .ok (.invokevirtual 81, 3) := by decide +kernel
theorem dX8_takeBisque_5 : decode cX8_takeBisque 5 = .ok (.istore_n 3, 1) := by decide +kernel
theorem dX8_takeBisque_6 : decode cX8_takeBisque 6 = .ok (.aload_n 0, 1) := by decide +kernel
theorem dX8_takeBisque_7 : decode cX8_takeBisque 7 = .ok (.aload_n 2, 1) := by decide +kernel
theorem dX8_takeBisque_8 : decode cX8_takeBisque 8 = .ok (.getfield 75, 3) := by decide +kernel
theorem dX8_takeBisque_11 : decode cX8_takeBisque 11 = .ok (.invokevirtual 78, 3) := by decide +kernel
theorem dX8_takeBisque_14 : decode cX8_takeBisque 14 = .ok (.iload_n 3, 1) := by decide +kernel
theorem dX8_takeBisque_15 : decode cX8_takeBisque 15 = .ok (.ireturn, 1) := by decide +kernel
theorem dX8_addChase_0 : decode cX8_addChase 0 = .ok (.aload_n 0, 1) := by decide +kernel
theorem dX8_addChase_1 : decode cX8_addChase 1 = .ok (.getfield 21, 3) := by decide +kernel
theorem dX8_addChase_4 : decode cX8_addChase 4 = .ok (.ifCond .ne 11, 3) := by decide +kernel
theorem dX8_addChase_7 : decode cX8_addChase 7 = .ok (.aload_n 0, 1) := by decide +kernel
theorem dX8_addChase_8 : decode cX8_addChase 8 = .ok (.iload_n 1, 1) := by decide +kernel
theorem dX8_addChase_9 : decode cX8_addChase 9 = .ok (.putfield 24, 3) := by decide +kernel
theorem dX8_addChase_12 : decode cX8_addChase 12 = .ok (.goto 8, 3) := by decide +kernel
theorem dX8_addChase_15 : decode cX8_addChase 15 = .ok (.aload_n 0, 1) := by decide +kernel
theorem dX8_addChase_16 : decode cX8_addChase 16 = .ok (.iload_n 1, 1) := by decide +kernel
theorem dX8_addChase_17 : decode cX8_addChase 17 = .ok (.putfield 27, 3) := by decide +kernel
theorem dX8_addChase_20 : decode cX8_addChase 20 = .ok (.aload_n 0, 1) := by decide +kernel
theorem dX8_addChase_21 : decode cX8_addChase 21 = .ok (.dup, 1) := by decide +kernel
theorem dX8_addChase_22 : decode cX8_addChase 22 = .ok (.getfield 21, 3) := by decide +kernel
theorem dX8_addChase_25 : decode cX8_addChase 25 = .ok (.iconst 1, 1) := by decide +kernel
theorem dX8_addChase_26 : decode cX8_addChase 26 = .ok (.iadd, 1) := by decide +kernel
theorem dX8_addChase_27 : decode cX8_addChase 27 = .ok (.putfield 21, 3) := by decide +kernel
theorem dX8_addChase_30 : decode cX8_addChase 30 = .ok (.return_, 1) := by decide +kernel
theorem dX8_givePoint_0 : decode cX8_givePoint 0 = .ok (.iload_n 1, 1) := by decide +kernel
theorem dX8_givePoint_1 : decode cX8_givePoint 1 = .ok (.ifCond .eq 26, 3) := by decide +kernel
theorem dX8_givePoint_4 : decode cX8_givePoint 4 = .ok (.aload_n 0, 1) := by decide +kernel
theorem dX8_givePoint_5 : decode cX8_givePoint 5 = .ok (.iload_n 1, 1) := by decide +kernel
theorem dX8_givePoint_6 : decode cX8_givePoint 6 = .ok (.iconst 1, 1) := by decide +kernel
theorem dX8_givePoint_7 : decode cX8_givePoint 7 = .ok (.if_icmp .ne 10, 3) := by decide +kernel
theorem dX8_givePoint_10 : decode cX8_givePoint 10 = .ok (.aload_n 0, 1) := by decide +kernel
theorem dX8_givePoint_11 : decode cX8_givePoint 11 = .ok (.getfield 18, 3) := by decide +kernel
theorem dX8_givePoint_14 : decode cX8_givePoint 14 = .ok (.goto 9, 3) := by decide +kernel
theorem dX8_givePoint_17 : decode cX8_givePoint 17 = .ok (.iconst 1, 1) := by decide +kernel
theorem dX8_givePoint_18 : decode cX8_givePoint 18 = .ok (.aload_n 0, 1) := by decide +kernel
theorem dX8_givePoint_19 : decode cX8_givePoint 19 = .ok (.getfield 18, 3) := by decide +kernel
theorem dX8_givePoint_22 : decode cX8_givePoint 22 = .ok (.isub, 1) := by decide +kernel
theorem dX8_givePoint_23 : decode cX8_givePoint 23 = .ok (.invokevirtual 81, 3) := by decide +kernel
theorem dX8_givePoint_26 : decode cX8_givePoint 26 = .ok (.pop, 1) := by decide +kernel
