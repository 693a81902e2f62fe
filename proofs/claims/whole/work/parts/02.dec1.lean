theorem dX0_init_0 : decode cX0_init 0 = .ok (.aload_n 0, 1) := by decide +kernel
theorem dX0_init_1 : decode cX0_init 1 = .ok (.invokespecial 3, 3) := by decide +kernel
theorem dX0_init_4 : decode cX0_init 4 = .ok (.iconst 1, 1) := by decide +kernel
theorem dX0_init_5 : decode cX0_init 5 = .ok (.iload_n 1, 1) := by decide +kernel
theorem dX0_init_6 : decode cX0_init 6 = .ok (.iconst 1, 1) := by decide +kernel
theorem dX0_init_7 : decode cX0_init 7 = .ok (.isub, 1) := by decide +kernel
theorem dX0_init_8 : decode cX0_init 8 = .ok (.ishl, 1) := by decide +kernel
theorem dX0_init_9 : decode cX0_init 9 = .ok (.istore_n 2, 1) := by decide +kernel
theorem dX0_init_10 : decode cX0_init 10 = .ok (.aload_n 0, 1) := by decide +kernel
theorem dX0_init_11 : decode cX0_init 11 = .ok (.iload_n 1, 1) := by decide +kernel
theorem dX0_init_12 : decode cX0_init 12 = .ok (.putfield 9, 3) := by decide +kernel
theorem dX0_init_15 : decode cX0_init 15 = .ok (.aload_n 0, 1) := by decide +kernel
theorem dX0_init_16 : decode cX0_init 16 = .ok (.iconst 2, 1) := by decide +kernel
theorem dX0_init_17 : decode cX0_init 17 = .ok (.iload_n 2, 1) := by decide +kernel
theorem dX0_init_18 : decode cX0_init 18 = .ok (.imul, 1) := by decide +kernel
theorem dX0_init_19 : decode cX0_init 19 = .ok (.newarray .int, 2) := by decide +kernel
theorem dX0_init_21 : decode cX0_init 21 = .ok (.putfield 15, 3) := by decide +kernel
theorem dX0_init_24 : decode cX0_init 24 = .ok (.aload_n 0, 1) := by decide +kernel
theorem dX0_init_25 : decode cX0_init 25 = .ok (.iload_n 2, 1) := by decide +kernel
theorem dX0_init_26 : decode cX0_init 26 = .ok (.newarray .int, 2) := by decide +kernel
theorem dX0_init_28 : decode cX0_init 28 = .ok (.putfield 19, 3) := by decide +kernel
theorem dX0_init_31 : decode cX0_init 31 = .ok (.aload_n 0, 1) := by decide +kernel
theorem dX0_init_32 : decode cX0_init 32 = .ok (.iload_n 2, 1) := by decide +kernel
theorem dX0_init_33 : decode cX0_init 33 = .ok (.newarray .int, 2) := by decide +kernel
theorem dX0_init_35 : decode cX0_init 35 = .ok (.putfield 22, 3) := by decide +kernel
theorem dX0_init_38 : decode cX0_init 38 = .ok (.aload_n 0, 1) := by decide +kernel
theorem dX0_init_39 : decode cX0_init 39 = .ok (.iconst 2, 1) := by decide +kernel
theorem dX0_init_40 : decode cX0_init 40 = .ok (.iload_n 2, 1) := by decide +kernel
theorem dX0_init_41 : decode cX0_init 41 = .ok (.invokestatic 25, 3) := by decide +kernel
theorem dX0_init_44 : decode cX0_init 44 = .ok (.newarray .int, 2) := by decide +kernel
theorem dX0_init_46 : decode cX0_init 46 = .ok (.putfield 31, 3) := by decide +kernel
theorem dX0_init_49 : decode cX0_init 49 = .ok (.return_, 1) := by decide +kernel
theorem dX0_count_0 : decode cX0_count 0 = .ok (.iconst 0, 1) := by decide +kernel
theorem dX0_count_1 : decode cX0_count 1 = .ok (.istore_n 2, 1) := by decide +kernel
theorem dX0_count_2 : decode cX0_count 2 = .ok (.iload_n 2, 1) := by decide +kernel
theorem dX0_count_3 : decode cX0_count 3 = .ok (.aload_n 0, 1) := by decide +kernel
theorem dX0_count_4 : decode cX0_count 4 = .ok (.getfield 15, 3) := by decide +kernel
theorem dX0_count_7 : decode cX0_count 7 = .ok (.arraylength, 1) := by decide +kernel
theorem dX0_count_8 : decode cX0_count 8 = .ok (.if_icmp .ge 20, 3) := by decide +kernel
theorem dX0_count_11 : decode cX0_count 11 = .ok (.aload_n 0, 1) := by decide +kernel
theorem dX0_count_12 : decode cX0_count 12 = .ok (.getfield 15, 3) := by decide +kernel
theorem dX0_count_15 : decode cX0_count 15 = .ok (.iload_n 2, 1) := by decide +kernel
theorem dX0_count_16 : decode cX0_count 16 = .ok (.aload_n 1, 1) := by decide +kernel
theorem dX0_count_17 : decode cX0_count 17 = .ok (.iload_n 2, 1) := by decide +kernel
theorem dX0_count_18 : decode cX0_count 18 = .ok (.invokestatic 34, 3) := by decide +kernel
theorem dX0_count_21 : decode cX0_count 21 = .ok (.iastore, 1) := by decide +kernel
theorem dX0_count_22 : decode cX0_count 22 = .ok (.iinc 2 1, 3) := by decide +kernel
theorem dX0_count_25 : decode cX0_count 25 = .ok (.goto (-23), 3) := by decide +kernel
theorem dX0_count_28 : decode cX0_count 28 = .ok (.iconst 0, 1) := by decide +kernel
theorem dX0_count_29 : decode cX0_count 29 = .ok (.istore_n 2, 1) := by decide +kernel
theorem dX0_count_30 : decode cX0_count 30 = .ok (.aload_n 0, 1) := by decide +kernel
theorem dX0_count_31 : decode cX0_count 31 = .ok (.getfield 9, 3) := by decide +kernel
theorem dX0_count_34 : decode cX0_count 34 = .ok (.istore_n 3, 1) := by decide +kernel
theorem dX0_count_35 : decode cX0_count 35 = .ok (.iload_n 3, 1) := by decide +kernel
theorem dX0_count_36 : decode cX0_count 36 = .ok (.iconst 1, 1) := by decide +kernel
theorem dX0_count_37 : decode cX0_count 37 = .ok (.if_icmp .lt 21, 3) := by decide +kernel
theorem dX0_count_40 : decode cX0_count 40 = .ok (.iload_n 2, 1) := by decide +kernel
theorem dX0_count_41 : decode cX0_count 41 = .ok (.aload_n 0, 1) := by decide +kernel
theorem dX0_count_42 : decode cX0_count 42 = .ok (.iconst 1, 1) := by decide +kernel
theorem dX0_count_43 : decode cX0_count 43 = .ok (.iload_n 3, 1) := by decide +kernel
theorem dX0_count_44 : decode cX0_count 44 = .ok (.iconst 1, 1) := by decide +kernel
theorem dX0_count_45 : decode cX0_count 45 = .ok (.isub, 1) := by decide +kernel
theorem dX0_count_46 : decode cX0_count 46 = .ok (.ishl, 1) := by decide +kernel
theorem dX0_count_47 : decode cX0_count 47 = .ok (.invokevirtual 38, 3) := by decide +kernel
theorem dX0_count_50 : decode cX0_count 50 = .ok (.iadd, 1) := by decide +kernel
theorem dX0_count_51 : decode cX0_count 51 = .ok (.istore_n 2, 1) := by decide +kernel
theorem dX0_count_52 : decode cX0_count 52 = .ok (.iinc 3 (-1), 3) := by decide +kernel
theorem dX0_count_55 : decode cX0_count 55 = .ok (.goto (-20), 3) := by decide +kernel
theorem dX0_count_58 : decode cX0_count 58 = .ok (.iload_n 2, 1) := by decide +kernel
theorem dX0_count_59 : decode cX0_count 59 = .ok (.ireturn, 1) := by decide +kernel
theorem dX0_countLevel_0 : decode cX0_countLevel 0 = .ok (.iconst 0, 1) := by decide +kernel
theorem dX0_countLevel_1 : decode cX0_countLevel 1 = .ok (.istore_n 2, 1) := by decide +kernel
theorem dX0_countLevel_2 : decode cX0_countLevel 2 = .ok (.aload_n 0, 1) := by decide +kernel
theorem dX0_countLevel_3 : decode cX0_countLevel 3 = .ok (.getfield 31, 3) := by decide +kernel
theorem dX0_countLevel_6 : decode cX0_countLevel 6 = .ok (.iconst (-1), 1) := by decide +kernel
theorem dX0_countLevel_7 : decode cX0_countLevel 7 = .ok (.invokestatic 42, 3) := by decide +kernel
theorem dX0_countLevel_10 : decode cX0_countLevel 10 = .ok (.iconst 0, 1) := by decide +kernel
theorem dX0_countLevel_11 : decode cX0_countLevel 11 = .ok (.istore_n 3, 1) := by decide +kernel
theorem dX0_countLevel_12 : decode cX0_countLevel 12 = .ok (.iload_n 3, 1) := by decide +kernel
theorem dX0_countLevel_13 : decode cX0_countLevel 13 = .ok (.iload_n 1, 1) := by decide +kernel
theorem dX0_countLevel_14 : decode cX0_countLevel 14 = .ok (.if_icmp .ge 66, 3) := by decide +kernel
theorem dX0_countLevel_17 : decode cX0_countLevel 17 = .ok (.aload_n 0, 1) := by decide +kernel
theorem dX0_countLevel_18 : decode cX0_countLevel 18 = .ok (.getfield 15, 3) := by decide +kernel
theorem dX0_countLevel_21 : decode cX0_countLevel 21 = .ok (.iconst 2, 1) := by decide +kernel
theorem dX0_countLevel_22 : decode cX0_countLevel 22 = .ok (.iload_n 3, 1) := by decide +kernel
theorem dX0_countLevel_23 : decode cX0_countLevel 23 = .ok (.imul, 1) := by decide +kernel
theorem dX0_countLevel_24 : decode cX0_countLevel 24 = .ok (.iaload, 1) := by decide +kernel
theorem dX0_countLevel_25 : decode cX0_countLevel 25 = .ok (.istore 4, 2) := by decide +kernel
theorem dX0_countLevel_27 : decode cX0_countLevel 27 = .ok (.aload_n 0, 1) := by decide +kernel
theorem dX0_countLevel_28 : decode cX0_countLevel 28 = .ok (.getfield 15, 3) := by decide +kernel
theorem dX0_countLevel_31 : decode cX0_countLevel 31 = .ok (.iconst 2, 1) := by decide +kernel
theorem dX0_countLevel_32 : decode cX0_countLevel 32 = .ok (.iload_n 3, 1) := by decide +kernel
theorem dX0_countLevel_33 : decode cX0_countLevel 33 = .ok (.imul, 1) := by decide +kernel
theorem dX0_countLevel_34 : decode cX0_countLevel 34 = .ok (.iconst 1, 1) := by decide +kernel
theorem dX0_countLevel_35 : decode cX0_countLevel 35 = .ok (.iadd, 1) := by decide +kernel
theorem dX0_countLevel_36 : decode cX0_countLevel 36 = .ok (.iaload, 1) := by decide +kernel
theorem dX0_countLevel_37 : decode cX0_countLevel 37 = .ok (.istore 5, 2) := by decide +kernel
theorem dX0_countLevel_39 : decode cX0_countLevel 39 = .ok (.aload_n 0, 1) := by decide +kernel
theorem dX0_countLevel_40 : decode cX0_countLevel 40 = .ok (.iload_n 3, 1) := by decide +kernel
theorem dX0_countLevel_41 : decode cX0_countLevel 41 = .ok (.iload 4, 2) := by decide +kernel
theorem dX0_countLevel_43 : decode cX0_countLevel 43 = .ok (.iload 5, 2) := by decide +kernel
theorem dX0_countLevel_45 : decode cX0_countLevel 45 = .ok (.invokevirtual 48, 3) := by decide +kernel
theorem dX0_countLevel_48 : decode cX0_countLevel 48 = .ok (.istore 6, 2) := by decide +kernel
theorem dX0_countLevel_50 : decode cX0_countLevel 50 = .ok (.iload 6, 2) := by decide +kernel
theorem dX0_countLevel_52 : decode cX0_countLevel 52 = .ok (.iload_n 3, 1) := by decide +kernel
theorem dX0_countLevel_53 : decode cX0_countLevel 53 = .ok (.if_icmp .ne 13, 3) := by decide +kernel
theorem dX0_countLevel_56 : decode cX0_countLevel 56 = .ok (.iload 4, 2) := by decide +kernel
theorem dX0_countLevel_58 : decode cX0_countLevel 58 = .ok (.iload 5, 2) := by decide +kernel
theorem dX0_countLevel_60 : decode cX0_countLevel 60 = .ok (.if_icmp .eq 6, 3) := by decide +kernel
theorem dX0_countLevel_63 : decode cX0_countLevel 63 = .ok (.iinc 2 1, 3) := by decide +kernel
theorem dX0_countLevel_66 : decode cX0_countLevel 66 = .ok (.aload_n 0, 1) := by decide +kernel
theorem dX0_countLevel_67 : decode cX0_countLevel 67 = .ok (.getfield 15, 3) := by decide +kernel
theorem dX0_countLevel_70 : decode cX0_countLevel 70 = .ok (.iload_n 3, 1) := by decide +kernel
theorem dX0_countLevel_71 : decode cX0_countLevel 71 = .ok (.iload 6, 2) := by decide +kernel
theorem dX0_countLevel_73 : decode cX0_countLevel 73 = .ok (.iastore, 1) := by decide +kernel
theorem dX0_countLevel_74 : decode cX0_countLevel 74 = .ok (.iinc 3 1, 3) := by decide +kernel
theorem dX0_countLevel_77 : decode cX0_countLevel 77 = .ok (.goto (-65), 3) := by decide +kernel
theorem dX0_countLevel_80 : decode cX0_countLevel 80 = .ok (.iload_n 2, 1) := by decide +kernel
theorem dX0_countLevel_81 : decode cX0_countLevel 81 = .ok (.ireturn, 1) := by decide +kernel
theorem dX0_kindOf_0 : decode cX0_kindOf 0 = .ok (.aload_n 0, 1) := by decide +kernel
theorem dX0_kindOf_1 : decode cX0_kindOf 1 = .ok (.getfield 31, 3) := by decide +kernel
theorem dX0_kindOf_4 : decode cX0_kindOf 4 = .ok (.iload_n 2, 1) := by decide +kernel
theorem dX0_kindOf_5 : decode cX0_kindOf 5 = .ok (.iaload, 1) := by decide +kernel
theorem dX0_kindOf_6 : decode cX0_kindOf 6 = .ok (.istore 4, 2) := by decide +kernel
theorem dX0_kindOf_8 : decode cX0_kindOf 8 = .ok (.iload_n 1, 1) := by decide +kernel
theorem dX0_kindOf_9 : decode cX0_kindOf 9 = .ok (.istore 5, 2) := by decide +kernel
theorem dX0_kindOf_11 : decode cX0_kindOf 11 = .ok (.iload 5, 2) := by decide +kernel
theorem dX0_kindOf_13 : decode cX0_kindOf 13 = .ok (.ifCond .le 38, 3) := by decide +kernel
theorem dX0_kindOf_16 : decode cX0_kindOf 16 = .ok (.iload 4, 2) := by decide +kernel
theorem dX0_kindOf_18 : decode cX0_kindOf 18 = .ok (.iconst (-1), 1) := by decide +kernel
theorem dX0_kindOf_19 : decode cX0_kindOf 19 = .ok (.if_icmp .eq 32, 3) := by decide +kernel
theorem dX0_kindOf_22 : decode cX0_kindOf 22 = .ok (.aload_n 0, 1) := by decide +kernel
theorem dX0_kindOf_23 : decode cX0_kindOf 23 = .ok (.getfield 19, 3) := by decide +kernel
theorem dX0_kindOf_26 : decode cX0_kindOf 26 = .ok (.iload 4, 2) := by decide +kernel
theorem dX0_kindOf_28 : decode cX0_kindOf 28 = .ok (.iaload, 1) := by decide +kernel
theorem dX0_kindOf_29 : decode cX0_kindOf 29 = .ok (.iload_n 3, 1) := by decide +kernel
theorem dX0_kindOf_30 : decode cX0_kindOf 30 = .ok (.if_icmp .ne 6, 3) := by decide +kernel
theorem dX0_kindOf_33 : decode cX0_kindOf 33 = .ok (.iload 4, 2) := by decide +kernel
theorem dX0_kindOf_35 : decode cX0_kindOf 35 = .ok (.ireturn, 1) := by decide +kernel
theorem dX0_kindOf_36 : decode cX0_kindOf 36 = .ok (.aload_n 0, 1) := by decide +kernel
theorem dX0_kindOf_37 : decode cX0_kindOf 37 = .ok (.getfield 22, 3) := by decide +kernel
theorem dX0_kindOf_40 : decode cX0_kindOf 40 = .ok (.iload 4, 2) := by decide +kernel
theorem dX0_kindOf_42 : decode cX0_kindOf 42 = .ok (.iaload, 1) := by decide +kernel
theorem dX0_kindOf_43 : decode cX0_kindOf 43 = .ok (.istore 4, 2) := by decide +kernel
theorem dX0_kindOf_45 : decode cX0_kindOf 45 = .ok (.iinc 5 (-1), 3) := by decide +kernel
theorem dX0_kindOf_48 : decode cX0_kindOf 48 = .ok (.goto (-37), 3) := by decide +kernel
theorem dX0_kindOf_51 : decode cX0_kindOf 51 = .ok (.aload_n 0, 1) := by decide +kernel
theorem dX0_kindOf_52 : decode cX0_kindOf 52 = .ok (.getfield 19, 3) := by decide +kernel
theorem dX0_kindOf_55 : decode cX0_kindOf 55 = .ok (.iload_n 1, 1) := by decide +kernel
theorem dX0_kindOf_56 : decode cX0_kindOf 56 = .ok (.iload_n 3, 1) := by decide +kernel
theorem dX0_kindOf_57 : decode cX0_kindOf 57 = .ok (.iastore, 1) := by decide +kernel
theorem dX0_kindOf_58 : decode cX0_kindOf 58 = .ok (.aload_n 0, 1) := by decide +kernel
theorem dX0_kindOf_59 : decode cX0_kindOf 59 = .ok (.getfield 22, 3) := by decide +kernel
theorem dX0_kindOf_62 : decode cX0_kindOf 62 = .ok (.iload_n 1, 1) := by decide +kernel
theorem dX0_kindOf_63 : decode cX0_kindOf 63 = .ok (.aload_n 0, 1) := by decide +kernel
theorem dX0_kindOf_64 : decode cX0_kindOf 64 = .ok (.getfield 31, 3) := by decide +kernel
theorem dX0_kindOf_67 : decode cX0_kindOf 67 = .ok (.iload_n 2, 1) := by decide +kernel
theorem dX0_kindOf_68 : decode cX0_kindOf 68 = .ok (.iaload, 1) := by decide +kernel
theorem dX0_kindOf_69 : decode cX0_kindOf 69 = .ok (.iastore, 1) := by decide +kernel
theorem dX0_kindOf_70 : decode cX0_kindOf 70 = .ok (.aload_n 0, 1) := by decide +kernel
theorem dX0_kindOf_71 : decode cX0_kindOf 71 = .ok (.getfield 31, 3) := by decide +kernel
theorem dX0_kindOf_74 : decode cX0_kindOf 74 = .ok (.iload_n 2, 1) := by decide +kernel
theorem dX0_kindOf_75 : decode cX0_kindOf 75 = .ok (.iload_n 1, 1) := by decide +kernel
theorem dX0_kindOf_76 : decode cX0_kindOf 76 = .ok (.iastore, 1) := by decide +kernel
theorem dX0_kindOf_77 : decode cX0_kindOf 77 = .ok (.iload_n 1, 1) := by decide +kernel
theorem dX0_kindOf_78 : decode cX0_kindOf 78 = .ok (.ireturn, 1) := by decide +kernel
theorem dX1_init_0 : decode cX1_init 0 = .ok (.aload_n 0, 1) := by decide +kernel
theorem dX1_init_1 : decode cX1_init 1 = .ok (.invokespecial 1, 3) := by decide +kernel
theorem dX1_init_4 : decode cX1_init 4 = .ok (.aload_n 0, 1) := by decide +kernel
theorem dX1_init_5 : decode cX1_init 5 = .ok (.iconst 1, 1) := by decide +kernel
theorem dX1_init_6 : decode cX1_init 6 = .ok (.bipush 12, 2) := by decide +kernel
theorem dX1_init_8 : decode cX1_init 8 = .ok (.iload_n 1, 1) := by decide +kernel
theorem dX1_init_9 : decode cX1_init 9 = .ok (.invokestatic 9, 3) := by decide +kernel
theorem dX1_init_12 : decode cX1_init 12 = .ok (.invokestatic 15, 3) := by decide +kernel
theorem dX1_init_15 : decode cX1_init 15 = .ok (.putfield 18, 3) := by decide +kernel
theorem dX1_init_18 : decode cX1_init 18 = .ok (.aload_n 0, 1) := by decide +kernel
theorem dX1_init_19 : decode cX1_init 19 = .ok (.iconst 1, 1) := by decide +kernel
theorem dX1_init_20 : decode cX1_init 20 = .ok (.aload_n 0, 1) := by decide +kernel
theorem dX1_init_21 : decode cX1_init 21 = .ok (.getfield 18, 3) := by decide +kernel
theorem dX1_init_24 : decode cX1_init 24 = .ok (.ishl, 1) := by decide +kernel
theorem dX1_init_25 : decode cX1_init 25 = .ok (.putfield 22, 3) := by decide +kernel
theorem dX1_init_28 : decode cX1_init 28 = .ok (.aload_n 0, 1) := by decide +kernel
theorem dX1_init_29 : decode cX1_init 29 = .ok (.iconst 1, 1) := by decide +kernel
theorem dX1_init_30 : decode cX1_init 30 = .ok (.aload_n 0, 1) := by decide +kernel
theorem dX1_init_31 : decode cX1_init 31 = .ok (.getfield 22, 3) := by decide +kernel
theorem dX1_init_34 : decode cX1_init 34 = .ok (.bipush 64, 2) := by decide +kernel
theorem dX1_init_36 : decode cX1_init 36 = .ok (.idiv, 1) := by decide +kernel
theorem dX1_init_37 : decode cX1_init 37 = .ok (.invokestatic 15, 3) := by decide +kernel
theorem dX1_init_40 : decode cX1_init 40 = .ok (.putfield 25, 3) := by decide +kernel
theorem dX1_init_43 : decode cX1_init 43 = .ok (.aload_n 0, 1) := by decide +kernel
theorem dX1_init_44 : decode cX1_init 44 = .ok (.bipush 64, 2) := by decide +kernel
theorem dX1_init_46 : decode cX1_init 46 = .ok (.aload_n 0, 1) := by decide +kernel
theorem dX1_init_47 : decode cX1_init 47 = .ok (.getfield 22, 3) := by decide +kernel
theorem dX1_init_50 : decode cX1_init 50 = .ok (.invokestatic 9, 3) := by decide +kernel
theorem dX1_init_53 : decode cX1_init 53 = .ok (.putfield 28, 3) := by decide +kernel
theorem dX1_init_56 : decode cX1_init 56 = .ok (.aload_n 0, 1) := by decide +kernel
theorem dX1_init_57 : decode cX1_init 57 = .ok (.ldc2_w 31, 3) := by decide +kernel
theorem dX1_init_60 : decode cX1_init 60 = .ok (.bipush 64, 2) := by decide +kernel
theorem dX1_init_62 : decode cX1_init 62 = .ok (.aload_n 0, 1) := by decide +kernel
theorem dX1_init_63 : decode cX1_init 63 = .ok (.getfield 28, 3) := by decide +kernel
theorem dX1_init_66 : decode cX1_init 66 = .ok (.isub, 1) := by decide +kernel
theorem dX1_init_67 : decode cX1_init 67 = .ok (.lushr, 1) := by decide +kernel
theorem dX1_init_68 : decode cX1_init 68 = .ok (.putfield 33, 3) := by decide +kernel
theorem dX1_init_71 : decode cX1_init 71 = .ok (.aload_n 0, 1) := by decide +kernel
theorem dX1_init_72 : decode cX1_init 72 = .ok (.bipush 32, 2) := by decide +kernel
theorem dX1_init_74 : decode cX1_init 74 = .ok (.aload_n 0, 1) := by decide +kernel
theorem dX1_init_75 : decode cX1_init 75 = .ok (.getfield 25, 3) := by decide +kernel
theorem dX1_init_78 : decode cX1_init 78 = .ok (.multianewarray 37 2, 4) := by decide +kernel
theorem dX1_init_82 : decode cX1_init 82 = .ok (.putfield 39, 3) := by decide +kernel
theorem dX1_init_85 : decode cX1_init 85 = .ok (.aload_n 0, 1) := by decide +kernel
theorem dX1_init_86 : decode cX1_init 86 = .ok (.aload_n 0, 1) := by decide +kernel
theorem dX1_init_87 : decode cX1_init 87 = .ok (.getfield 25, 3) := by decide +kernel
theorem dX1_init_90 : decode cX1_init 90 = .ok (.newarray .long, 2) := by decide +kernel
theorem dX1_init_92 : decode cX1_init 92 = .ok (.putfield 42, 3) := by decide +kernel
theorem dX1_init_95 : decode cX1_init 95 = .ok (.aload_n 0, 1) := by decide +kernel
theorem dX1_init_96 : decode cX1_init 96 = .ok (.aload_n 0, 1) := by decide +kernel
theorem dX1_init_97 : decode cX1_init 97 = .ok (.getfield 25, 3) := by decide +kernel
theorem dX1_init_100 : decode cX1_init 100 = .ok (.newarray .long, 2) := by decide +kernel
theorem dX1_init_102 : decode cX1_init 102 = .ok (.putfield 46, 3) := by decide +kernel
theorem dX1_init_105 : decode cX1_init 105 = .ok (.aload_n 0, 1) := by decide +kernel
theorem dX1_init_106 : decode cX1_init 106 = .ok (.aload_n 0, 1) := by decide +kernel
theorem dX1_init_107 : decode cX1_init 107 = .ok (.getfield 28, 3) := by decide +kernel
theorem dX1_init_110 : decode cX1_init 110 = .ok (.newarray .int, 2) := by decide +kernel
theorem dX1_init_112 : decode cX1_init 112 = .ok (.putfield 49, 3) := by decide +kernel
theorem dX1_init_115 : decode cX1_init 115 = .ok (.aload_n 0, 1) := by decide +kernel
theorem dX1_init_116 : decode cX1_init 116 = .ok (.new 53, 3) := by decide +kernel
theorem dX1_init_119 : decode cX1_init 119 = .ok (.dup, 1) := by decide +kernel
theorem dX1_init_120 : decode cX1_init 120 = .ok (.aload_n 0, 1) := by decide +kernel
theorem dX1_init_121 : decode cX1_init 121 = .ok (.getfield 18, 3) := by decide +kernel
theorem dX1_init_124 : decode cX1_init 124 = .ok (.invokespecial 55, 3) := by decide +kernel
theorem dX1_init_127 : decode cX1_init 127 = .ok (.putfield 58, 3) := by decide +kernel
theorem dX1_init_130 : decode cX1_init 130 = .ok (.return_, 1) := by decide +kernel
theorem dX1_constant_0 : decode cX1_constant 0 = .ok (.iload_n 1, 1) := by decide +kernel
theorem dX1_constant_1 : decode cX1_constant 1 = .ok (.invokestatic 62, 3) := by decide +kernel
theorem dX1_constant_4 : decode cX1_constant 4 = .ok (.ifCond .eq 10, 3) := by decide +kernel
theorem dX1_constant_7 : decode cX1_constant 7 = .ok (.iload_n 2, 1) := by decide +kernel
theorem dX1_constant_8 : decode cX1_constant 8 = .ok (.invokestatic 66, 3) := by decide +kernel
theorem dX1_constant_11 : decode cX1_constant 11 = .ok (.ifCond .ne 5, 3) := by decide +kernel
theorem dX1_constant_14 : decode cX1_constant 14 = .ok (.iconst 0, 1) := by decide +kernel
theorem dX1_constant_15 : decode cX1_constant 15 = .ok (.ireturn, 1) := by decide +kernel
theorem dX1_constant_16 : decode cX1_constant 16 = .ok (.aload_n 0, 1) := by decide +kernel
theorem dX1_constant_17 : decode cX1_constant 17 = .ok (.getfield 39, 3) := by decide +kernel
theorem dX1_constant_20 : decode cX1_constant 20 = .ok (.iload_n 1, 1) := by decide +kernel
theorem dX1_constant_21 : decode cX1_constant 21 = .ok (.aaload, 1) := by decide +kernel
theorem dX1_constant_22 : decode cX1_constant 22 = .ok (.iload_n 2, 1) := by decide +kernel
theorem dX1_constant_23 : decode cX1_constant 23 = .ok (.iconst 1, 1) := by decide +kernel
theorem dX1_constant_24 : decode cX1_constant 24 = .ok (.if_icmp .ne 10, 3) := by decide +kernel
theorem dX1_constant_27 : decode cX1_constant 27 = .ok (.aload_n 0, 1) := by decide +kernel
theorem dX1_constant_28 : decode cX1_constant 28 = .ok (.getfield 33, 3) := by decide +kernel
theorem dX1_constant_31 : decode cX1_constant 31 = .ok (.goto 4, 3) := by decide +kernel
theorem dX1_constant_34 : decode cX1_constant 34 = .ok (.lconst 0, 1) := by decide +kernel
theorem dX1_constant_35 : decode cX1_constant 35 = .ok (.invokestatic 69, 3) := by decide +kernel
theorem dX1_constant_38 : decode cX1_constant 38 = .ok (.iconst 1, 1) := by decide +kernel
theorem dX1_constant_39 : decode cX1_constant 39 = .ok (.ireturn, 1) := by decide +kernel
theorem dX1_variable_0 : decode cX1_variable 0 = .ok (.iload_n 1, 1) := by decide +kernel
theorem dX1_variable_1 : decode cX1_variable 1 = .ok (.invokestatic 62, 3) := by decide +kernel
theorem dX1_variable_4 : decode cX1_variable 4 = .ok (.ifCond .eq 11, 3) := by decide +kernel
theorem dX1_variable_7 : decode cX1_variable 7 = .ok (.aload_n 0, 1) := by decide +kernel
theorem dX1_variable_8 : decode cX1_variable 8 = .ok (.iload_n 2, 1) := by decide +kernel
theorem dX1_variable_9 : decode cX1_variable 9 = .ok (.invokevirtual 75, 3) := by decide +kernel
theorem dX1_variable_12 : decode cX1_variable 12 = .ok (.ifCond .ne 5, 3) := by decide +kernel
theorem dX1_variable_15 : decode cX1_variable 15 = .ok (.iconst 0, 1) := by decide +kernel
theorem dX1_variable_16 : decode cX1_variable 16 = .ok (.ireturn, 1) := by decide +kernel
theorem dX1_variable_17 : decode cX1_variable 17 = .ok (.aload_n 0, 1) := by decide +kernel
theorem dX1_variable_18 : decode cX1_variable 18 = .ok (.iload_n 2, 1) := by decide +kernel
theorem dX1_variable_19 : decode cX1_variable 19 = .ok (.invokevirtual 78, 3) := by decide +kernel
theorem dX1_variable_22 : decode cX1_variable 22 = .ok (.istore_n 3, 1) := by decide +kernel
theorem dX1_variable_23 : decode cX1_variable 23 = .ok (.iconst 0, 1) := by decide +kernel
theorem dX1_variable_24 : decode cX1_variable 24 = .ok (.istore 4, 2) := by decide +kernel
theorem dX1_variable_26 : decode cX1_variable 26 = .ok (.iload 4, 2) := by decide +kernel
theorem dX1_variable_28 : decode cX1_variable 28 = .ok (.aload_n 0, 1) := by decide +kernel
theorem dX1_variable_29 : decode cX1_variable 29 = .ok (.getfield 25, 3) := by decide +kernel
theorem dX1_variable_32 : decode cX1_variable 32 = .ok (.if_icmp .ge 25, 3) := by decide +kernel
theorem dX1_variable_35 : decode cX1_variable 35 = .ok (.aload_n 0, 1) := by decide +kernel
theorem dX1_variable_36 : decode cX1_variable 36 = .ok (.getfield 39, 3) := by decide +kernel
theorem dX1_variable_39 : decode cX1_variable 39 = .ok (.iload_n 1, 1) := by decide +kernel
theorem dX1_variable_40 : decode cX1_variable 40 = .ok (.aaload, 1) := by decide +kernel
theorem dX1_variable_41 : decode cX1_variable 41 = .ok (.iload 4, 2) := by decide +kernel
theorem dX1_variable_43 : decode cX1_variable 43 = .ok (.aload_n 0, 1) := by decide +kernel
theorem dX1_variable_44 : decode cX1_variable 44 = .ok (.iload 4, 2) := by decide +kernel
theorem dX1_variable_46 : decode cX1_variable 46 = .ok (.iload_n 3, 1) := by decide +kernel
theorem dX1_variable_47 : decode cX1_variable 47 = .ok (.invokevirtual 82, 3) := by decide +kernel
theorem dX1_variable_50 : decode cX1_variable 50 = .ok (.lastore, 1) := by decide +kernel
theorem dX1_variable_51 : decode cX1_variable 51 = .ok (.iinc 4 1, 3) := by decide +kernel
theorem dX1_variable_54 : decode cX1_variable 54 = .ok (.goto (-28), 3) := by decide +kernel
theorem dX1_variable_57 : decode cX1_variable 57 = .ok (.iconst 1, 1) := by decide +kernel
theorem dX1_variable_58 : decode cX1_variable 58 = .ok (.ireturn, 1) := by decide +kernel
theorem dX1_combine_0 : decode cX1_combine 0 = .ok (.iload_n 1, 1) := by decide +kernel
theorem dX1_combine_1 : decode cX1_combine 1 = .ok (.invokestatic 62, 3) := by decide +kernel
theorem dX1_combine_4 : decode cX1_combine 4 = .ok (.ifCond .eq 27, 3) := by decide +kernel
theorem dX1_combine_7 : decode cX1_combine 7 = .ok (.iload_n 2, 1) := by decide +kernel
theorem dX1_combine_8 : decode cX1_combine 8 = .ok (.ifCond .lt 23, 3) := by decide +kernel
theorem dX1_combine_11 : decode cX1_combine 11 = .ok (.iload_n 2, 1) := by decide +kernel
theorem dX1_combine_12 : decode cX1_combine 12 = .ok (.iconst 3, 1) := by decide +kernel
theorem dX1_combine_13 : decode cX1_combine 13 = .ok (.if_icmp .gt 18, 3) := by decide +kernel
theorem dX1_combine_16 : decode cX1_combine 16 = .ok (.iload_n 3, 1) := by decide +kernel
theorem dX1_combine_17 : decode cX1_combine 17 = .ok (.invokestatic 62, 3) := by decide +kernel
theorem dX1_combine_20 : decode cX1_combine 20 = .ok (.ifCond .eq 11, 3) := by decide +kernel
theorem dX1_combine_23 : decode cX1_combine 23 = .ok (.iload 4, 2) := by decide +kernel
theorem dX1_combine_25 : decode cX1_combine 25 = .ok (.invokestatic 62, 3) := by decide +kernel
theorem dX1_combine_28 : decode cX1_combine 28 = .ok (.ifCond .ne 5, 3) := by decide +kernel
theorem dX1_combine_31 : decode cX1_combine 31 = .ok (.iconst 0, 1) := by decide +kernel
theorem dX1_combine_32 : decode cX1_combine 32 = .ok (.ireturn, 1) := by decide +kernel
theorem dX1_combine_33 : decode cX1_combine 33 = .ok (.iconst 0, 1) := by decide +kernel
theorem dX1_combine_34 : decode cX1_combine 34 = .ok (.istore 5, 2) := by decide +kernel
theorem dX1_combine_36 : decode cX1_combine 36 = .ok (.iload 5, 2) := by decide +kernel
theorem dX1_combine_38 : decode cX1_combine 38 = .ok (.aload_n 0, 1) := by decide +kernel
theorem dX1_combine_39 : decode cX1_combine 39 = .ok (.getfield 25, 3) := by decide +kernel
theorem dX1_combine_42 : decode cX1_combine 42 = .ok (.if_icmp .ge 41, 3) := by decide +kernel
theorem dX1_combine_45 : decode cX1_combine 45 = .ok (.aload_n 0, 1) := by decide +kernel
theorem dX1_combine_46 : decode cX1_combine 46 = .ok (.getfield 39, 3) := by decide +kernel
theorem dX1_combine_49 : decode cX1_combine 49 = .ok (.iload_n 1, 1) := by decide +kernel
theorem dX1_combine_50 : decode cX1_combine 50 = .ok (.aaload, 1) := by decide +kernel
theorem dX1_combine_51 : decode cX1_combine 51 = .ok (.iload 5, 2) := by decide +kernel
theorem dX1_combine_53 : decode cX1_combine 53 = .ok (.iload_n 2, 1) := by decide +kernel
theorem dX1_combine_54 : decode cX1_combine 54 = .ok (.aload_n 0, 1) := by decide +kernel
theorem dX1_combine_55 : decode cX1_combine 55 = .ok (.getfield 39, 3) := by decide +kernel
theorem dX1_combine_58 : decode cX1_combine 58 = .ok (.iload_n 3, 1) := by decide +kernel
theorem dX1_combine_59 : decode cX1_combine 59 = .ok (.aaload, 1) := by decide +kernel
theorem dX1_combine_60 : decode cX1_combine 60 = .ok (.iload 5, 2) := by decide +kernel
theorem dX1_combine_62 : decode cX1_combine 62 = .ok (.laload, 1) := by decide +kernel
theorem dX1_combine_63 : decode cX1_combine 63 = .ok (.aload_n 0, 1) := by decide +kernel
theorem dX1_combine_64 : decode cX1_combine 64 = .ok (.getfield 39, 3) := by decide +kernel
theorem dX1_combine_67 : decode cX1_combine 67 = .ok (.iload 4, 2) := by decide +kernel
theorem dX1_combine_69 : decode cX1_combine 69 = .ok (.aaload, 1) := by decide +kernel
theorem dX1_combine_70 : decode cX1_combine 70 = .ok (.iload 5, 2) := by decide +kernel
theorem dX1_combine_72 : decode cX1_combine 72 = .ok (.laload, 1) := by decide +kernel
theorem dX1_combine_73 : decode cX1_combine 73 = .ok (.invokestatic 86, 3) := by decide +kernel
theorem dX1_combine_76 : decode cX1_combine 76 = .ok (.lastore, 1) := by decide +kernel
theorem dX1_combine_77 : decode cX1_combine 77 = .ok (.iinc 5 1, 3) := by decide +kernel
theorem dX1_combine_80 : decode cX1_combine 80 = .ok (.goto (-44), 3) := by decide +kernel
theorem dX1_combine_83 : decode cX1_combine 83 = .ok (.iconst 1, 1) := by decide +kernel
theorem dX1_combine_84 : decode cX1_combine 84 = .ok (.ireturn, 1) := by decide +kernel
theorem dX1_choose_0 : decode cX1_choose 0 = .ok (.iload_n 1, 1) := by decide +kernel
theorem dX1_choose_1 : decode cX1_choose 1 = .ok (.invokestatic 62, 3) := by decide +kernel
theorem dX1_choose_4 : decode cX1_choose 4 = .ok (.ifCond .eq 25, 3) := by decide +kernel
theorem dX1_choose_7 : decode cX1_choose 7 = .ok (.iload_n 2, 1) := by decide +kernel
theorem dX1_choose_8 : decode cX1_choose 8 = .ok (.invokestatic 62, 3) := by decide +kernel
theorem dX1_choose_11 : decode cX1_choose 11 = .ok (.ifCond .eq 18, 3) := by decide +kernel
theorem dX1_choose_14 : decode cX1_choose 14 = .ok (.iload_n 3, 1) := by decide +kernel
theorem dX1_choose_15 : decode cX1_choose 15 = .ok (.invokestatic 62, 3) := by decide +kernel
theorem dX1_choose_18 : decode cX1_choose 18 = .ok (.ifCond .eq 11, 3) := by decide +kernel
theorem dX1_choose_21 : decode cX1_choose 21 = .ok (.iload 4, 2) := by decide +kernel
theorem dX1_choose_23 : decode cX1_choose 23 = .ok (.invokestatic 62, 3) := by decide +kernel
theorem dX1_choose_26 : decode cX1_choose 26 = .ok (.ifCond .ne 5, 3) := by decide +kernel
theorem dX1_choose_29 : decode cX1_choose 29 = .ok (.iconst 0, 1) := by decide +kernel
theorem dX1_choose_30 : decode cX1_choose 30 = .ok (.ireturn, 1) := by decide +kernel
theorem dX1_choose_31 : decode cX1_choose 31 = .ok (.iconst 0, 1) := by decide +kernel
theorem dX1_choose_32 : decode cX1_choose 32 = .ok (.istore 5, 2) := by decide +kernel
theorem dX1_choose_34 : decode cX1_choose 34 = .ok (.iload 5, 2) := by decide +kernel
theorem dX1_choose_36 : decode cX1_choose 36 = .ok (.aload_n 0, 1) := by decide +kernel
theorem dX1_choose_37 : decode cX1_choose 37 = .ok (.getfield 25, 3) := by decide +kernel
theorem dX1_choose_40 : decode cX1_choose 40 = .ok (.if_icmp .ge 49, 3) := by decide +kernel
theorem dX1_choose_43 : decode cX1_choose 43 = .ok (.aload_n 0, 1) := by decide +kernel
theorem dX1_choose_44 : decode cX1_choose 44 = .ok (.getfield 39, 3) := by decide +kernel
theorem dX1_choose_47 : decode cX1_choose 47 = .ok (.iload_n 1, 1) := by decide +kernel
theorem dX1_choose_48 : decode cX1_choose 48 = .ok (.aaload, 1) := by decide +kernel
theorem dX1_choose_49 : decode cX1_choose 49 = .ok (.iload 5, 2) := by decide +kernel
theorem dX1_choose_51 : decode cX1_choose 51 = .ok (.aload_n 0, 1) := by decide +kernel
theorem dX1_choose_52 : decode cX1_choose 52 = .ok (.getfield 39, 3) := by decide +kernel
theorem dX1_choose_55 : decode cX1_choose 55 = .ok (.iload_n 2, 1) := by decide +kernel
theorem dX1_choose_56 : decode cX1_choose 56 = .ok (.aaload, 1) := by decide +kernel
theorem dX1_choose_57 : decode cX1_choose 57 = .ok (.iload 5, 2) := by decide +kernel
theorem dX1_choose_59 : decode cX1_choose 59 = .ok (.laload, 1) := by decide +kernel
theorem dX1_choose_60 : decode cX1_choose 60 = .ok (.aload_n 0, 1) := by decide +kernel
theorem dX1_choose_61 : decode cX1_choose 61 = .ok (.getfield 39, 3) := by decide +kernel
theorem dX1_choose_64 : decode cX1_choose 64 = .ok (.iload_n 3, 1) := by decide +kernel
theorem dX1_choose_65 : decode cX1_choose 65 = .ok (.aaload, 1) := by decide +kernel
theorem dX1_choose_66 : decode cX1_choose 66 = .ok (.iload 5, 2) := by decide +kernel
theorem dX1_choose_68 : decode cX1_choose 68 = .ok (.laload, 1) := by decide +kernel
theorem dX1_choose_69 : decode cX1_choose 69 = .ok (.aload_n 0, 1) := by decide +kernel
theorem dX1_choose_70 : decode cX1_choose 70 = .ok (.getfield 39, 3) := by decide +kernel
theorem dX1_choose_73 : decode cX1_choose 73 = .ok (.iload 4, 2) := by decide +kernel
theorem dX1_choose_75 : decode cX1_choose 75 = .ok (.aaload, 1) := by decide +kernel
theorem dX1_choose_76 : decode cX1_choose 76 = .ok (.iload 5, 2) := by decide +kernel
theorem dX1_choose_78 : decode cX1_choose 78 = .ok (.laload, 1) := by decide +kernel
theorem dX1_choose_79 : decode cX1_choose 79 = .ok (.invokestatic 90, 3) := by decide +kernel
theorem dX1_choose_82 : decode cX1_choose 82 = .ok (.lastore, 1) := by decide +kernel
theorem dX1_choose_83 : decode cX1_choose 83 = .ok (.iinc 5 1, 3) := by decide +kernel
theorem dX1_choose_86 : decode cX1_choose 86 = .ok (.goto (-52), 3) := by decide +kernel
theorem dX1_choose_89 : decode cX1_choose 89 = .ok (.iconst 1, 1) := by decide +kernel
theorem dX1_choose_90 : decode cX1_choose 90 = .ok (.ireturn, 1) := by decide +kernel
theorem dX1_fix_0 : decode cX1_fix 0 = .ok (.iload_n 1, 1) := by decide +kernel
theorem dX1_fix_1 : decode cX1_fix 1 = .ok (.invokestatic 62, 3) := by decide +kernel
theorem dX1_fix_4 : decode cX1_fix 4 = .ok (.ifCond .eq 26, 3) := by decide +kernel
theorem dX1_fix_7 : decode cX1_fix 7 = .ok (.iload_n 2, 1) := by decide +kernel
theorem dX1_fix_8 : decode cX1_fix 8 = .ok (.invokestatic 62, 3) := by decide +kernel
theorem dX1_fix_11 : decode cX1_fix 11 = .ok (.ifCond .eq 19, 3) := by decide +kernel
theorem dX1_fix_14 : decode cX1_fix 14 = .ok (.aload_n 0, 1) := by decide +kernel
theorem dX1_fix_15 : decode cX1_fix 15 = .ok (.iload_n 3, 1) := by decide +kernel
theorem dX1_fix_16 : decode cX1_fix 16 = .ok (.invokevirtual 75, 3) := by decide +kernel
theorem dX1_fix_19 : decode cX1_fix 19 = .ok (.ifCond .eq 11, 3) := by decide +kernel
theorem dX1_fix_22 : decode cX1_fix 22 = .ok (.iload 4, 2) := by decide +kernel
theorem dX1_fix_24 : decode cX1_fix 24 = .ok (.invokestatic 66, 3) := by decide +kernel
theorem dX1_fix_27 : decode cX1_fix 27 = .ok (.ifCond .ne 5, 3) := by decide +kernel
theorem dX1_fix_30 : decode cX1_fix 30 = .ok (.iconst 0, 1) := by decide +kernel
theorem dX1_fix_31 : decode cX1_fix 31 = .ok (.ireturn, 1) := by decide +kernel
theorem dX1_fix_32 : decode cX1_fix 32 = .ok (.aload_n 0, 1) := by decide +kernel
theorem dX1_fix_33 : decode cX1_fix 33 = .ok (.iload_n 3, 1) := by decide +kernel
theorem dX1_fix_34 : decode cX1_fix 34 = .ok (.invokevirtual 78, 3) := by decide +kernel
theorem dX1_fix_37 : decode cX1_fix 37 = .ok (.istore 5, 2) := by decide +kernel
theorem dX1_fix_39 : decode cX1_fix 39 = .ok (.iconst 0, 1) := by decide +kernel
theorem dX1_fix_40 : decode cX1_fix 40 = .ok (.istore 6, 2) := by decide +kernel
theorem dX1_fix_42 : decode cX1_fix 42 = .ok (.iload 6, 2) := by decide +kernel
theorem dX1_fix_44 : decode cX1_fix 44 = .ok (.aload_n 0, 1) := by decide +kernel
theorem dX1_fix_45 : decode cX1_fix 45 = .ok (.getfield 25, 3) := by decide +kernel
theorem dX1_fix_48 : decode cX1_fix 48 = .ok (.if_icmp .ge 79, 3) := by decide +kernel
theorem dX1_fix_51 : decode cX1_fix 51 = .ok (.aload_n 0, 1) := by decide +kernel
theorem dX1_fix_52 : decode cX1_fix 52 = .ok (.getfield 39, 3) := by decide +kernel
theorem dX1_fix_55 : decode cX1_fix 55 = .ok (.iload_n 2, 1) := by decide +kernel
theorem dX1_fix_56 : decode cX1_fix 56 = .ok (.aaload, 1) := by decide +kernel
theorem dX1_fix_57 : decode cX1_fix 57 = .ok (.iload 6, 2) := by decide +kernel
theorem dX1_fix_59 : decode cX1_fix 59 = .ok (.laload, 1) := by decide +kernel
theorem dX1_fix_60 : decode cX1_fix 60 = .ok (.lstore 7, 2) := by decide +kernel
theorem dX1_fix_62 : decode cX1_fix 62 = .ok (.aload_n 0, 1) := by decide +kernel
theorem dX1_fix_63 : decode cX1_fix 63 = .ok (.getfield 39, 3) := by decide +kernel
theorem dX1_fix_66 : decode cX1_fix 66 = .ok (.iload_n 2, 1) := by decide +kernel
theorem dX1_fix_67 : decode cX1_fix 67 = .ok (.aaload, 1) := by decide +kernel
theorem dX1_fix_68 : decode cX1_fix 68 = .ok (.iload 6, 2) := by decide +kernel
theorem dX1_fix_70 : decode cX1_fix 70 = .ok (.iload 5, 2) := by decide +kernel
theorem dX1_fix_72 : decode cX1_fix 72 = .ok (.invokestatic 94, 3) := by decide +kernel
theorem dX1_fix_75 : decode cX1_fix 75 = .ok (.lstore 9, 2) := by decide +kernel
theorem dX1_fix_77 : decode cX1_fix 77 = .ok (.aload_n 0, 1) := by decide +kernel
theorem dX1_fix_78 : decode cX1_fix 78 = .ok (.iload 6, 2) := by decide +kernel
theorem dX1_fix_80 : decode cX1_fix 80 = .ok (.iload 5, 2) := by decide +kernel
theorem dX1_fix_82 : decode cX1_fix 82 = .ok (.invokevirtual 82, 3) := by decide +kernel
theorem dX1_fix_85 : decode cX1_fix 85 = .ok (.lstore 11, 2) := by decide +kernel
theorem dX1_fix_87 : decode cX1_fix 87 = .ok (.aload_n 0, 1) := by decide +kernel
theorem dX1_fix_88 : decode cX1_fix 88 = .ok (.getfield 42, 3) := by decide +kernel
theorem dX1_fix_91 : decode cX1_fix 91 = .ok (.iload 6, 2) := by decide +kernel
theorem dX1_fix_93 : decode cX1_fix 93 = .ok (.iload 4, 2) := by decide +kernel
theorem dX1_fix_95 : decode cX1_fix 95 = .ok (.iconst 1, 1) := by decide +kernel
theorem dX1_fix_96 : decode cX1_fix 96 = .ok (.if_icmp .ne 15, 3) := by decide +kernel
theorem dX1_fix_99 : decode cX1_fix 99 = .ok (.lload 11, 2) := by decide +kernel
theorem dX1_fix_101 : decode cX1_fix 101 = .ok (.lload 7, 2) := by decide +kernel
theorem dX1_fix_103 : decode cX1_fix 103 = .ok (.lload 9, 2) := by decide +kernel
theorem dX1_fix_105 : decode cX1_fix 105 = .ok (.invokestatic 90, 3) := by decide +kernel
theorem dX1_fix_108 : decode cX1_fix 108 = .ok (.goto 12, 3) := by decide +kernel
theorem dX1_fix_111 : decode cX1_fix 111 = .ok (.lload 11, 2) := by decide +kernel
theorem dX1_fix_113 : decode cX1_fix 113 = .ok (.lload 9, 2) := by decide +kernel
theorem dX1_fix_115 : decode cX1_fix 115 = .ok (.lload 7, 2) := by decide +kernel
theorem dX1_fix_117 : decode cX1_fix 117 = .ok (.invokestatic 90, 3) := by decide +kernel
theorem dX1_fix_120 : decode cX1_fix 120 = .ok (.lastore, 1) := by decide +kernel
theorem dX1_fix_121 : decode cX1_fix 121 = .ok (.iinc 6 1, 3) := by decide +kernel
theorem dX1_fix_124 : decode cX1_fix 124 = .ok (.goto (-82), 3) := by decide +kernel
theorem dX1_fix_127 : decode cX1_fix 127 = .ok (.aload_n 0, 1) := by decide +kernel
theorem dX1_fix_128 : decode cX1_fix 128 = .ok (.iload_n 1, 1) := by decide +kernel
theorem dX1_fix_129 : decode cX1_fix 129 = .ok (.invokevirtual 98, 3) := by decide +kernel
theorem dX1_fix_132 : decode cX1_fix 132 = .ok (.iconst 1, 1) := by decide +kernel
theorem dX1_fix_133 : decode cX1_fix 133 = .ok (.ireturn, 1) := by decide +kernel
theorem dX1_exists_0 : decode cX1_exists 0 = .ok (.iload_n 1, 1) := by decide +kernel
theorem dX1_exists_1 : decode cX1_exists 1 = .ok (.invokestatic 62, 3) := by decide +kernel
theorem dX1_exists_4 : decode cX1_exists 4 = .ok (.ifCond .eq 33, 3) := by decide +kernel
theorem dX1_exists_7 : decode cX1_exists 7 = .ok (.iload_n 2, 1) := by decide +kernel
theorem dX1_exists_8 : decode cX1_exists 8 = .ok (.invokestatic 62, 3) := by decide +kernel
theorem dX1_exists_11 : decode cX1_exists 11 = .ok (.ifCond .eq 26, 3) := by decide +kernel
theorem dX1_exists_14 : decode cX1_exists 14 = .ok (.aload_n 0, 1) := by decide +kernel
theorem dX1_exists_15 : decode cX1_exists 15 = .ok (.iload_n 3, 1) := by decide +kernel
theorem dX1_exists_16 : decode cX1_exists 16 = .ok (.invokevirtual 75, 3) := by decide +kernel
theorem dX1_exists_19 : decode cX1_exists 19 = .ok (.ifCond .eq 18, 3) := by decide +kernel
theorem dX1_exists_22 : decode cX1_exists 22 = .ok (.aload_n 0, 1) := by decide +kernel
theorem dX1_exists_23 : decode cX1_exists 23 = .ok (.iload 4, 2) := by decide +kernel
theorem dX1_exists_25 : decode cX1_exists 25 = .ok (.invokevirtual 75, 3) := by decide +kernel
theorem dX1_exists_28 : decode cX1_exists 28 = .ok (.ifCond .eq 9, 3) := by decide +kernel
theorem dX1_exists_31 : decode cX1_exists 31 = .ok (.iload_n 3, 1) := by decide +kernel
theorem dX1_exists_32 : decode cX1_exists 32 = .ok (.iload 4, 2) := by decide +kernel
theorem dX1_exists_34 : decode cX1_exists 34 = .ok (.if_icmp .le 5, 3) := by decide +kernel
theorem dX1_exists_37 : decode cX1_exists 37 = .ok (.iconst 0, 1) := by decide +kernel
theorem dX1_exists_38 : decode cX1_exists 38 = .ok (.ireturn, 1) := by decide +kernel
theorem dX1_exists_39 : decode cX1_exists 39 = .ok (.aload_n 0, 1) := by decide +kernel
theorem dX1_exists_40 : decode cX1_exists 40 = .ok (.getfield 39, 3) := by decide +kernel
theorem dX1_exists_43 : decode cX1_exists 43 = .ok (.iload_n 2, 1) := by decide +kernel
theorem dX1_exists_44 : decode cX1_exists 44 = .ok (.aaload, 1) := by decide +kernel
theorem dX1_exists_45 : decode cX1_exists 45 = .ok (.iconst 0, 1) := by decide +kernel
theorem dX1_exists_46 : decode cX1_exists 46 = .ok (.aload_n 0, 1) := by decide +kernel
theorem dX1_exists_47 : decode cX1_exists 47 = .ok (.getfield 42, 3) := by decide +kernel
theorem dX1_exists_50 : decode cX1_exists 50 = .ok (.iconst 0, 1) := by decide +kernel
theorem dX1_exists_51 : decode cX1_exists 51 = .ok (.aload_n 0, 1) := by decide +kernel
theorem dX1_exists_52 : decode cX1_exists 52 = .ok (.getfield 25, 3) := by decide +kernel
theorem dX1_exists_55 : decode cX1_exists 55 = .ok (.invokestatic 101, 3) := by decide +kernel
theorem dX1_exists_58 : decode cX1_exists 58 = .ok (.iload_n 3, 1) := by decide +kernel
theorem dX1_exists_59 : decode cX1_exists 59 = .ok (.istore 5, 2) := by decide +kernel
theorem dX1_exists_61 : decode cX1_exists 61 = .ok (.iload 5, 2) := by decide +kernel
theorem dX1_exists_63 : decode cX1_exists 63 = .ok (.iload 4, 2) := by decide +kernel
theorem dX1_exists_65 : decode cX1_exists 65 = .ok (.if_icmp .gt 23, 3) := by decide +kernel
theorem dX1_exists_68 : decode cX1_exists 68 = .ok (.aload_n 0, 1) := by decide +kernel
theorem dX1_exists_69 : decode cX1_exists 69 = .ok (.aload_n 0, 1) := by decide +kernel
theorem dX1_exists_70 : decode cX1_exists 70 = .ok (.getfield 42, 3) := by decide +kernel
theorem dX1_exists_73 : decode cX1_exists 73 = .ok (.aload_n 0, 1) := by decide +kernel
theorem dX1_exists_74 : decode cX1_exists 74 = .ok (.iload 5, 2) := by decide +kernel
theorem dX1_exists_76 : decode cX1_exists 76 = .ok (.invokevirtual 78, 3) := by decide +kernel
theorem dX1_exists_79 : decode cX1_exists 79 = .ok (.invokevirtual 107, 3) := by decide +kernel
theorem dX1_exists_82 : decode cX1_exists 82 = .ok (.iinc 5 1, 3) := by decide +kernel
theorem dX1_exists_85 : decode cX1_exists 85 = .ok (.goto (-24), 3) := by decide +kernel
theorem dX1_exists_88 : decode cX1_exists 88 = .ok (.aload_n 0, 1) := by decide +kernel
theorem dX1_exists_89 : decode cX1_exists 89 = .ok (.iload_n 1, 1) := by decide +kernel
theorem dX1_exists_90 : decode cX1_exists 90 = .ok (.invokevirtual 98, 3) := by decide +kernel
theorem dX1_exists_93 : decode cX1_exists 93 = .ok (.iconst 1, 1) := by decide +kernel
theorem dX1_exists_94 : decode cX1_exists 94 = .ok (.ireturn, 1) := by decide +kernel
theorem dX1_substitute_0 : decode cX1_substitute 0 = .ok (.iload_n 1, 1) := by decide +kernel
theorem dX1_substitute_1 : decode cX1_substitute 1 = .ok (.invokestatic 62, 3) := by decide +kernel
theorem dX1_substitute_4 : decode cX1_substitute 4 = .ok (.ifCond .eq 21, 3) := by decide +kernel
theorem dX1_substitute_7 : decode cX1_substitute 7 = .ok (.iload_n 2, 1) := by decide +kernel
theorem dX1_substitute_8 : decode cX1_substitute 8 = .ok (.invokestatic 62, 3) := by decide +kernel
theorem dX1_substitute_11 : decode cX1_substitute 11 = .ok (.ifCond .eq 14, 3) := by decide +kernel
theorem dX1_substitute_14 : decode cX1_substitute 14 = .ok (.iload_n 3, 1) := by decide +kernel
theorem dX1_substitute_15 : decode cX1_substitute 15 = .ok (.aload_n 0, 1) := by decide +kernel
theorem dX1_substitute_16 : decode cX1_substitute 16 = .ok (.getfield 18, 3) := by decide +kernel
theorem dX1_substitute_19 : decode cX1_substitute 19 = .ok (.invokestatic 111, 3) := by decide +kernel
theorem dX1_substitute_22 : decode cX1_substitute 22 = .ok (.ifCond .ne 5, 3) := by decide +kernel
theorem dX1_substitute_25 : decode cX1_substitute 25 = .ok (.iconst 0, 1) := by decide +kernel
theorem dX1_substitute_26 : decode cX1_substitute 26 = .ok (.ireturn, 1) := by decide +kernel
theorem dX1_substitute_27 : decode cX1_substitute 27 = .ok (.iconst 0, 1) := by decide +kernel
theorem dX1_substitute_28 : decode cX1_substitute 28 = .ok (.istore 4, 2) := by decide +kernel
theorem dX1_substitute_30 : decode cX1_substitute 30 = .ok (.iload 4, 2) := by decide +kernel
theorem dX1_substitute_32 : decode cX1_substitute 32 = .ok (.aload_n 0, 1) := by decide +kernel
theorem dX1_substitute_33 : decode cX1_substitute 33 = .ok (.getfield 25, 3) := by decide +kernel
theorem dX1_substitute_36 : decode cX1_substitute 36 = .ok (.if_icmp .ge 75, 3) := by decide +kernel
theorem dX1_substitute_39 : decode cX1_substitute 39 = .ok (.aload_n 0, 1) := by decide +kernel
theorem dX1_substitute_40 : decode cX1_substitute 40 = .ok (.iload_n 3, 1) := by decide +kernel
theorem dX1_substitute_41 : decode cX1_substitute 41 = .ok (.aload_n 0, 1) := by decide +kernel
theorem dX1_substitute_42 : decode cX1_substitute 42 = .ok (.getfield 18, 3) := by decide +kernel
theorem dX1_substitute_45 : decode cX1_substitute 45 = .ok (.iload 4, 2) := by decide +kernel
theorem dX1_substitute_47 : decode cX1_substitute 47 = .ok (.invokevirtual 115, 3) := by decide +kernel
theorem dX1_substitute_50 : decode cX1_substitute 50 = .ok (.lconst 0, 1) := by decide +kernel
theorem dX1_substitute_51 : decode cX1_substitute 51 = .ok (.lstore 5, 2) := by decide +kernel
theorem dX1_substitute_53 : decode cX1_substitute 53 = .ok (.iconst 0, 1) := by decide +kernel
theorem dX1_substitute_54 : decode cX1_substitute 54 = .ok (.istore 7, 2) := by decide +kernel
theorem dX1_substitute_56 : decode cX1_substitute 56 = .ok (.iload 7, 2) := by decide +kernel
theorem dX1_substitute_58 : decode cX1_substitute 58 = .ok (.aload_n 0, 1) := by decide +kernel
theorem dX1_substitute_59 : decode cX1_substitute 59 = .ok (.getfield 28, 3) := by decide +kernel
theorem dX1_substitute_62 : decode cX1_substitute 62 = .ok (.if_icmp .ge 34, 3) := by decide +kernel
theorem dX1_substitute_65 : decode cX1_substitute 65 = .ok (.lload 5, 2) := by decide +kernel
theorem dX1_substitute_67 : decode cX1_substitute 67 = .ok (.aload_n 0, 1) := by decide +kernel
theorem dX1_substitute_68 : decode cX1_substitute 68 = .ok (.getfield 39, 3) := by decide +kernel
theorem dX1_substitute_71 : decode cX1_substitute 71 = .ok (.iload_n 2, 1) := by decide +kernel
theorem dX1_substitute_72 : decode cX1_substitute 72 = .ok (.aaload, 1) := by decide +kernel
theorem dX1_substitute_73 : decode cX1_substitute 73 = .ok (.aload_n 0, 1) := by decide +kernel
theorem dX1_substitute_74 : decode cX1_substitute 74 = .ok (.getfield 49, 3) := by decide +kernel
theorem dX1_substitute_77 : decode cX1_substitute 77 = .ok (.iload 7, 2) := by decide +kernel
theorem dX1_substitute_79 : decode cX1_substitute 79 = .ok (.iaload, 1) := by decide +kernel
theorem dX1_substitute_80 : decode cX1_substitute 80 = .ok (.invokestatic 119, 3) := by decide +kernel
theorem dX1_substitute_83 : decode cX1_substitute 83 = .ok (.i2l, 1) := by decide +kernel
theorem dX1_substitute_84 : decode cX1_substitute 84 = .ok (.iload 7, 2) := by decide +kernel
theorem dX1_substitute_86 : decode cX1_substitute 86 = .ok (.lshl, 1) := by decide +kernel
theorem dX1_substitute_87 : decode cX1_substitute 87 = .ok (.lor, 1) := by decide +kernel
theorem dX1_substitute_88 : decode cX1_substitute 88 = .ok (.lstore 5, 2) := by decide +kernel
theorem dX1_substitute_90 : decode cX1_substitute 90 = .ok (.iinc 7 1, 3) := by decide +kernel
theorem dX1_substitute_93 : decode cX1_substitute 93 = .ok (.goto (-37), 3) := by decide +kernel
theorem dX1_substitute_96 : decode cX1_substitute 96 = .ok (.aload_n 0, 1) := by decide +kernel
theorem dX1_substitute_97 : decode cX1_substitute 97 = .ok (.getfield 42, 3) := by decide +kernel
theorem dX1_substitute_100 : decode cX1_substitute 100 = .ok (.iload 4, 2) := by decide +kernel
theorem dX1_substitute_102 : decode cX1_substitute 102 = .ok (.lload 5, 2) := by decide +kernel
theorem dX1_substitute_104 : decode cX1_substitute 104 = .ok (.lastore, 1) := by decide +kernel
theorem dX1_substitute_105 : decode cX1_substitute 105 = .ok (.iinc 4 1, 3) := by decide +kernel
theorem dX1_substitute_108 : decode cX1_substitute 108 = .ok (.goto (-78), 3) := by decide +kernel
theorem dX1_substitute_111 : decode cX1_substitute 111 = .ok (.aload_n 0, 1) := by decide +kernel
theorem dX1_substitute_112 : decode cX1_substitute 112 = .ok (.iload_n 1, 1) := by decide +kernel
theorem dX1_substitute_113 : decode cX1_substitute 113 = .ok (.invokevirtual 98, 3) := by decide +kernel
theorem dX1_substitute_116 : decode cX1_substitute 116 = .ok (.iconst 1, 1) := by decide +kernel
theorem dX1_substitute_117 : decode cX1_substitute 117 = .ok (.ireturn, 1) := by decide +kernel
theorem dX1_nearest_0 : decode cX1_nearest 0 = .ok (.iload_n 1, 1) := by decide +kernel
theorem dX1_nearest_1 : decode cX1_nearest 1 = .ok (.invokestatic 62, 3) := by decide +kernel
theorem dX1_nearest_4 : decode cX1_nearest 4 = .ok (.ifCond .eq 17, 3) := by decide +kernel
theorem dX1_nearest_7 : decode cX1_nearest 7 = .ok (.iload_n 2, 1) := by decide +kernel
theorem dX1_nearest_8 : decode cX1_nearest 8 = .ok (.invokestatic 62, 3) := by decide +kernel
theorem dX1_nearest_11 : decode cX1_nearest 11 = .ok (.ifCond .eq 10, 3) := by decide +kernel
theorem dX1_nearest_14 : decode cX1_nearest 14 = .ok (.iload_n 3, 1) := by decide +kernel
theorem dX1_nearest_15 : decode cX1_nearest 15 = .ok (.invokestatic 62, 3) := by decide +kernel
theorem dX1_nearest_18 : decode cX1_nearest 18 = .ok (.ifCond .ne 5, 3) := by decide +kernel
theorem dX1_nearest_21 : decode cX1_nearest 21 = .ok (.iconst 0, 1) := by decide +kernel
theorem dX1_nearest_22 : decode cX1_nearest 22 = .ok (.ireturn, 1) := by decide +kernel
theorem dX1_nearest_23 : decode cX1_nearest 23 = .ok (.iconst 0, 1) := by decide +kernel
theorem dX1_nearest_24 : decode cX1_nearest 24 = .ok (.istore 4, 2) := by decide +kernel
theorem dX1_nearest_26 : decode cX1_nearest 26 = .ok (.iload 4, 2) := by decide +kernel
theorem dX1_nearest_28 : decode cX1_nearest 28 = .ok (.aload_n 0, 1) := by decide +kernel
theorem dX1_nearest_29 : decode cX1_nearest 29 = .ok (.getfield 25, 3) := by decide +kernel
theorem dX1_nearest_32 : decode cX1_nearest 32 = .ok (.if_icmp .ge 51, 3) := by decide +kernel
theorem dX1_nearest_35 : decode cX1_nearest 35 = .ok (.aload_n 0, 1) := by decide +kernel
theorem dX1_nearest_36 : decode cX1_nearest 36 = .ok (.getfield 46, 3) := by decide +kernel
theorem dX1_nearest_39 : decode cX1_nearest 39 = .ok (.iload 4, 2) := by decide +kernel
theorem dX1_nearest_41 : decode cX1_nearest 41 = .ok (.aload_n 0, 1) := by decide +kernel
theorem dX1_nearest_42 : decode cX1_nearest 42 = .ok (.getfield 39, 3) := by decide +kernel
theorem dX1_nearest_45 : decode cX1_nearest 45 = .ok (.iload_n 3, 1) := by decide +kernel
theorem dX1_nearest_46 : decode cX1_nearest 46 = .ok (.aaload, 1) := by decide +kernel
theorem dX1_nearest_47 : decode cX1_nearest 47 = .ok (.iload 4, 2) := by decide +kernel
theorem dX1_nearest_49 : decode cX1_nearest 49 = .ok (.laload, 1) := by decide +kernel
theorem dX1_nearest_50 : decode cX1_nearest 50 = .ok (.lastore, 1) := by decide +kernel
theorem dX1_nearest_51 : decode cX1_nearest 51 = .ok (.aload_n 0, 1) := by decide +kernel
theorem dX1_nearest_52 : decode cX1_nearest 52 = .ok (.getfield 42, 3) := by decide +kernel
theorem dX1_nearest_55 : decode cX1_nearest 55 = .ok (.iload 4, 2) := by decide +kernel
theorem dX1_nearest_57 : decode cX1_nearest 57 = .ok (.aload_n 0, 1) := by decide +kernel
theorem dX1_nearest_58 : decode cX1_nearest 58 = .ok (.getfield 39, 3) := by decide +kernel
theorem dX1_nearest_61 : decode cX1_nearest 61 = .ok (.iload_n 2, 1) := by decide +kernel
theorem dX1_nearest_62 : decode cX1_nearest 62 = .ok (.aaload, 1) := by decide +kernel
theorem dX1_nearest_63 : decode cX1_nearest 63 = .ok (.iload 4, 2) := by decide +kernel
theorem dX1_nearest_65 : decode cX1_nearest 65 = .ok (.laload, 1) := by decide +kernel
theorem dX1_nearest_66 : decode cX1_nearest 66 = .ok (.aload_n 0, 1) := by decide +kernel
theorem dX1_nearest_67 : decode cX1_nearest 67 = .ok (.getfield 39, 3) := by decide +kernel
theorem dX1_nearest_70 : decode cX1_nearest 70 = .ok (.iload_n 3, 1) := by decide +kernel
theorem dX1_nearest_71 : decode cX1_nearest 71 = .ok (.aaload, 1) := by decide +kernel
theorem dX1_nearest_72 : decode cX1_nearest 72 = .ok (.iload 4, 2) := by decide +kernel
theorem dX1_nearest_74 : decode cX1_nearest 74 = .ok (.laload, 1) := by decide +kernel
theorem dX1_nearest_75 : decode cX1_nearest 75 = .ok (.land, 1) := by decide +kernel
theorem dX1_nearest_76 : decode cX1_nearest 76 = .ok (.lastore, 1) := by decide +kernel
theorem dX1_nearest_77 : decode cX1_nearest 77 = .ok (.iinc 4 1, 3) := by decide +kernel
theorem dX1_nearest_80 : decode cX1_nearest 80 = .ok (.goto (-54), 3) := by decide +kernel
theorem dX1_nearest_83 : decode cX1_nearest 83 = .ok (.iconst 0, 1) := by decide +kernel
theorem dX1_nearest_84 : decode cX1_nearest 84 = .ok (.istore 4, 2) := by decide +kernel
theorem dX1_nearest_86 : decode cX1_nearest 86 = .ok (.iload 4, 2) := by decide +kernel
