theorem dX1_nearest_88 : decode cX1_nearest 88 = .ok (.aload_n 0, 1) := by decide +kernel
theorem dX1_nearest_89 : decode cX1_nearest 89 = .ok (.getfield 18, 3) := by decide +kernel
theorem dX1_nearest_92 : decode cX1_nearest 92 = .ok (.if_icmp .ge 70, 3) := by decide +kernel
theorem dX1_nearest_95 : decode cX1_nearest 95 = .ok (.iconst 0, 1) := by decide +kernel
theorem dX1_nearest_96 : decode cX1_nearest 96 = .ok (.istore 5, 2) := by decide +kernel
theorem dX1_nearest_98 : decode cX1_nearest 98 = .ok (.iload 5, 2) := by decide +kernel
theorem dX1_nearest_100 : decode cX1_nearest 100 = .ok (.aload_n 0, 1) := by decide +kernel
theorem dX1_nearest_101 : decode cX1_nearest 101 = .ok (.getfield 25, 3) := by decide +kernel
theorem dX1_nearest_104 : decode cX1_nearest 104 = .ok (.if_icmp .ge 42, 3) := by decide +kernel
theorem dX1_nearest_107 : decode cX1_nearest 107 = .ok (.aload_n 0, 1) := by decide +kernel
theorem dX1_nearest_108 : decode cX1_nearest 108 = .ok (.getfield 42, 3) := by decide +kernel
theorem dX1_nearest_111 : decode cX1_nearest 111 = .ok (.iload 5, 2) := by decide +kernel
theorem dX1_nearest_113 : decode cX1_nearest 113 = .ok (.dup2, 1) := by decide +kernel
theorem dX1_nearest_114 : decode cX1_nearest 114 = .ok (.laload, 1) := by decide +kernel
theorem dX1_nearest_115 : decode cX1_nearest 115 = .ok (.aload_n 0, 1) := by decide +kernel
theorem dX1_nearest_116 : decode cX1_nearest 116 = .ok (.getfield 42, 3) := by decide +kernel
theorem dX1_nearest_119 : decode cX1_nearest 119 = .ok (.iload 5, 2) := by decide +kernel
theorem dX1_nearest_121 : decode cX1_nearest 121 = .ok (.iload 4, 2) := by decide +kernel
theorem dX1_nearest_123 : decode cX1_nearest 123 = .ok (.invokestatic 94, 3) := by decide +kernel
theorem dX1_nearest_126 : decode cX1_nearest 126 = .ok (.aload_n 0, 1) := by decide +kernel
theorem dX1_nearest_127 : decode cX1_nearest 127 = .ok (.getfield 46, 3) := by decide +kernel
theorem dX1_nearest_130 : decode cX1_nearest 130 = .ok (.iload 5, 2) := by decide +kernel
theorem dX1_nearest_132 : decode cX1_nearest 132 = .ok (.laload, 1) := by decide +kernel
theorem dX1_nearest_133 : decode cX1_nearest 133 = .ok (.ldc2_w 31, 3) := by decide +kernel
theorem dX1_nearest_136 : decode cX1_nearest 136 = .ok (.lxor, 1) := by decide +kernel
theorem dX1_nearest_137 : decode cX1_nearest 137 = .ok (.land, 1) := by decide +kernel
theorem dX1_nearest_138 : decode cX1_nearest 138 = .ok (.lor, 1) := by decide +kernel
theorem dX1_nearest_139 : decode cX1_nearest 139 = .ok (.lastore, 1) := by decide +kernel
theorem dX1_nearest_140 : decode cX1_nearest 140 = .ok (.iinc 5 1, 3) := by decide +kernel
theorem dX1_nearest_143 : decode cX1_nearest 143 = .ok (.goto (-45), 3) := by decide +kernel
theorem dX1_nearest_146 : decode cX1_nearest 146 = .ok (.aload_n 0, 1) := by decide +kernel
theorem dX1_nearest_147 : decode cX1_nearest 147 = .ok (.aload_n 0, 1) := by decide +kernel
theorem dX1_nearest_148 : decode cX1_nearest 148 = .ok (.getfield 46, 3) := by decide +kernel
theorem dX1_nearest_151 : decode cX1_nearest 151 = .ok (.iload 4, 2) := by decide +kernel
theorem dX1_nearest_153 : decode cX1_nearest 153 = .ok (.invokevirtual 107, 3) := by decide +kernel
theorem dX1_nearest_156 : decode cX1_nearest 156 = .ok (.iinc 4 1, 3) := by decide +kernel
theorem dX1_nearest_159 : decode cX1_nearest 159 = .ok (.goto (-73), 3) := by decide +kernel
theorem dX1_nearest_162 : decode cX1_nearest 162 = .ok (.aload_n 0, 1) := by decide +kernel
theorem dX1_nearest_163 : decode cX1_nearest 163 = .ok (.iload_n 1, 1) := by decide +kernel
theorem dX1_nearest_164 : decode cX1_nearest 164 = .ok (.invokevirtual 98, 3) := by decide +kernel
theorem dX1_nearest_167 : decode cX1_nearest 167 = .ok (.iconst 1, 1) := by decide +kernel
theorem dX1_nearest_168 : decode cX1_nearest 168 = .ok (.ireturn, 1) := by decide +kernel
theorem dX1_image_0 : decode cX1_image 0 = .ok (.iload_n 1, 1) := by decide +kernel
theorem dX1_image_1 : decode cX1_image 1 = .ok (.invokestatic 62, 3) := by decide +kernel
theorem dX1_image_4 : decode cX1_image 4 = .ok (.ifCond .eq 27, 3) := by decide +kernel
theorem dX1_image_7 : decode cX1_image 7 = .ok (.aload_n 0, 1) := by decide +kernel
theorem dX1_image_8 : decode cX1_image 8 = .ok (.iload_n 3, 1) := by decide +kernel
theorem dX1_image_9 : decode cX1_image 9 = .ok (.invokevirtual 75, 3) := by decide +kernel
theorem dX1_image_12 : decode cX1_image 12 = .ok (.ifCond .eq 19, 3) := by decide +kernel
theorem dX1_image_15 : decode cX1_image 15 = .ok (.iload_n 2, 1) := by decide +kernel
theorem dX1_image_16 : decode cX1_image 16 = .ok (.iload_n 3, 1) := by decide +kernel
theorem dX1_image_17 : decode cX1_image 17 = .ok (.invokestatic 111, 3) := by decide +kernel
theorem dX1_image_20 : decode cX1_image 20 = .ok (.ifCond .eq 11, 3) := by decide +kernel
theorem dX1_image_23 : decode cX1_image 23 = .ok (.iload 4, 2) := by decide +kernel
theorem dX1_image_25 : decode cX1_image 25 = .ok (.invokestatic 62, 3) := by decide +kernel
theorem dX1_image_28 : decode cX1_image 28 = .ok (.ifCond .ne 5, 3) := by decide +kernel
theorem dX1_image_31 : decode cX1_image 31 = .ok (.iconst 0, 1) := by decide +kernel
theorem dX1_image_32 : decode cX1_image 32 = .ok (.ireturn, 1) := by decide +kernel
theorem dX1_image_33 : decode cX1_image 33 = .ok (.aload_n 0, 1) := by decide +kernel
theorem dX1_image_34 : decode cX1_image 34 = .ok (.getfield 18, 3) := by decide +kernel
theorem dX1_image_37 : decode cX1_image 37 = .ok (.iload_n 3, 1) := by decide +kernel
theorem dX1_image_38 : decode cX1_image 38 = .ok (.isub, 1) := by decide +kernel
theorem dX1_image_39 : decode cX1_image 39 = .ok (.istore 5, 2) := by decide +kernel
theorem dX1_image_41 : decode cX1_image 41 = .ok (.aload_n 0, 1) := by decide +kernel
theorem dX1_image_42 : decode cX1_image 42 = .ok (.getfield 42, 3) := by decide +kernel
theorem dX1_image_45 : decode cX1_image 45 = .ok (.lconst 0, 1) := by decide +kernel
theorem dX1_image_46 : decode cX1_image 46 = .ok (.invokestatic 69, 3) := by decide +kernel
theorem dX1_image_49 : decode cX1_image 49 = .ok (.iconst 0, 1) := by decide +kernel
theorem dX1_image_50 : decode cX1_image 50 = .ok (.istore 6, 2) := by decide +kernel
theorem dX1_image_52 : decode cX1_image 52 = .ok (.iload 6, 2) := by decide +kernel
theorem dX1_image_54 : decode cX1_image 54 = .ok (.aload_n 0, 1) := by decide +kernel
theorem dX1_image_55 : decode cX1_image 55 = .ok (.getfield 25, 3) := by decide +kernel
theorem dX1_image_58 : decode cX1_image 58 = .ok (.if_icmp .ge 48, 3) := by decide +kernel
theorem dX1_image_61 : decode cX1_image 61 = .ok (.aload_n 0, 1) := by decide +kernel
theorem dX1_image_62 : decode cX1_image 62 = .ok (.getfield 39, 3) := by decide +kernel
theorem dX1_image_65 : decode cX1_image 65 = .ok (.iload 4, 2) := by decide +kernel
theorem dX1_image_67 : decode cX1_image 67 = .ok (.aaload, 1) := by decide +kernel
theorem dX1_image_68 : decode cX1_image 68 = .ok (.iload 6, 2) := by decide +kernel
theorem dX1_image_70 : decode cX1_image 70 = .ok (.laload, 1) := by decide +kernel
theorem dX1_image_71 : decode cX1_image 71 = .ok (.lconst 0, 1) := by decide +kernel
theorem dX1_image_72 : decode cX1_image 72 = .ok (.lcmp, 1) := by decide +kernel
theorem dX1_image_73 : decode cX1_image 73 = .ok (.ifCond .eq 27, 3) := by decide +kernel
theorem dX1_image_76 : decode cX1_image 76 = .ok (.aload_n 0, 1) := by decide +kernel
theorem dX1_image_77 : decode cX1_image 77 = .ok (.iload_n 2, 1) := by decide +kernel
theorem dX1_image_78 : decode cX1_image 78 = .ok (.iload_n 3, 1) := by decide +kernel
theorem dX1_image_79 : decode cX1_image 79 = .ok (.iload 6, 2) := by decide +kernel
theorem dX1_image_81 : decode cX1_image 81 = .ok (.invokevirtual 115, 3) := by decide +kernel
theorem dX1_image_84 : decode cX1_image 84 = .ok (.aload_n 0, 1) := by decide +kernel
theorem dX1_image_85 : decode cX1_image 85 = .ok (.aload_n 0, 1) := by decide +kernel
theorem dX1_image_86 : decode cX1_image 86 = .ok (.getfield 39, 3) := by decide +kernel
theorem dX1_image_89 : decode cX1_image 89 = .ok (.iload 4, 2) := by decide +kernel
theorem dX1_image_91 : decode cX1_image 91 = .ok (.aaload, 1) := by decide +kernel
theorem dX1_image_92 : decode cX1_image 92 = .ok (.iload 6, 2) := by decide +kernel
theorem dX1_image_94 : decode cX1_image 94 = .ok (.laload, 1) := by decide +kernel
theorem dX1_image_95 : decode cX1_image 95 = .ok (.iload 5, 2) := by decide +kernel
theorem dX1_image_97 : decode cX1_image 97 = .ok (.invokevirtual 123, 3) := by decide +kernel
theorem dX1_image_100 : decode cX1_image 100 = .ok (.iinc 6 1, 3) := by decide +kernel
theorem dX1_image_103 : decode cX1_image 103 = .ok (.goto (-51), 3) := by decide +kernel
theorem dX1_image_106 : decode cX1_image 106 = .ok (.iconst 0, 1) := by decide +kernel
theorem dX1_image_107 : decode cX1_image 107 = .ok (.istore 6, 2) := by decide +kernel
theorem dX1_image_109 : decode cX1_image 109 = .ok (.iload 6, 2) := by decide +kernel
theorem dX1_image_111 : decode cX1_image 111 = .ok (.iload 5, 2) := by decide +kernel
theorem dX1_image_113 : decode cX1_image 113 = .ok (.if_icmp .ge 19, 3) := by decide +kernel
theorem dX1_image_116 : decode cX1_image 116 = .ok (.aload_n 0, 1) := by decide +kernel
theorem dX1_image_117 : decode cX1_image 117 = .ok (.aload_n 0, 1) := by decide +kernel
theorem dX1_image_118 : decode cX1_image 118 = .ok (.getfield 42, 3) := by decide +kernel
theorem dX1_image_121 : decode cX1_image 121 = .ok (.iload 6, 2) := by decide +kernel
theorem dX1_image_123 : decode cX1_image 123 = .ok (.invokevirtual 107, 3) := by decide +kernel
theorem dX1_image_126 : decode cX1_image 126 = .ok (.iinc 6 1, 3) := by decide +kernel
theorem dX1_image_129 : decode cX1_image 129 = .ok (.goto (-20), 3) := by decide +kernel
theorem dX1_image_132 : decode cX1_image 132 = .ok (.aload_n 0, 1) := by decide +kernel
theorem dX1_image_133 : decode cX1_image 133 = .ok (.iload_n 1, 1) := by decide +kernel
theorem dX1_image_134 : decode cX1_image 134 = .ok (.invokevirtual 98, 3) := by decide +kernel
theorem dX1_image_137 : decode cX1_image 137 = .ok (.iconst 1, 1) := by decide +kernel
theorem dX1_image_138 : decode cX1_image 138 = .ok (.ireturn, 1) := by decide +kernel
theorem dX1_forks_0 : decode cX1_forks 0 = .ok (.iload_n 1, 1) := by decide +kernel
theorem dX1_forks_1 : decode cX1_forks 1 = .ok (.invokestatic 62, 3) := by decide +kernel
theorem dX1_forks_4 : decode cX1_forks 4 = .ok (.ifCond .eq 19, 3) := by decide +kernel
theorem dX1_forks_7 : decode cX1_forks 7 = .ok (.aload_n 0, 1) := by decide +kernel
theorem dX1_forks_8 : decode cX1_forks 8 = .ok (.getfield 58, 3) := by decide +kernel
theorem dX1_forks_11 : decode cX1_forks 11 = .ok (.aload_n 0, 1) := by decide +kernel
theorem dX1_forks_12 : decode cX1_forks 12 = .ok (.getfield 39, 3) := by decide +kernel
theorem dX1_forks_15 : decode cX1_forks 15 = .ok (.iload_n 1, 1) := by decide +kernel
theorem dX1_forks_16 : decode cX1_forks 16 = .ok (.aaload, 1) := by decide +kernel
theorem dX1_forks_17 : decode cX1_forks 17 = .ok (.invokevirtual 127, 3) := by decide +kernel
theorem dX1_forks_20 : decode cX1_forks 20 = .ok (.goto 4, 3) := by decide +kernel
theorem dX1_forks_23 : decode cX1_forks 23 = .ok (.iconst (-1), 1) := by decide +kernel
theorem dX1_forks_24 : decode cX1_forks 24 = .ok (.ireturn, 1) := by decide +kernel
theorem dX1_ones_0 : decode cX1_ones 0 = .ok (.iload_n 1, 1) := by decide +kernel
theorem dX1_ones_1 : decode cX1_ones 1 = .ok (.invokestatic 62, 3) := by decide +kernel
theorem dX1_ones_4 : decode cX1_ones 4 = .ok (.ifCond .ne 5, 3) := by decide +kernel
theorem dX1_ones_7 : decode cX1_ones 7 = .ok (.iconst (-1), 1) := by decide +kernel
theorem dX1_ones_8 : decode cX1_ones 8 = .ok (.ireturn, 1) := by decide +kernel
theorem dX1_ones_9 : decode cX1_ones 9 = .ok (.iconst 0, 1) := by decide +kernel
theorem dX1_ones_10 : decode cX1_ones 10 = .ok (.istore_n 2, 1) := by decide +kernel
theorem dX1_ones_11 : decode cX1_ones 11 = .ok (.iconst 0, 1) := by decide +kernel
theorem dX1_ones_12 : decode cX1_ones 12 = .ok (.istore_n 3, 1) := by decide +kernel
theorem dX1_ones_13 : decode cX1_ones 13 = .ok (.iload_n 3, 1) := by decide +kernel
theorem dX1_ones_14 : decode cX1_ones 14 = .ok (.aload_n 0, 1) := by decide +kernel
theorem dX1_ones_15 : decode cX1_ones 15 = .ok (.getfield 25, 3) := by decide +kernel
theorem dX1_ones_18 : decode cX1_ones 18 = .ok (.if_icmp .ge 23, 3) := by decide +kernel
theorem dX1_ones_21 : decode cX1_ones 21 = .ok (.iload_n 2, 1) := by decide +kernel
theorem dX1_ones_22 : decode cX1_ones 22 = .ok (.aload_n 0, 1) := by decide +kernel
theorem dX1_ones_23 : decode cX1_ones 23 = .ok (.getfield 39, 3) := by decide +kernel
theorem dX1_ones_26 : decode cX1_ones 26 = .ok (.iload_n 1, 1) := by decide +kernel
theorem dX1_ones_27 : decode cX1_ones 27 = .ok (.aaload, 1) := by decide +kernel
theorem dX1_ones_28 : decode cX1_ones 28 = .ok (.iload_n 3, 1) := by decide +kernel
theorem dX1_ones_29 : decode cX1_ones 29 = .ok (.laload, 1) := by decide +kernel
theorem dX1_ones_30 : decode cX1_ones 30 = .ok (.invokestatic 131, 3) := by decide +kernel
theorem dX1_ones_33 : decode cX1_ones 33 = .ok (.iadd, 1) := by decide +kernel
theorem dX1_ones_34 : decode cX1_ones 34 = .ok (.istore_n 2, 1) := by decide +kernel
theorem dX1_ones_35 : decode cX1_ones 35 = .ok (.iinc 3 1, 3) := by decide +kernel
theorem dX1_ones_38 : decode cX1_ones 38 = .ok (.goto (-25), 3) := by decide +kernel
theorem dX1_ones_41 : decode cX1_ones 41 = .ok (.iload_n 2, 1) := by decide +kernel
theorem dX1_ones_42 : decode cX1_ones 42 = .ok (.ireturn, 1) := by decide +kernel
theorem dX1_least_0 : decode cX1_least 0 = .ok (.iload_n 1, 1) := by decide +kernel
theorem dX1_least_1 : decode cX1_least 1 = .ok (.invokestatic 62, 3) := by decide +kernel
theorem dX1_least_4 : decode cX1_least 4 = .ok (.ifCond .ne 5, 3) := by decide +kernel
theorem dX1_least_7 : decode cX1_least 7 = .ok (.iconst (-1), 1) := by decide +kernel
theorem dX1_least_8 : decode cX1_least 8 = .ok (.ireturn, 1) := by decide +kernel
theorem dX1_least_9 : decode cX1_least 9 = .ok (.iconst 0, 1) := by decide +kernel
theorem dX1_least_10 : decode cX1_least 10 = .ok (.istore_n 2, 1) := by decide +kernel
theorem dX1_least_11 : decode cX1_least 11 = .ok (.iload_n 2, 1) := by decide +kernel
theorem dX1_least_12 : decode cX1_least 12 = .ok (.aload_n 0, 1) := by decide +kernel
theorem dX1_least_13 : decode cX1_least 13 = .ok (.getfield 25, 3) := by decide +kernel
theorem dX1_least_16 : decode cX1_least 16 = .ok (.if_icmp .ge 34, 3) := by decide +kernel
theorem dX1_least_19 : decode cX1_least 19 = .ok (.aload_n 0, 1) := by decide +kernel
theorem dX1_least_20 : decode cX1_least 20 = .ok (.getfield 39, 3) := by decide +kernel
theorem dX1_least_23 : decode cX1_least 23 = .ok (.iload_n 1, 1) := by decide +kernel
theorem dX1_least_24 : decode cX1_least 24 = .ok (.aaload, 1) := by decide +kernel
theorem dX1_least_25 : decode cX1_least 25 = .ok (.iload_n 2, 1) := by decide +kernel
theorem dX1_least_26 : decode cX1_least 26 = .ok (.laload, 1) := by decide +kernel
theorem dX1_least_27 : decode cX1_least 27 = .ok (.lstore_n 3, 1) := by decide +kernel
theorem dX1_least_28 : decode cX1_least 28 = .ok (.lload_n 3, 1) := by decide +kernel
theorem dX1_least_29 : decode cX1_least 29 = .ok (.lconst 0, 1) := by decide +kernel
theorem dX1_least_30 : decode cX1_least 30 = .ok (.lcmp, 1) := by decide +kernel
theorem dX1_least_31 : decode cX1_least 31 = .ok (.ifCond .eq 13, 3) := by decide +kernel
theorem dX1_least_34 : decode cX1_least 34 = .ok (.iload_n 2, 1) := by decide +kernel
theorem dX1_least_35 : decode cX1_least 35 = .ok (.bipush 64, 2) := by decide +kernel
theorem dX1_least_37 : decode cX1_least 37 = .ok (.imul, 1) := by decide +kernel
theorem dX1_least_38 : decode cX1_least 38 = .ok (.lload_n 3, 1) := by decide +kernel
theorem dX1_least_39 : decode cX1_least 39 = .ok (.invokestatic 137, 3) := by decide +kernel
theorem dX1_least_42 : decode cX1_least 42 = .ok (.iadd, 1) := by decide +kernel
theorem dX1_least_43 : decode cX1_least 43 = .ok (.ireturn, 1) := by decide +kernel
theorem dX1_least_44 : decode cX1_least 44 = .ok (.iinc 2 1, 3) := by decide +kernel
theorem dX1_least_47 : decode cX1_least 47 = .ok (.goto (-36), 3) := by decide +kernel
theorem dX1_least_50 : decode cX1_least 50 = .ok (.iconst (-1), 1) := by decide +kernel
theorem dX1_least_51 : decode cX1_least 51 = .ok (.ireturn, 1) := by decide +kernel
theorem dX1_at_0 : decode cX1_at 0 = .ok (.iload_n 1, 1) := by decide +kernel
theorem dX1_at_1 : decode cX1_at 1 = .ok (.invokestatic 62, 3) := by decide +kernel
theorem dX1_at_4 : decode cX1_at 4 = .ok (.ifCond .eq 15, 3) := by decide +kernel
theorem dX1_at_7 : decode cX1_at 7 = .ok (.iload_n 2, 1) := by decide +kernel
theorem dX1_at_8 : decode cX1_at 8 = .ok (.ifCond .lt 11, 3) := by decide +kernel
theorem dX1_at_11 : decode cX1_at 11 = .ok (.iload_n 2, 1) := by decide +kernel
theorem dX1_at_12 : decode cX1_at 12 = .ok (.aload_n 0, 1) := by decide +kernel
theorem dX1_at_13 : decode cX1_at 13 = .ok (.getfield 22, 3) := by decide +kernel
theorem dX1_at_16 : decode cX1_at 16 = .ok (.if_icmp .lt 5, 3) := by decide +kernel
theorem dX1_at_19 : decode cX1_at 19 = .ok (.iconst (-1), 1) := by decide +kernel
theorem dX1_at_20 : decode cX1_at 20 = .ok (.ireturn, 1) := by decide +kernel
theorem dX1_at_21 : decode cX1_at 21 = .ok (.aload_n 0, 1) := by decide +kernel
theorem dX1_at_22 : decode cX1_at 22 = .ok (.getfield 39, 3) := by decide +kernel
theorem dX1_at_25 : decode cX1_at 25 = .ok (.iload_n 1, 1) := by decide +kernel
theorem dX1_at_26 : decode cX1_at 26 = .ok (.aaload, 1) := by decide +kernel
theorem dX1_at_27 : decode cX1_at 27 = .ok (.iload_n 2, 1) := by decide +kernel
theorem dX1_at_28 : decode cX1_at 28 = .ok (.invokestatic 119, 3) := by decide +kernel
theorem dX1_at_31 : decode cX1_at 31 = .ok (.ireturn, 1) := by decide +kernel
theorem dX1_same_0 : decode cX1_same 0 = .ok (.iload_n 1, 1) := by decide +kernel
theorem dX1_same_1 : decode cX1_same 1 = .ok (.invokestatic 62, 3) := by decide +kernel
theorem dX1_same_4 : decode cX1_same 4 = .ok (.ifCond .eq 10, 3) := by decide +kernel
theorem dX1_same_7 : decode cX1_same 7 = .ok (.iload_n 2, 1) := by decide +kernel
theorem dX1_same_8 : decode cX1_same 8 = .ok (.invokestatic 62, 3) := by decide +kernel
theorem dX1_same_11 : decode cX1_same 11 = .ok (.ifCond .ne 5, 3) := by decide +kernel
theorem dX1_same_14 : decode cX1_same 14 = .ok (.iconst 0, 1) := by decide +kernel
theorem dX1_same_15 : decode cX1_same 15 = .ok (.ireturn, 1) := by decide +kernel
theorem dX1_same_16 : decode cX1_same 16 = .ok (.iconst 0, 1) := by decide +kernel
theorem dX1_same_17 : decode cX1_same 17 = .ok (.istore_n 3, 1) := by decide +kernel
theorem dX1_same_18 : decode cX1_same 18 = .ok (.iload_n 3, 1) := by decide +kernel
theorem dX1_same_19 : decode cX1_same 19 = .ok (.aload_n 0, 1) := by decide +kernel
theorem dX1_same_20 : decode cX1_same 20 = .ok (.getfield 25, 3) := by decide +kernel
theorem dX1_same_23 : decode cX1_same 23 = .ok (.if_icmp .ge 31, 3) := by decide +kernel
theorem dX1_same_26 : decode cX1_same 26 = .ok (.aload_n 0, 1) := by decide +kernel
theorem dX1_same_27 : decode cX1_same 27 = .ok (.getfield 39, 3) := by decide +kernel
theorem dX1_same_30 : decode cX1_same 30 = .ok (.iload_n 1, 1) := by decide +kernel
theorem dX1_same_31 : decode cX1_same 31 = .ok (.aaload, 1) := by decide +kernel
theorem dX1_same_32 : decode cX1_same 32 = .ok (.iload_n 3, 1) := by decide +kernel
theorem dX1_same_33 : decode cX1_same 33 = .ok (.laload, 1) := by decide +kernel
theorem dX1_same_34 : decode cX1_same 34 = .ok (.aload_n 0, 1) := by decide +kernel
theorem dX1_same_35 : decode cX1_same 35 = .ok (.getfield 39, 3) := by decide +kernel
theorem dX1_same_38 : decode cX1_same 38 = .ok (.iload_n 2, 1) := by decide +kernel
theorem dX1_same_39 : decode cX1_same 39 = .ok (.aaload, 1) := by decide +kernel
theorem dX1_same_40 : decode cX1_same 40 = .ok (.iload_n 3, 1) := by decide +kernel
theorem dX1_same_41 : decode cX1_same 41 = .ok (.laload, 1) := by decide +kernel
theorem dX1_same_42 : decode cX1_same 42 = .ok (.lcmp, 1) := by decide +kernel
theorem dX1_same_43 : decode cX1_same 43 = .ok (.ifCond .eq 5, 3) := by decide +kernel
theorem dX1_same_46 : decode cX1_same 46 = .ok (.iconst 0, 1) := by decide +kernel
theorem dX1_same_47 : decode cX1_same 47 = .ok (.ireturn, 1) := by decide +kernel
theorem dX1_same_48 : decode cX1_same 48 = .ok (.iinc 3 1, 3) := by decide +kernel
theorem dX1_same_51 : decode cX1_same 51 = .ok (.goto (-33), 3) := by decide +kernel
theorem dX1_same_54 : decode cX1_same 54 = .ok (.iconst 1, 1) := by decide +kernel
theorem dX1_same_55 : decode cX1_same 55 = .ok (.ireturn, 1) := by decide +kernel
theorem dX1_isRegister_0 : decode cX1_isRegister 0 = .ok (.iload_n 0, 1) := by decide +kernel
theorem dX1_isRegister_1 : decode cX1_isRegister 1 = .ok (.ifCond .lt 13, 3) := by decide +kernel
theorem dX1_isRegister_4 : decode cX1_isRegister 4 = .ok (.iload_n 0, 1) := by decide +kernel
theorem dX1_isRegister_5 : decode cX1_isRegister 5 = .ok (.bipush 32, 2) := by decide +kernel
theorem dX1_isRegister_7 : decode cX1_isRegister 7 = .ok (.if_icmp .ge 7, 3) := by decide +kernel
theorem dX1_isRegister_10 : decode cX1_isRegister 10 = .ok (.iconst 1, 1) := by decide +kernel
theorem dX1_isRegister_11 : decode cX1_isRegister 11 = .ok (.goto 4, 3) := by decide +kernel
theorem dX1_isRegister_14 : decode cX1_isRegister 14 = .ok (.iconst 0, 1) := by decide +kernel
theorem dX1_isRegister_15 : decode cX1_isRegister 15 = .ok (.ireturn, 1) := by decide +kernel
theorem dX1_areRegisters_0 : decode cX1_areRegisters 0 = .ok (.iload_n 0, 1) := by decide +kernel
theorem dX1_areRegisters_1 : decode cX1_areRegisters 1 = .ok (.ifCond .lt 15, 3) := by decide +kernel
theorem dX1_areRegisters_4 : decode cX1_areRegisters 4 = .ok (.iload_n 0, 1) := by decide +kernel
theorem dX1_areRegisters_5 : decode cX1_areRegisters 5 = .ok (.bipush 32, 2) := by decide +kernel
theorem dX1_areRegisters_7 : decode cX1_areRegisters 7 = .ok (.iload_n 1, 1) := by decide +kernel
theorem dX1_areRegisters_8 : decode cX1_areRegisters 8 = .ok (.isub, 1) := by decide +kernel
theorem dX1_areRegisters_9 : decode cX1_areRegisters 9 = .ok (.if_icmp .gt 7, 3) := by decide +kernel
theorem dX1_areRegisters_12 : decode cX1_areRegisters 12 = .ok (.iconst 1, 1) := by decide +kernel
theorem dX1_areRegisters_13 : decode cX1_areRegisters 13 = .ok (.goto 4, 3) := by decide +kernel
theorem dX1_areRegisters_16 : decode cX1_areRegisters 16 = .ok (.iconst 0, 1) := by decide +kernel
theorem dX1_areRegisters_17 : decode cX1_areRegisters 17 = .ok (.ireturn, 1) := by decide +kernel
theorem dX1_isVariable_0 : decode cX1_isVariable 0 = .ok (.iload_n 1, 1) := by decide +kernel
theorem dX1_isVariable_1 : decode cX1_isVariable 1 = .ok (.iconst 1, 1) := by decide +kernel
theorem dX1_isVariable_2 : decode cX1_isVariable 2 = .ok (.if_icmp .lt 15, 3) := by decide +kernel
theorem dX1_isVariable_5 : decode cX1_isVariable 5 = .ok (.iload_n 1, 1) := by decide +kernel
theorem dX1_isVariable_6 : decode cX1_isVariable 6 = .ok (.aload_n 0, 1) := by decide +kernel
theorem dX1_isVariable_7 : decode cX1_isVariable 7 = .ok (.getfield 18, 3) := by decide +kernel
theorem dX1_isVariable_10 : decode cX1_isVariable 10 = .ok (.if_icmp .gt 7, 3) := by decide +kernel
theorem dX1_isVariable_13 : decode cX1_isVariable 13 = .ok (.iconst 1, 1) := by decide +kernel
theorem dX1_isVariable_14 : decode cX1_isVariable 14 = .ok (.goto 4, 3) := by decide +kernel
theorem dX1_isVariable_17 : decode cX1_isVariable 17 = .ok (.iconst 0, 1) := by decide +kernel
theorem dX1_isVariable_18 : decode cX1_isVariable 18 = .ok (.ireturn, 1) := by decide +kernel
theorem dX1_isValue_0 : decode cX1_isValue 0 = .ok (.iload_n 0, 1) := by decide +kernel
theorem dX1_isValue_1 : decode cX1_isValue 1 = .ok (.ifCond .eq 8, 3) := by decide +kernel
theorem dX1_isValue_4 : decode cX1_isValue 4 = .ok (.iload_n 0, 1) := by decide +kernel
theorem dX1_isValue_5 : decode cX1_isValue 5 = .ok (.iconst 1, 1) := by decide +kernel
theorem dX1_isValue_6 : decode cX1_isValue 6 = .ok (.if_icmp .ne 7, 3) := by decide +kernel
theorem dX1_isValue_9 : decode cX1_isValue 9 = .ok (.iconst 1, 1) := by decide +kernel
theorem dX1_isValue_10 : decode cX1_isValue 10 = .ok (.goto 4, 3) := by decide +kernel
theorem dX1_isValue_13 : decode cX1_isValue 13 = .ok (.iconst 0, 1) := by decide +kernel
theorem dX1_isValue_14 : decode cX1_isValue 14 = .ok (.ireturn, 1) := by decide +kernel
theorem dX1_bitOf_0 : decode cX1_bitOf 0 = .ok (.aload_n 0, 1) := by decide +kernel
theorem dX1_bitOf_1 : decode cX1_bitOf 1 = .ok (.getfield 18, 3) := by decide +kernel
theorem dX1_bitOf_4 : decode cX1_bitOf 4 = .ok (.iload_n 1, 1) := by decide +kernel
theorem dX1_bitOf_5 : decode cX1_bitOf 5 = .ok (.isub, 1) := by decide +kernel
theorem dX1_bitOf_6 : decode cX1_bitOf 6 = .ok (.ireturn, 1) := by decide +kernel
theorem dX1_valueAt_0 : decode cX1_valueAt 0 = .ok (.aload_n 0, 1) := by decide +kernel
theorem dX1_valueAt_1 : decode cX1_valueAt 1 = .ok (.iload_n 1, 1) := by decide +kernel
theorem dX1_valueAt_2 : decode cX1_valueAt 2 = .ok (.bipush 64, 2) := by decide +kernel
theorem dX1_valueAt_4 : decode cX1_valueAt 4 = .ok (.idiv, 1) := by decide +kernel
theorem dX1_valueAt_5 : decode cX1_valueAt 5 = .ok (.laload, 1) := by decide +kernel
theorem dX1_valueAt_6 : decode cX1_valueAt 6 = .ok (.iload_n 1, 1) := by decide +kernel
theorem dX1_valueAt_7 : decode cX1_valueAt 7 = .ok (.bipush 64, 2) := by decide +kernel
theorem dX1_valueAt_9 : decode cX1_valueAt 9 = .ok (.irem, 1) := by decide +kernel
theorem dX1_valueAt_10 : decode cX1_valueAt 10 = .ok (.lushr, 1) := by decide +kernel
theorem dX1_valueAt_11 : decode cX1_valueAt 11 = .ok (.l2i, 1) := by decide +kernel
theorem dX1_valueAt_12 : decode cX1_valueAt 12 = .ok (.iconst 1, 1) := by decide +kernel
theorem dX1_valueAt_13 : decode cX1_valueAt 13 = .ok (.iand, 1) := by decide +kernel
theorem dX1_valueAt_14 : decode cX1_valueAt 14 = .ok (.ireturn, 1) := by decide +kernel
theorem dX1_lowestPlace_0 : decode cX1_lowestPlace 0 = .ok (.lload_n 0, 1) := by decide +kernel
theorem dX1_lowestPlace_1 : decode cX1_lowestPlace 1 = .ok (.lload_n 0, 1) := by decide +kernel
theorem dX1_lowestPlace_2 : decode cX1_lowestPlace 2 = .ok (.lneg, 1) := by decide +kernel
theorem dX1_lowestPlace_3 : decode cX1_lowestPlace 3 = .ok (.land, 1) := by decide +kernel
theorem dX1_lowestPlace_4 : decode cX1_lowestPlace 4 = .ok (.lconst 1, 1) := by decide +kernel
theorem dX1_lowestPlace_5 : decode cX1_lowestPlace 5 = .ok (.lsub, 1) := by decide +kernel
theorem dX1_lowestPlace_6 : decode cX1_lowestPlace 6 = .ok (.invokestatic 131, 3) := by decide +kernel
theorem dX1_lowestPlace_9 : decode cX1_lowestPlace 9 = .ok (.ireturn, 1) := by decide +kernel
theorem dX1_combined_0 : decode cX1_combined 0 = .ok (.iload_n 0, 1) := by decide +kernel
theorem dX1_combined_1 : decode cX1_combined 1 = .ok (.tableswitch 39 0 2 #[27, 31, 35], 27) := by decide +kernel
theorem dX1_combined_28 : decode cX1_combined 28 = .ok (.lload_n 1, 1) := by decide +kernel
theorem dX1_combined_29 : decode cX1_combined 29 = .ok (.lload_n 3, 1) := by decide +kernel
theorem dX1_combined_30 : decode cX1_combined 30 = .ok (.land, 1) := by decide +kernel
theorem dX1_combined_31 : decode cX1_combined 31 = .ok (.lreturn, 1) := by decide +kernel
theorem dX1_combined_32 : decode cX1_combined 32 = .ok (.lload_n 1, 1) := by decide +kernel
theorem dX1_combined_33 : decode cX1_combined 33 = .ok (.lload_n 3, 1) := by decide +kernel
theorem dX1_combined_34 : decode cX1_combined 34 = .ok (.lor, 1) := by decide +kernel
theorem dX1_combined_35 : decode cX1_combined 35 = .ok (.lreturn, 1) := by decide +kernel
theorem dX1_combined_36 : decode cX1_combined 36 = .ok (.lload_n 1, 1) := by decide +kernel
theorem dX1_combined_37 : decode cX1_combined 37 = .ok (.lload_n 3, 1) := by decide +kernel
theorem dX1_combined_38 : decode cX1_combined 38 = .ok (.lxor, 1) := by decide +kernel
theorem dX1_combined_39 : decode cX1_combined 39 = .ok (.lreturn, 1) := by decide +kernel
theorem dX1_combined_40 : decode cX1_combined 40 = .ok (.lload_n 1, 1) := by decide +kernel
theorem dX1_combined_41 : decode cX1_combined 41 = .ok (.lload_n 3, 1) := by decide +kernel
theorem dX1_combined_42 : decode cX1_combined 42 = .ok (.ldc2_w 31, 3) := by decide +kernel
theorem dX1_combined_45 : decode cX1_combined 45 = .ok (.lxor, 1) := by decide +kernel
theorem dX1_combined_46 : decode cX1_combined 46 = .ok (.land, 1) := by decide +kernel
theorem dX1_combined_47 : decode cX1_combined 47 = .ok (.lreturn, 1) := by decide +kernel
theorem dX1_chosen_0 : decode cX1_chosen 0 = .ok (.lload_n 0, 1) := by decide +kernel
theorem dX1_chosen_1 : decode cX1_chosen 1 = .ok (.lload_n 2, 1) := by decide +kernel
theorem dX1_chosen_2 : decode cX1_chosen 2 = .ok (.land, 1) := by decide +kernel
theorem dX1_chosen_3 : decode cX1_chosen 3 = .ok (.lload_n 0, 1) := by decide +kernel
theorem dX1_chosen_4 : decode cX1_chosen 4 = .ok (.ldc2_w 31, 3) := by decide +kernel
theorem dX1_chosen_7 : decode cX1_chosen 7 = .ok (.lxor, 1) := by decide +kernel
theorem dX1_chosen_8 : decode cX1_chosen 8 = .ok (.lload 4, 2) := by decide +kernel
theorem dX1_chosen_10 : decode cX1_chosen 10 = .ok (.land, 1) := by decide +kernel
theorem dX1_chosen_11 : decode cX1_chosen 11 = .ok (.lor, 1) := by decide +kernel
theorem dX1_chosen_12 : decode cX1_chosen 12 = .ok (.lreturn, 1) := by decide +kernel
theorem dX1_pointsWithBit_0 : decode cX1_pointsWithBit 0 = .ok (.iload_n 2, 1) := by decide +kernel
theorem dX1_pointsWithBit_1 : decode cX1_pointsWithBit 1 = .ok (.bipush 6, 2) := by decide +kernel
theorem dX1_pointsWithBit_3 : decode cX1_pointsWithBit 3 = .ok (.if_icmp .ge 14, 3) := by decide +kernel
theorem dX1_pointsWithBit_6 : decode cX1_pointsWithBit 6 = .ok (.getstatic 140, 3) := by decide +kernel
theorem dX1_pointsWithBit_9 : decode cX1_pointsWithBit 9 = .ok (.iload_n 2, 1) := by decide +kernel
theorem dX1_pointsWithBit_10 : decode cX1_pointsWithBit 10 = .ok (.laload, 1) := by decide +kernel
theorem dX1_pointsWithBit_11 : decode cX1_pointsWithBit 11 = .ok (.aload_n 0, 1) := by decide +kernel
theorem dX1_pointsWithBit_12 : decode cX1_pointsWithBit 12 = .ok (.getfield 33, 3) := by decide +kernel
theorem dX1_pointsWithBit_15 : decode cX1_pointsWithBit 15 = .ok (.land, 1) := by decide +kernel
theorem dX1_pointsWithBit_16 : decode cX1_pointsWithBit 16 = .ok (.lreturn, 1) := by decide +kernel
theorem dX1_pointsWithBit_17 : decode cX1_pointsWithBit 17 = .ok (.iload_n 1, 1) := by decide +kernel
theorem dX1_pointsWithBit_18 : decode cX1_pointsWithBit 18 = .ok (.iload_n 2, 1) := by decide +kernel
theorem dX1_pointsWithBit_19 : decode cX1_pointsWithBit 19 = .ok (.bipush 6, 2) := by decide +kernel
theorem dX1_pointsWithBit_21 : decode cX1_pointsWithBit 21 = .ok (.isub, 1) := by decide +kernel
theorem dX1_pointsWithBit_22 : decode cX1_pointsWithBit 22 = .ok (.iushr, 1) := by decide +kernel
theorem dX1_pointsWithBit_23 : decode cX1_pointsWithBit 23 = .ok (.iconst 1, 1) := by decide +kernel
theorem dX1_pointsWithBit_24 : decode cX1_pointsWithBit 24 = .ok (.iand, 1) := by decide +kernel
theorem dX1_pointsWithBit_25 : decode cX1_pointsWithBit 25 = .ok (.iconst 1, 1) := by decide +kernel
theorem dX1_pointsWithBit_26 : decode cX1_pointsWithBit 26 = .ok (.if_icmp .ne 10, 3) := by decide +kernel
theorem dX1_pointsWithBit_29 : decode cX1_pointsWithBit 29 = .ok (.aload_n 0, 1) := by decide +kernel
theorem dX1_pointsWithBit_30 : decode cX1_pointsWithBit 30 = .ok (.getfield 33, 3) := by decide +kernel
theorem dX1_pointsWithBit_33 : decode cX1_pointsWithBit 33 = .ok (.goto 4, 3) := by decide +kernel
theorem dX1_pointsWithBit_36 : decode cX1_pointsWithBit 36 = .ok (.lconst 0, 1) := by decide +kernel
theorem dX1_pointsWithBit_37 : decode cX1_pointsWithBit 37 = .ok (.lreturn, 1) := by decide +kernel
theorem dX1_acrossBit_0 : decode cX1_acrossBit 0 = .ok (.iload_n 2, 1) := by decide +kernel
theorem dX1_acrossBit_1 : decode cX1_acrossBit 1 = .ok (.bipush 6, 2) := by decide +kernel
theorem dX1_acrossBit_3 : decode cX1_acrossBit 3 = .ok (.if_icmp .lt 14, 3) := by decide +kernel
theorem dX1_acrossBit_6 : decode cX1_acrossBit 6 = .ok (.aload_n 0, 1) := by decide +kernel
theorem dX1_acrossBit_7 : decode cX1_acrossBit 7 = .ok (.iload_n 1, 1) := by decide +kernel
theorem dX1_acrossBit_8 : decode cX1_acrossBit 8 = .ok (.iconst 1, 1) := by decide +kernel
theorem dX1_acrossBit_9 : decode cX1_acrossBit 9 = .ok (.iload_n 2, 1) := by decide +kernel
theorem dX1_acrossBit_10 : decode cX1_acrossBit 10 = .ok (.bipush 6, 2) := by decide +kernel
theorem dX1_acrossBit_12 : decode cX1_acrossBit 12 = .ok (.isub, 1) := by decide +kernel
theorem dX1_acrossBit_13 : decode cX1_acrossBit 13 = .ok (.ishl, 1) := by decide +kernel
theorem dX1_acrossBit_14 : decode cX1_acrossBit 14 = .ok (.ixor, 1) := by decide +kernel
theorem dX1_acrossBit_15 : decode cX1_acrossBit 15 = .ok (.laload, 1) := by decide +kernel
theorem dX1_acrossBit_16 : decode cX1_acrossBit 16 = .ok (.lreturn, 1) := by decide +kernel
theorem dX1_acrossBit_17 : decode cX1_acrossBit 17 = .ok (.iconst 1, 1) := by decide +kernel
theorem dX1_acrossBit_18 : decode cX1_acrossBit 18 = .ok (.iload_n 2, 1) := by decide +kernel
theorem dX1_acrossBit_19 : decode cX1_acrossBit 19 = .ok (.ishl, 1) := by decide +kernel
theorem dX1_acrossBit_20 : decode cX1_acrossBit 20 = .ok (.istore_n 3, 1) := by decide +kernel
theorem dX1_acrossBit_21 : decode cX1_acrossBit 21 = .ok (.aload_n 0, 1) := by decide +kernel
theorem dX1_acrossBit_22 : decode cX1_acrossBit 22 = .ok (.iload_n 1, 1) := by decide +kernel
theorem dX1_acrossBit_23 : decode cX1_acrossBit 23 = .ok (.laload, 1) := by decide +kernel
theorem dX1_acrossBit_24 : decode cX1_acrossBit 24 = .ok (.getstatic 140, 3) := by decide +kernel
theorem dX1_acrossBit_27 : decode cX1_acrossBit 27 = .ok (.iload_n 2, 1) := by decide +kernel
theorem dX1_acrossBit_28 : decode cX1_acrossBit 28 = .ok (.laload, 1) := by decide +kernel
theorem dX1_acrossBit_29 : decode cX1_acrossBit 29 = .ok (.land, 1) := by decide +kernel
theorem dX1_acrossBit_30 : decode cX1_acrossBit 30 = .ok (.lstore 4, 2) := by decide +kernel
theorem dX1_acrossBit_32 : decode cX1_acrossBit 32 = .ok (.aload_n 0, 1) := by decide +kernel
theorem dX1_acrossBit_33 : decode cX1_acrossBit 33 = .ok (.iload_n 1, 1) := by decide +kernel
theorem dX1_acrossBit_34 : decode cX1_acrossBit 34 = .ok (.laload, 1) := by decide +kernel
theorem dX1_acrossBit_35 : decode cX1_acrossBit 35 = .ok (.getstatic 140, 3) := by decide +kernel
theorem dX1_acrossBit_38 : decode cX1_acrossBit 38 = .ok (.iload_n 2, 1) := by decide +kernel
theorem dX1_acrossBit_39 : decode cX1_acrossBit 39 = .ok (.laload, 1) := by decide +kernel
theorem dX1_acrossBit_40 : decode cX1_acrossBit 40 = .ok (.ldc2_w 31, 3) := by decide +kernel
theorem dX1_acrossBit_43 : decode cX1_acrossBit 43 = .ok (.lxor, 1) := by decide +kernel
theorem dX1_acrossBit_44 : decode cX1_acrossBit 44 = .ok (.land, 1) := by decide +kernel
theorem dX1_acrossBit_45 : decode cX1_acrossBit 45 = .ok (.lstore 6, 2) := by decide +kernel
theorem dX1_acrossBit_47 : decode cX1_acrossBit 47 = .ok (.lload 4, 2) := by decide +kernel
theorem dX1_acrossBit_49 : decode cX1_acrossBit 49 = .ok (.iload_n 3, 1) := by decide +kernel
theorem dX1_acrossBit_50 : decode cX1_acrossBit 50 = .ok (.lushr, 1) := by decide +kernel
theorem dX1_acrossBit_51 : decode cX1_acrossBit 51 = .ok (.lload 6, 2) := by decide +kernel
theorem dX1_acrossBit_53 : decode cX1_acrossBit 53 = .ok (.iload_n 3, 1) := by decide +kernel
theorem dX1_acrossBit_54 : decode cX1_acrossBit 54 = .ok (.lshl, 1) := by decide +kernel
theorem dX1_acrossBit_55 : decode cX1_acrossBit 55 = .ok (.lor, 1) := by decide +kernel
theorem dX1_acrossBit_56 : decode cX1_acrossBit 56 = .ok (.lreturn, 1) := by decide +kernel
theorem dX1_spread_0 : decode cX1_spread 0 = .ok (.iconst 0, 1) := by decide +kernel
theorem dX1_spread_1 : decode cX1_spread 1 = .ok (.istore_n 3, 1) := by decide +kernel
theorem dX1_spread_2 : decode cX1_spread 2 = .ok (.iload_n 3, 1) := by decide +kernel
theorem dX1_spread_3 : decode cX1_spread 3 = .ok (.aload_n 0, 1) := by decide +kernel
theorem dX1_spread_4 : decode cX1_spread 4 = .ok (.getfield 25, 3) := by decide +kernel
theorem dX1_spread_7 : decode cX1_spread 7 = .ok (.if_icmp .ge 21, 3) := by decide +kernel
theorem dX1_spread_10 : decode cX1_spread 10 = .ok (.aload_n 1, 1) := by decide +kernel
theorem dX1_spread_11 : decode cX1_spread 11 = .ok (.iload_n 3, 1) := by decide +kernel
theorem dX1_spread_12 : decode cX1_spread 12 = .ok (.dup2, 1) := by decide +kernel
theorem dX1_spread_13 : decode cX1_spread 13 = .ok (.laload, 1) := by decide +kernel
theorem dX1_spread_14 : decode cX1_spread 14 = .ok (.aload_n 1, 1) := by decide +kernel
theorem dX1_spread_15 : decode cX1_spread 15 = .ok (.iload_n 3, 1) := by decide +kernel
theorem dX1_spread_16 : decode cX1_spread 16 = .ok (.iload_n 2, 1) := by decide +kernel
theorem dX1_spread_17 : decode cX1_spread 17 = .ok (.invokestatic 94, 3) := by decide +kernel
theorem dX1_spread_20 : decode cX1_spread 20 = .ok (.lor, 1) := by decide +kernel
theorem dX1_spread_21 : decode cX1_spread 21 = .ok (.lastore, 1) := by decide +kernel
theorem dX1_spread_22 : decode cX1_spread 22 = .ok (.iinc 3 1, 3) := by decide +kernel
theorem dX1_spread_25 : decode cX1_spread 25 = .ok (.goto (-23), 3) := by decide +kernel
theorem dX1_spread_28 : decode cX1_spread 28 = .ok (.return_, 1) := by decide +kernel
theorem dX1_readTuples_0 : decode cX1_readTuples 0 = .ok (.aload_n 0, 1) := by decide +kernel
theorem dX1_readTuples_1 : decode cX1_readTuples 1 = .ok (.getfield 49, 3) := by decide +kernel
theorem dX1_readTuples_4 : decode cX1_readTuples 4 = .ok (.iconst 0, 1) := by decide +kernel
theorem dX1_readTuples_5 : decode cX1_readTuples 5 = .ok (.invokestatic 143, 3) := by decide +kernel
theorem dX1_readTuples_8 : decode cX1_readTuples 8 = .ok (.iload_n 1, 1) := by decide +kernel
theorem dX1_readTuples_9 : decode cX1_readTuples 9 = .ok (.istore 4, 2) := by decide +kernel
theorem dX1_readTuples_11 : decode cX1_readTuples 11 = .ok (.iload 4, 2) := by decide +kernel
theorem dX1_readTuples_13 : decode cX1_readTuples 13 = .ok (.iload_n 1, 1) := by decide +kernel
theorem dX1_readTuples_14 : decode cX1_readTuples 14 = .ok (.iload_n 2, 1) := by decide +kernel
theorem dX1_readTuples_15 : decode cX1_readTuples 15 = .ok (.iadd, 1) := by decide +kernel
theorem dX1_readTuples_16 : decode cX1_readTuples 16 = .ok (.if_icmp .ge 63, 3) := by decide +kernel
theorem dX1_readTuples_19 : decode cX1_readTuples 19 = .ok (.aload_n 0, 1) := by decide +kernel
theorem dX1_readTuples_20 : decode cX1_readTuples 20 = .ok (.getfield 39, 3) := by decide +kernel
theorem dX1_readTuples_23 : decode cX1_readTuples 23 = .ok (.iload 4, 2) := by decide +kernel
theorem dX1_readTuples_25 : decode cX1_readTuples 25 = .ok (.aaload, 1) := by decide +kernel
theorem dX1_readTuples_26 : decode cX1_readTuples 26 = .ok (.iload_n 3, 1) := by decide +kernel
theorem dX1_readTuples_27 : decode cX1_readTuples 27 = .ok (.laload, 1) := by decide +kernel
theorem dX1_readTuples_28 : decode cX1_readTuples 28 = .ok (.lstore 5, 2) := by decide +kernel
theorem dX1_readTuples_30 : decode cX1_readTuples 30 = .ok (.iconst 0, 1) := by decide +kernel
theorem dX1_readTuples_31 : decode cX1_readTuples 31 = .ok (.istore 7, 2) := by decide +kernel
theorem dX1_readTuples_33 : decode cX1_readTuples 33 = .ok (.iload 7, 2) := by decide +kernel
theorem dX1_readTuples_35 : decode cX1_readTuples 35 = .ok (.aload_n 0, 1) := by decide +kernel
theorem dX1_readTuples_36 : decode cX1_readTuples 36 = .ok (.getfield 28, 3) := by decide +kernel
theorem dX1_readTuples_39 : decode cX1_readTuples 39 = .ok (.if_icmp .ge 34, 3) := by decide +kernel
theorem dX1_readTuples_42 : decode cX1_readTuples 42 = .ok (.aload_n 0, 1) := by decide +kernel
theorem dX1_readTuples_43 : decode cX1_readTuples 43 = .ok (.getfield 49, 3) := by decide +kernel
theorem dX1_readTuples_46 : decode cX1_readTuples 46 = .ok (.iload 7, 2) := by decide +kernel
theorem dX1_readTuples_48 : decode cX1_readTuples 48 = .ok (.aload_n 0, 1) := by decide +kernel
theorem dX1_readTuples_49 : decode cX1_readTuples 49 = .ok (.getfield 49, 3) := by decide +kernel
theorem dX1_readTuples_52 : decode cX1_readTuples 52 = .ok (.iload 7, 2) := by decide +kernel
theorem dX1_readTuples_54 : decode cX1_readTuples 54 = .ok (.iaload, 1) := by decide +kernel
theorem dX1_readTuples_55 : decode cX1_readTuples 55 = .ok (.iconst 1, 1) := by decide +kernel
theorem dX1_readTuples_56 : decode cX1_readTuples 56 = .ok (.ishl, 1) := by decide +kernel
theorem dX1_readTuples_57 : decode cX1_readTuples 57 = .ok (.lload 5, 2) := by decide +kernel
theorem dX1_readTuples_59 : decode cX1_readTuples 59 = .ok (.iload 7, 2) := by decide +kernel
theorem dX1_readTuples_61 : decode cX1_readTuples 61 = .ok (.lushr, 1) := by decide +kernel
theorem dX1_readTuples_62 : decode cX1_readTuples 62 = .ok (.l2i, 1) := by decide +kernel
theorem dX1_readTuples_63 : decode cX1_readTuples 63 = .ok (.iconst 1, 1) := by decide +kernel
theorem dX1_readTuples_64 : decode cX1_readTuples 64 = .ok (.iand, 1) := by decide +kernel
theorem dX1_readTuples_65 : decode cX1_readTuples 65 = .ok (.ior, 1) := by decide +kernel
theorem dX1_readTuples_66 : decode cX1_readTuples 66 = .ok (.iastore, 1) := by decide +kernel
theorem dX1_readTuples_67 : decode cX1_readTuples 67 = .ok (.iinc 7 1, 3) := by decide +kernel
theorem dX1_readTuples_70 : decode cX1_readTuples 70 = .ok (.goto (-37), 3) := by decide +kernel
theorem dX1_readTuples_73 : decode cX1_readTuples 73 = .ok (.iinc 4 1, 3) := by decide +kernel
theorem dX1_readTuples_76 : decode cX1_readTuples 76 = .ok (.goto (-65), 3) := by decide +kernel
theorem dX1_readTuples_79 : decode cX1_readTuples 79 = .ok (.return_, 1) := by decide +kernel
theorem dX1_markTuples_0 : decode cX1_markTuples 0 = .ok (.iconst 0, 1) := by decide +kernel
theorem dX1_markTuples_1 : decode cX1_markTuples 1 = .ok (.istore 4, 2) := by decide +kernel
theorem dX1_markTuples_3 : decode cX1_markTuples 3 = .ok (.iload 4, 2) := by decide +kernel
theorem dX1_markTuples_5 : decode cX1_markTuples 5 = .ok (.aload_n 0, 1) := by decide +kernel
theorem dX1_markTuples_6 : decode cX1_markTuples 6 = .ok (.getfield 28, 3) := by decide +kernel
theorem dX1_markTuples_9 : decode cX1_markTuples 9 = .ok (.if_icmp .ge 51, 3) := by decide +kernel
theorem dX1_markTuples_12 : decode cX1_markTuples 12 = .ok (.lload_n 1, 1) := by decide +kernel
theorem dX1_markTuples_13 : decode cX1_markTuples 13 = .ok (.iload 4, 2) := by decide +kernel
theorem dX1_markTuples_15 : decode cX1_markTuples 15 = .ok (.lushr, 1) := by decide +kernel
theorem dX1_markTuples_16 : decode cX1_markTuples 16 = .ok (.lconst 1, 1) := by decide +kernel
theorem dX1_markTuples_17 : decode cX1_markTuples 17 = .ok (.land, 1) := by decide +kernel
theorem dX1_markTuples_18 : decode cX1_markTuples 18 = .ok (.lconst 1, 1) := by decide +kernel
theorem dX1_markTuples_19 : decode cX1_markTuples 19 = .ok (.lcmp, 1) := by decide +kernel
theorem dX1_markTuples_20 : decode cX1_markTuples 20 = .ok (.ifCond .ne 34, 3) := by decide +kernel
theorem dX1_markTuples_23 : decode cX1_markTuples 23 = .ok (.aload_n 0, 1) := by decide +kernel
theorem dX1_markTuples_24 : decode cX1_markTuples 24 = .ok (.getfield 49, 3) := by decide +kernel
theorem dX1_markTuples_27 : decode cX1_markTuples 27 = .ok (.iload 4, 2) := by decide +kernel
theorem dX1_markTuples_29 : decode cX1_markTuples 29 = .ok (.iaload, 1) := by decide +kernel
theorem dX1_markTuples_30 : decode cX1_markTuples 30 = .ok (.iload_n 3, 1) := by decide +kernel
theorem dX1_markTuples_31 : decode cX1_markTuples 31 = .ok (.ishl, 1) := by decide +kernel
theorem dX1_markTuples_32 : decode cX1_markTuples 32 = .ok (.istore 5, 2) := by decide +kernel
theorem dX1_markTuples_34 : decode cX1_markTuples 34 = .ok (.aload_n 0, 1) := by decide +kernel
theorem dX1_markTuples_35 : decode cX1_markTuples 35 = .ok (.getfield 42, 3) := by decide +kernel
theorem dX1_markTuples_38 : decode cX1_markTuples 38 = .ok (.iload 5, 2) := by decide +kernel
theorem dX1_markTuples_40 : decode cX1_markTuples 40 = .ok (.bipush 64, 2) := by decide +kernel
theorem dX1_markTuples_42 : decode cX1_markTuples 42 = .ok (.idiv, 1) := by decide +kernel
theorem dX1_markTuples_43 : decode cX1_markTuples 43 = .ok (.dup2, 1) := by decide +kernel
theorem dX1_markTuples_44 : decode cX1_markTuples 44 = .ok (.laload, 1) := by decide +kernel
theorem dX1_markTuples_45 : decode cX1_markTuples 45 = .ok (.lconst 1, 1) := by decide +kernel
theorem dX1_markTuples_46 : decode cX1_markTuples 46 = .ok (.iload 5, 2) := by decide +kernel
theorem dX1_markTuples_48 : decode cX1_markTuples 48 = .ok (.bipush 64, 2) := by decide +kernel
theorem dX1_markTuples_50 : decode cX1_markTuples 50 = .ok (.irem, 1) := by decide +kernel
theorem dX1_markTuples_51 : decode cX1_markTuples 51 = .ok (.lshl, 1) := by decide +kernel
theorem dX1_markTuples_52 : decode cX1_markTuples 52 = .ok (.lor, 1) := by decide +kernel
theorem dX1_markTuples_53 : decode cX1_markTuples 53 = .ok (.lastore, 1) := by decide +kernel
theorem dX1_markTuples_54 : decode cX1_markTuples 54 = .ok (.iinc 4 1, 3) := by decide +kernel
theorem dX1_markTuples_57 : decode cX1_markTuples 57 = .ok (.goto (-54), 3) := by decide +kernel
theorem dX1_markTuples_60 : decode cX1_markTuples 60 = .ok (.return_, 1) := by decide +kernel
theorem dX1_keepDraft_0 : decode cX1_keepDraft 0 = .ok (.aload_n 0, 1) := by decide +kernel
theorem dX1_keepDraft_1 : decode cX1_keepDraft 1 = .ok (.getfield 42, 3) := by decide +kernel
theorem dX1_keepDraft_4 : decode cX1_keepDraft 4 = .ok (.iconst 0, 1) := by decide +kernel
theorem dX1_keepDraft_5 : decode cX1_keepDraft 5 = .ok (.aload_n 0, 1) := by decide +kernel
theorem dX1_keepDraft_6 : decode cX1_keepDraft 6 = .ok (.getfield 39, 3) := by decide +kernel
theorem dX1_keepDraft_9 : decode cX1_keepDraft 9 = .ok (.iload_n 1, 1) := by decide +kernel
theorem dX1_keepDraft_10 : decode cX1_keepDraft 10 = .ok (.aaload, 1) := by decide +kernel
theorem dX1_keepDraft_11 : decode cX1_keepDraft 11 = .ok (.iconst 0, 1) := by decide +kernel
theorem dX1_keepDraft_12 : decode cX1_keepDraft 12 = .ok (.aload_n 0, 1) := by decide +kernel
theorem dX1_keepDraft_13 : decode cX1_keepDraft 13 = .ok (.getfield 25, 3) := by decide +kernel
theorem dX1_keepDraft_16 : decode cX1_keepDraft 16 = .ok (.invokestatic 101, 3) := by decide +kernel
theorem dX1_keepDraft_19 : decode cX1_keepDraft 19 = .ok (.return_, 1) := by decide +kernel
theorem dJ13_bitCount_95d88_0 : decode cJ13_bitCount_95d88 0 = .ok (.lload_n 0, 1) := by decide +kernel
theorem dJ13_bitCount_95d88_1 : decode cJ13_bitCount_95d88 1 = .ok (.lload_n 0, 1) := by decide +kernel
theorem dJ13_bitCount_95d88_2 : decode cJ13_bitCount_95d88 2 = .ok (.iconst 1, 1) := by decide +kernel
theorem dJ13_bitCount_95d88_3 : decode cJ13_bitCount_95d88 3 = .ok (.lushr, 1) := by decide +kernel
theorem dJ13_bitCount_95d88_4 : decode cJ13_bitCount_95d88 4 = .ok (.ldc2_w 314, 3) := by decide +kernel
theorem dJ13_bitCount_95d88_7 : decode cJ13_bitCount_95d88 7 = .ok (.land, 1) := by decide +kernel
theorem dJ13_bitCount_95d88_8 : decode cJ13_bitCount_95d88 8 = .ok (.lsub, 1) := by decide +kernel
theorem dJ13_bitCount_95d88_9 : decode cJ13_bitCount_95d88 9 = .ok (.lstore_n 0, 1) := by decide +kernel
theorem dJ13_bitCount_95d88_10 : decode cJ13_bitCount_95d88 10 = .ok (.lload_n 0, 1) := by decide +kernel
theorem dJ13_bitCount_95d88_11 : decode cJ13_bitCount_95d88 11 = .ok (.ldc2_w 316, 3) := by decide +kernel
theorem dJ13_bitCount_95d88_14 : decode cJ13_bitCount_95d88 14 = .ok (.land, 1) := by decide +kernel
theorem dJ13_bitCount_95d88_15 : decode cJ13_bitCount_95d88 15 = .ok (.lload_n 0, 1) := by decide +kernel
theorem dJ13_bitCount_95d88_16 : decode cJ13_bitCount_95d88 16 = .ok (.iconst 2, 1) := by decide +kernel
theorem dJ13_bitCount_95d88_17 : decode cJ13_bitCount_95d88 17 = .ok (.lushr, 1) := by decide +kernel
theorem dJ13_bitCount_95d88_18 : decode cJ13_bitCount_95d88 18 = .ok (.ldc2_w 316, 3) := by decide +kernel
theorem dJ13_bitCount_95d88_21 : decode cJ13_bitCount_95d88 21 = .ok (.land, 1) := by decide +kernel
theorem dJ13_bitCount_95d88_22 : decode cJ13_bitCount_95d88 22 = .ok (.ladd, 1) := by decide +kernel
theorem dJ13_bitCount_95d88_23 : decode cJ13_bitCount_95d88 23 = .ok (.lstore_n 0, 1) := by decide +kernel
theorem dJ13_bitCount_95d88_24 : decode cJ13_bitCount_95d88 24 = .ok (.lload_n 0, 1) := by decide +kernel
theorem dJ13_bitCount_95d88_25 : decode cJ13_bitCount_95d88 25 = .ok (.lload_n 0, 1) := by decide +kernel
theorem dJ13_bitCount_95d88_26 : decode cJ13_bitCount_95d88 26 = .ok (.iconst 4, 1) := by decide +kernel
theorem dJ13_bitCount_95d88_27 : decode cJ13_bitCount_95d88 27 = .ok (.lushr, 1) := by decide +kernel
theorem dJ13_bitCount_95d88_28 : decode cJ13_bitCount_95d88 28 = .ok (.ladd, 1) := by decide +kernel
theorem dJ13_bitCount_95d88_29 : decode cJ13_bitCount_95d88 29 = .ok (.ldc2_w 318, 3) := by decide +kernel
theorem dJ13_bitCount_95d88_32 : decode cJ13_bitCount_95d88 32 = .ok (.land, 1) := by decide +kernel
theorem dJ13_bitCount_95d88_33 : decode cJ13_bitCount_95d88 33 = .ok (.lstore_n 0, 1) := by decide +kernel
theorem dJ13_bitCount_95d88_34 : decode cJ13_bitCount_95d88 34 = .ok (.lload_n 0, 1) := by decide +kernel
theorem dJ13_bitCount_95d88_35 : decode cJ13_bitCount_95d88 35 = .ok (.lload_n 0, 1) := by decide +kernel
theorem dJ13_bitCount_95d88_36 : decode cJ13_bitCount_95d88 36 = .ok (.bipush 8, 2) := by decide +kernel
theorem dJ13_bitCount_95d88_38 : decode cJ13_bitCount_95d88 38 = .ok (.lushr, 1) := by decide +kernel
theorem dJ13_bitCount_95d88_39 : decode cJ13_bitCount_95d88 39 = .ok (.ladd, 1) := by decide +kernel
theorem dJ13_bitCount_95d88_40 : decode cJ13_bitCount_95d88 40 = .ok (.lstore_n 0, 1) := by decide +kernel
theorem dJ13_bitCount_95d88_41 : decode cJ13_bitCount_95d88 41 = .ok (.lload_n 0, 1) := by decide +kernel
theorem dJ13_bitCount_95d88_42 : decode cJ13_bitCount_95d88 42 = .ok (.lload_n 0, 1) := by decide +kernel
theorem dJ13_bitCount_95d88_43 : decode cJ13_bitCount_95d88 43 = .ok (.bipush 16, 2) := by decide +kernel
theorem dJ13_bitCount_95d88_45 : decode cJ13_bitCount_95d88 45 = .ok (.lushr, 1) := by decide +kernel
theorem dJ13_bitCount_95d88_46 : decode cJ13_bitCount_95d88 46 = .ok (.ladd, 1) := by decide +kernel
theorem dJ13_bitCount_95d88_47 : decode cJ13_bitCount_95d88 47 = .ok (.lstore_n 0, 1) := by decide +kernel
theorem dJ13_bitCount_95d88_48 : decode cJ13_bitCount_95d88 48 = .ok (.lload_n 0, 1) := by decide +kernel
theorem dJ13_bitCount_95d88_49 : decode cJ13_bitCount_95d88 49 = .ok (.lload_n 0, 1) := by decide +kernel
theorem dJ13_bitCount_95d88_50 : decode cJ13_bitCount_95d88 50 = .ok (.bipush 32, 2) := by decide +kernel
theorem dJ13_bitCount_95d88_52 : decode cJ13_bitCount_95d88 52 = .ok (.lushr, 1) := by decide +kernel
theorem dJ13_bitCount_95d88_53 : decode cJ13_bitCount_95d88 53 = .ok (.ladd, 1) := by decide +kernel
theorem dJ13_bitCount_95d88_54 : decode cJ13_bitCount_95d88 54 = .ok (.lstore_n 0, 1) := by decide +kernel
theorem dJ13_bitCount_95d88_55 : decode cJ13_bitCount_95d88 55 = .ok (.lload_n 0, 1) := by decide +kernel
theorem dJ13_bitCount_95d88_56 : decode cJ13_bitCount_95d88 56 = .ok (.l2i, 1) := by decide +kernel
theorem dJ13_bitCount_95d88_57 : decode cJ13_bitCount_95d88 57 = .ok (.bipush 127, 2) := by decide +kernel
theorem dJ13_bitCount_95d88_59 : decode cJ13_bitCount_95d88 59 = .ok (.iand, 1) := by decide +kernel
theorem dJ13_bitCount_95d88_60 : decode cJ13_bitCount_95d88 60 = .ok (.ireturn, 1) := by decide +kernel
theorem dJ9_max_7cf53_0 : decode cJ9_max_7cf53 0 = .ok (.iload_n 0, 1) := by decide +kernel
theorem dJ9_max_7cf53_1 : decode cJ9_max_7cf53 1 = .ok (.iload_n 1, 1) := by decide +kernel
theorem dJ9_max_7cf53_2 : decode cJ9_max_7cf53 2 = .ok (.if_icmp .lt 7, 3) := by decide +kernel
theorem dJ9_max_7cf53_5 : decode cJ9_max_7cf53 5 = .ok (.iload_n 0, 1) := by decide +kernel
theorem dJ9_max_7cf53_6 : decode cJ9_max_7cf53 6 = .ok (.goto 4, 3) := by decide +kernel
theorem dJ9_max_7cf53_9 : decode cJ9_max_7cf53 9 = .ok (.iload_n 1, 1) := by decide +kernel
theorem dJ9_max_7cf53_10 : decode cJ9_max_7cf53 10 = .ok (.ireturn, 1) := by decide +kernel
theorem dJ9_min_7cf53_0 : decode cJ9_min_7cf53 0 = .ok (.iload_n 0, 1) := by decide +kernel
theorem dJ9_min_7cf53_1 : decode cJ9_min_7cf53 1 = .ok (.iload_n 1, 1) := by decide +kernel
theorem dJ9_min_7cf53_2 : decode cJ9_min_7cf53 2 = .ok (.if_icmp .gt 7, 3) := by decide +kernel
theorem dJ9_min_7cf53_5 : decode cJ9_min_7cf53 5 = .ok (.iload_n 0, 1) := by decide +kernel
theorem dJ9_min_7cf53_6 : decode cJ9_min_7cf53 6 = .ok (.goto 4, 3) := by decide +kernel
theorem dJ9_min_7cf53_9 : decode cJ9_min_7cf53 9 = .ok (.iload_n 1, 1) := by decide +kernel
theorem dJ9_min_7cf53_10 : decode cJ9_min_7cf53 10 = .ok (.ireturn, 1) := by decide +kernel
theorem dJ7_fill_d0a16_0 : decode cJ7_fill_d0a16 0 = .ok (.iconst 0, 1) := by decide +kernel
theorem dJ7_fill_d0a16_1 : decode cJ7_fill_d0a16 1 = .ok (.istore_n 3, 1) := by decide +kernel
theorem dJ7_fill_d0a16_2 : decode cJ7_fill_d0a16 2 = .ok (.aload_n 0, 1) := by decide +kernel
theorem dJ7_fill_d0a16_3 : decode cJ7_fill_d0a16 3 = .ok (.arraylength, 1) := by decide +kernel
theorem dJ7_fill_d0a16_4 : decode cJ7_fill_d0a16 4 = .ok (.istore 4, 2) := by decide +kernel
theorem dJ7_fill_d0a16_6 : decode cJ7_fill_d0a16 6 = .ok (.iload_n 3, 1) := by decide +kernel
theorem dJ7_fill_d0a16_7 : decode cJ7_fill_d0a16 7 = .ok (.iload 4, 2) := by decide +kernel
theorem dJ7_fill_d0a16_9 : decode cJ7_fill_d0a16 9 = .ok (.if_icmp .ge 13, 3) := by decide +kernel
theorem dJ7_fill_d0a16_12 : decode cJ7_fill_d0a16 12 = .ok (.aload_n 0, 1) := by decide +kernel
theorem dJ7_fill_d0a16_13 : decode cJ7_fill_d0a16 13 = .ok (.iload_n 3, 1) := by decide +kernel
theorem dJ7_fill_d0a16_14 : decode cJ7_fill_d0a16 14 = .ok (.lload_n 1, 1) := by decide +kernel
theorem dJ7_fill_d0a16_15 : decode cJ7_fill_d0a16 15 = .ok (.lastore, 1) := by decide +kernel
theorem dJ7_fill_d0a16_16 : decode cJ7_fill_d0a16 16 = .ok (.iinc 3 1, 3) := by decide +kernel
theorem dJ7_fill_d0a16_19 : decode cJ7_fill_d0a16 19 = .ok (.goto (-13), 3) := by decide +kernel
theorem dJ7_fill_d0a16_22 : decode cJ7_fill_d0a16 22 = .ok (.return_, 1) := by decide +kernel
theorem dJ7_fill_53178_0 : decode cJ7_fill_53178 0 = .ok (.iconst 0, 1) := by decide +kernel
theorem dJ7_fill_53178_1 : decode cJ7_fill_53178 1 = .ok (.istore_n 2, 1) := by decide +kernel
theorem dJ7_fill_53178_2 : decode cJ7_fill_53178 2 = .ok (.aload_n 0, 1) := by decide +kernel
theorem dJ7_fill_53178_3 : decode cJ7_fill_53178 3 = .ok (.arraylength, 1) := by decide +kernel
theorem dJ7_fill_53178_4 : decode cJ7_fill_53178 4 = .ok (.istore_n 3, 1) := by decide +kernel
theorem dJ7_fill_53178_5 : decode cJ7_fill_53178 5 = .ok (.iload_n 2, 1) := by decide +kernel
theorem dJ7_fill_53178_6 : decode cJ7_fill_53178 6 = .ok (.iload_n 3, 1) := by decide +kernel
theorem dJ7_fill_53178_7 : decode cJ7_fill_53178 7 = .ok (.if_icmp .ge 13, 3) := by decide +kernel
theorem dJ7_fill_53178_10 : decode cJ7_fill_53178 10 = .ok (.aload_n 0, 1) := by decide +kernel
theorem dJ7_fill_53178_11 : decode cJ7_fill_53178 11 = .ok (.iload_n 2, 1) := by decide +kernel
theorem dJ7_fill_53178_12 : decode cJ7_fill_53178 12 = .ok (.iload_n 1, 1) := by decide +kernel
theorem dJ7_fill_53178_13 : decode cJ7_fill_53178 13 = .ok (.iastore, 1) := by decide +kernel
theorem dJ7_fill_53178_14 : decode cJ7_fill_53178 14 = .ok (.iinc 2 1, 3) := by decide +kernel
theorem dJ7_fill_53178_17 : decode cJ7_fill_53178 17 = .ok (.goto (-12), 3) := by decide +kernel
theorem dJ7_fill_53178_20 : decode cJ7_fill_53178 20 = .ok (.return_, 1) := by decide +kernel
