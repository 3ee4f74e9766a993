theorem dX12_weight_38 : decode cX12_weight 38 = .ok (.iload_n 2, 1) := by decide +kernel
theorem dX12_weight_39 : decode cX12_weight 39 = .ok (.aload_n 0, 1) := by decide +kernel
theorem dX12_weight_40 : decode cX12_weight 40 = .ok (.iload_n 1, 1) := by decide +kernel
theorem dX12_weight_41 : decode cX12_weight 41 = .ok (.aload_n 0, 1) := by decide +kernel
theorem dX12_weight_42 : decode cX12_weight 42 = .ok (.getfield 108, 3) := by decide +kernel
theorem dX12_weight_45 : decode cX12_weight 45 = .ok (.iload 4, 2) := by decide +kernel
theorem dX12_weight_47 : decode cX12_weight 47 = .ok (.iaload, 1) := by decide +kernel
theorem dX12_weight_48 : decode cX12_weight 48 = .ok (.invokevirtual 385, 3) := by decide +kernel
theorem dX12_weight_51 : decode cX12_weight 51 = .ok (.ifCond .eq 7, 3) := by decide +kernel
theorem dX12_weight_54 : decode cX12_weight 54 = .ok (.iconst 5, 1) := by decide +kernel
theorem dX12_weight_55 : decode cX12_weight 55 = .ok (.goto 4, 3) := by decide +kernel
theorem dX12_weight_58 : decode cX12_weight 58 = .ok (.iconst 1, 1) := by decide +kernel
theorem dX12_weight_59 : decode cX12_weight 59 = .ok (.imul, 1) := by decide +kernel
theorem dX12_weight_60 : decode cX12_weight 60 = .ok (.istore_n 2, 1) := by decide +kernel
theorem dX12_weight_61 : decode cX12_weight 61 = .ok (.iinc 3 1, 3) := by decide +kernel
theorem dX12_weight_64 : decode cX12_weight 64 = .ok (.iinc 4 1, 3) := by decide +kernel
theorem dX12_weight_67 : decode cX12_weight 67 = .ok (.goto (-57), 3) := by decide +kernel
theorem dX12_weight_70 : decode cX12_weight 70 = .ok (.iload_n 2, 1) := by decide +kernel
theorem dX12_weight_71 : decode cX12_weight 71 = .ok (.ireturn, 1) := by decide +kernel
theorem dX12_which_0 : decode cX12_which 0 = .ok (.aload_n 0, 1) := by decide +kernel
theorem dX12_which_1 : decode cX12_which 1 = .ok (.iload_n 1, 1) := by decide +kernel
theorem dX12_which_2 : decode cX12_which 2 = .ok (.iload_n 2, 1) := by decide +kernel
theorem dX12_which_3 : decode cX12_which 3 = .ok (.iload_n 3, 1) := by decide +kernel
theorem dX12_which_4 : decode cX12_which 4 = .ok (.invokevirtual 379, 3) := by decide +kernel
theorem dX12_which_7 : decode cX12_which 7 = .ok (.ifCond .eq 23, 3) := by decide +kernel
theorem dX12_which_10 : decode cX12_which 10 = .ok (.iload 4, 2) := by decide +kernel
theorem dX12_which_12 : decode cX12_which 12 = .ok (.iconst 0, 1) := by decide +kernel
theorem dX12_which_13 : decode cX12_which 13 = .ok (.iconst 5, 1) := by decide +kernel
theorem dX12_which_14 : decode cX12_which 14 = .ok (.invokestatic 9, 3) := by decide +kernel
theorem dX12_which_17 : decode cX12_which 17 = .ok (.ifCond .eq 13, 3) := by decide +kernel
theorem dX12_which_20 : decode cX12_which 20 = .ok (.iload 5, 2) := by decide +kernel
theorem dX12_which_22 : decode cX12_which 22 = .ok (.iconst 0, 1) := by decide +kernel
theorem dX12_which_23 : decode cX12_which 23 = .ok (.iconst 1, 1) := by decide +kernel
theorem dX12_which_24 : decode cX12_which 24 = .ok (.invokestatic 9, 3) := by decide +kernel
theorem dX12_which_27 : decode cX12_which 27 = .ok (.ifCond .ne 5, 3) := by decide +kernel
theorem dX12_which_30 : decode cX12_which 30 = .ok (.iconst (-1), 1) := by decide +kernel
theorem dX12_which_31 : decode cX12_which 31 = .ok (.ireturn, 1) := by decide +kernel
theorem dX12_which_32 : decode cX12_which 32 = .ok (.iload 5, 2) := by decide +kernel
theorem dX12_which_34 : decode cX12_which 34 = .ok (.iconst 1, 1) := by decide +kernel
theorem dX12_which_35 : decode cX12_which 35 = .ok (.if_icmp .ne 10, 3) := by decide +kernel
theorem dX12_which_38 : decode cX12_which 38 = .ok (.aload_n 0, 1) := by decide +kernel
theorem dX12_which_39 : decode cX12_which 39 = .ok (.iload 4, 2) := by decide +kernel
theorem dX12_which_41 : decode cX12_which 41 = .ok (.invokevirtual 388, 3) := by decide +kernel
theorem dX12_which_44 : decode cX12_which 44 = .ok (.ireturn, 1) := by decide +kernel
theorem dX12_which_45 : decode cX12_which 45 = .ok (.iconst 0, 1) := by decide +kernel
theorem dX12_which_46 : decode cX12_which 46 = .ok (.istore 6, 2) := by decide +kernel
theorem dX12_which_48 : decode cX12_which 48 = .ok (.iconst 0, 1) := by decide +kernel
theorem dX12_which_49 : decode cX12_which 49 = .ok (.istore 7, 2) := by decide +kernel
theorem dX12_which_51 : decode cX12_which 51 = .ok (.iload 7, 2) := by decide +kernel
theorem dX12_which_53 : decode cX12_which 53 = .ok (.bipush 6, 2) := by decide +kernel
theorem dX12_which_55 : decode cX12_which 55 = .ok (.if_icmp .ge 20, 3) := by decide +kernel
theorem dX12_which_58 : decode cX12_which 58 = .ok (.iload 6, 2) := by decide +kernel
theorem dX12_which_60 : decode cX12_which 60 = .ok (.aload_n 0, 1) := by decide +kernel
theorem dX12_which_61 : decode cX12_which 61 = .ok (.iload 7, 2) := by decide +kernel
theorem dX12_which_63 : decode cX12_which 63 = .ok (.invokevirtual 388, 3) := by decide +kernel
theorem dX12_which_66 : decode cX12_which 66 = .ok (.iadd, 1) := by decide +kernel
theorem dX12_which_67 : decode cX12_which 67 = .ok (.istore 6, 2) := by decide +kernel
theorem dX12_which_69 : decode cX12_which 69 = .ok (.iinc 7 1, 3) := by decide +kernel
theorem dX12_which_72 : decode cX12_which 72 = .ok (.goto (-21), 3) := by decide +kernel
theorem dX12_which_75 : decode cX12_which 75 = .ok (.ldc2_w 391, 3) := by decide +kernel
theorem dX12_which_78 : decode cX12_which 78 = .ok (.aload_n 0, 1) := by decide +kernel
theorem dX12_which_79 : decode cX12_which 79 = .ok (.iload 4, 2) := by decide +kernel
theorem dX12_which_81 : decode cX12_which 81 = .ok (.invokevirtual 388, 3) := by decide +kernel
theorem dX12_which_84 : decode cX12_which 84 = .ok (.i2l, 1) := by decide +kernel
theorem dX12_which_85 : decode cX12_which 85 = .ok (.lmul, 1) := by decide +kernel
theorem dX12_which_86 : decode cX12_which 86 = .ok (.iload 6, 2) := by decide +kernel
theorem dX12_which_88 : decode cX12_which 88 = .ok (.i2l, 1) := by decide +kernel
theorem dX12_which_89 : decode cX12_which 89 = .ok (.ldiv, 1) := by decide +kernel
theorem dX12_which_90 : decode cX12_which 90 = .ok (.l2i, 1) := by decide +kernel
theorem dX12_which_91 : decode cX12_which 91 = .ok (.ireturn, 1) := by decide +kernel
theorem dX12_off_0 : decode cX12_off 0 = .ok (.iload_n 2, 1) := by decide +kernel
theorem dX12_off_1 : decode cX12_off 1 = .ok (.ifCond .ne 12, 3) := by decide +kernel
theorem dX12_off_4 : decode cX12_off 4 = .ok (.aload_n 0, 1) := by decide +kernel
theorem dX12_off_5 : decode cX12_off 5 = .ok (.getfield 99, 3) := by decide +kernel
theorem dX12_off_8 : decode cX12_off 8 = .ok (.iload_n 1, 1) := by decide +kernel
theorem dX12_off_9 : decode cX12_off 9 = .ok (.iaload, 1) := by decide +kernel
theorem dX12_off_10 : decode cX12_off 10 = .ok (.goto 9, 3) := by decide +kernel
theorem dX12_off_13 : decode cX12_off 13 = .ok (.aload_n 0, 1) := by decide +kernel
theorem dX12_off_14 : decode cX12_off 14 = .ok (.getfield 102, 3) := by decide +kernel
theorem dX12_off_17 : decode cX12_off 17 = .ok (.iload_n 1, 1) := by decide +kernel
theorem dX12_off_18 : decode cX12_off 18 = .ok (.iaload, 1) := by decide +kernel
theorem dX12_off_19 : decode cX12_off 19 = .ok (.istore 5, 2) := by decide +kernel
theorem dX12_off_21 : decode cX12_off 21 = .ok (.iload 5, 2) := by decide +kernel
theorem dX12_off_23 : decode cX12_off 23 = .ok (.iconst (-1), 1) := by decide +kernel
theorem dX12_off_24 : decode cX12_off 24 = .ok (.if_icmp .ne 7, 3) := by decide +kernel
theorem dX12_off_27 : decode cX12_off 27 = .ok (.iconst 0, 1) := by decide +kernel
theorem dX12_off_28 : decode cX12_off 28 = .ok (.goto 20, 3) := by decide +kernel
theorem dX12_off_31 : decode cX12_off 31 = .ok (.iload 5, 2) := by decide +kernel
theorem dX12_off_33 : decode cX12_off 33 = .ok (.iload_n 3, 1) := by decide +kernel
theorem dX12_off_34 : decode cX12_off 34 = .ok (.imul, 1) := by decide +kernel
theorem dX12_off_35 : decode cX12_off 35 = .ok (.bipush 100, 2) := by decide +kernel
theorem dX12_off_37 : decode cX12_off 37 = .ok (.idiv, 1) := by decide +kernel
theorem dX12_off_38 : decode cX12_off 38 = .ok (.aload_n 0, 1) := by decide +kernel
theorem dX12_off_39 : decode cX12_off 39 = .ok (.getfield 16, 3) := by decide +kernel
theorem dX12_off_42 : decode cX12_off 42 = .ok (.iload 4, 2) := by decide +kernel
theorem dX12_off_44 : decode cX12_off 44 = .ok (.iaload, 1) := by decide +kernel
theorem dX12_off_45 : decode cX12_off 45 = .ok (.invokestatic 393, 3) := by decide +kernel
theorem dX12_off_48 : decode cX12_off 48 = .ok (.ireturn, 1) := by decide +kernel
theorem dX12_offs_0 : decode cX12_offs 0 = .ok (.iconst 0, 1) := by decide +kernel
theorem dX12_offs_1 : decode cX12_offs 1 = .ok (.istore 4, 2) := by decide +kernel
theorem dX12_offs_3 : decode cX12_offs 3 = .ok (.aload_n 0, 1) := by decide +kernel
theorem dX12_offs_4 : decode cX12_offs 4 = .ok (.getfield 373, 3) := by decide +kernel
theorem dX12_offs_7 : decode cX12_offs 7 = .ok (.istore 5, 2) := by decide +kernel
theorem dX12_offs_9 : decode cX12_offs 9 = .ok (.iload 5, 2) := by decide +kernel
theorem dX12_offs_11 : decode cX12_offs 11 = .ok (.aload_n 0, 1) := by decide +kernel
theorem dX12_offs_12 : decode cX12_offs 12 = .ok (.getfield 376, 3) := by decide +kernel
theorem dX12_offs_15 : decode cX12_offs 15 = .ok (.if_icmp .gt 31, 3) := by decide +kernel
theorem dX12_offs_18 : decode cX12_offs 18 = .ok (.iload 4, 2) := by decide +kernel
theorem dX12_offs_20 : decode cX12_offs 20 = .ok (.aload_n 0, 1) := by decide +kernel
theorem dX12_offs_21 : decode cX12_offs 21 = .ok (.iload 5, 2) := by decide +kernel
theorem dX12_offs_23 : decode cX12_offs 23 = .ok (.iload_n 1, 1) := by decide +kernel
theorem dX12_offs_24 : decode cX12_offs 24 = .ok (.iload_n 2, 1) := by decide +kernel
theorem dX12_offs_25 : decode cX12_offs 25 = .ok (.iload_n 3, 1) := by decide +kernel
theorem dX12_offs_26 : decode cX12_offs 26 = .ok (.iload 5, 2) := by decide +kernel
theorem dX12_offs_28 : decode cX12_offs 28 = .ok (.iadd, 1) := by decide +kernel
theorem dX12_offs_29 : decode cX12_offs 29 = .ok (.aload_n 0, 1) := by decide +kernel
theorem dX12_offs_30 : decode cX12_offs 30 = .ok (.getfield 373, 3) := by decide +kernel
theorem dX12_offs_33 : decode cX12_offs 33 = .ok (.isub, 1) := by decide +kernel
theorem dX12_offs_34 : decode cX12_offs 34 = .ok (.invokevirtual 397, 3) := by decide +kernel
theorem dX12_offs_37 : decode cX12_offs 37 = .ok (.iadd, 1) := by decide +kernel
theorem dX12_offs_38 : decode cX12_offs 38 = .ok (.istore 4, 2) := by decide +kernel
theorem dX12_offs_40 : decode cX12_offs 40 = .ok (.iinc 5 1, 3) := by decide +kernel
theorem dX12_offs_43 : decode cX12_offs 43 = .ok (.goto (-34), 3) := by decide +kernel
theorem dX12_offs_46 : decode cX12_offs 46 = .ok (.iload 4, 2) := by decide +kernel
theorem dX12_offs_48 : decode cX12_offs 48 = .ok (.ireturn, 1) := by decide +kernel
theorem dX12_isSpeed_0 : decode cX12_isSpeed 0 = .ok (.iload_n 0, 1) := by decide +kernel
theorem dX12_isSpeed_1 : decode cX12_isSpeed 1 = .ok (.bipush 50, 2) := by decide +kernel
theorem dX12_isSpeed_3 : decode cX12_isSpeed 3 = .ok (.sipush 150, 3) := by decide +kernel
theorem dX12_isSpeed_6 : decode cX12_isSpeed 6 = .ok (.invokestatic 9, 3) := by decide +kernel
theorem dX12_isSpeed_9 : decode cX12_isSpeed 9 = .ok (.ireturn, 1) := by decide +kernel
theorem dX12_isDoubt_0 : decode cX12_isDoubt 0 = .ok (.iload_n 0, 1) := by decide +kernel
theorem dX12_isDoubt_1 : decode cX12_isDoubt 1 = .ok (.iconst 0, 1) := by decide +kernel
theorem dX12_isDoubt_2 : decode cX12_isDoubt 2 = .ok (.sipush 9999, 3) := by decide +kernel
theorem dX12_isDoubt_5 : decode cX12_isDoubt 5 = .ok (.invokestatic 9, 3) := by decide +kernel
theorem dX12_isDoubt_8 : decode cX12_isDoubt 8 = .ok (.ireturn, 1) := by decide +kernel
theorem dX12_slide_0 : decode cX12_slide 0 = .ok (.aload_n 0, 1) := by decide +kernel
theorem dX12_slide_1 : decode cX12_slide 1 = .ok (.iload_n 1, 1) := by decide +kernel
theorem dX12_slide_2 : decode cX12_slide 2 = .ok (.iload_n 2, 1) := by decide +kernel
theorem dX12_slide_3 : decode cX12_slide 3 = .ok (.iload_n 3, 1) := by decide +kernel
theorem dX12_slide_4 : decode cX12_slide 4 = .ok (.invokevirtual 379, 3) := by decide +kernel
theorem dX12_slide_7 : decode cX12_slide 7 = .ok (.ifCond .eq 39, 3) := by decide +kernel
theorem dX12_slide_10 : decode cX12_slide 10 = .ok (.iload 4, 2) := by decide +kernel
theorem dX12_slide_12 : decode cX12_slide 12 = .ok (.iconst 0, 1) := by decide +kernel
theorem dX12_slide_13 : decode cX12_slide 13 = .ok (.iconst 1, 1) := by decide +kernel
theorem dX12_slide_14 : decode cX12_slide 14 = .ok (.invokestatic 9, 3) := by decide +kernel
theorem dX12_slide_17 : decode cX12_slide 17 = .ok (.ifCond .eq 29, 3) := by decide +kernel
theorem dX12_slide_20 : decode cX12_slide 20 = .ok (.iload 5, 2) := by decide +kernel
theorem dX12_slide_22 : decode cX12_slide 22 = .ok (.invokestatic 401, 3) := by decide +kernel
theorem dX12_slide_25 : decode cX12_slide 25 = .ok (.ifCond .eq 21, 3) := by decide +kernel
theorem dX12_slide_28 : decode cX12_slide 28 = .ok (.iload 6, 2) := by decide +kernel
theorem dX12_slide_30 : decode cX12_slide 30 = .ok (.invokestatic 404, 3) := by decide +kernel
theorem dX12_slide_33 : decode cX12_slide 33 = .ok (.ifCond .eq 13, 3) := by decide +kernel
theorem dX12_slide_36 : decode cX12_slide 36 = .ok (.iload 7, 2) := by decide +kernel
theorem dX12_slide_38 : decode cX12_slide 38 = .ok (.iconst 0, 1) := by decide +kernel
theorem dX12_slide_39 : decode cX12_slide 39 = .ok (.iconst 3, 1) := by decide +kernel
theorem dX12_slide_40 : decode cX12_slide 40 = .ok (.invokestatic 9, 3) := by decide +kernel
theorem dX12_slide_43 : decode cX12_slide 43 = .ok (.ifCond .ne 5, 3) := by decide +kernel
theorem dX12_slide_46 : decode cX12_slide 46 = .ok (.iconst (-1), 1) := by decide +kernel
theorem dX12_slide_47 : decode cX12_slide 47 = .ok (.ireturn, 1) := by decide +kernel
theorem dX12_slide_48 : decode cX12_slide 48 = .ok (.iconst 0, 1) := by decide +kernel
theorem dX12_slide_49 : decode cX12_slide 49 = .ok (.istore 8, 2) := by decide +kernel
theorem dX12_slide_51 : decode cX12_slide 51 = .ok (.iconst (-1), 1) := by decide +kernel
theorem dX12_slide_52 : decode cX12_slide 52 = .ok (.istore 9, 2) := by decide +kernel
theorem dX12_slide_54 : decode cX12_slide 54 = .ok (.iconst (-1), 1) := by decide +kernel
theorem dX12_slide_55 : decode cX12_slide 55 = .ok (.istore 10, 2) := by decide +kernel
theorem dX12_slide_57 : decode cX12_slide 57 = .ok (.iconst (-1), 1) := by decide +kernel
theorem dX12_slide_58 : decode cX12_slide 58 = .ok (.istore 11, 2) := by decide +kernel
theorem dX12_slide_60 : decode cX12_slide 60 = .ok (.iconst 0, 1) := by decide +kernel
theorem dX12_slide_61 : decode cX12_slide 61 = .ok (.istore 12, 2) := by decide +kernel
theorem dX12_slide_63 : decode cX12_slide 63 = .ok (.iload 12, 2) := by decide +kernel
theorem dX12_slide_65 : decode cX12_slide 65 = .ok (.iload_n 3, 1) := by decide +kernel
theorem dX12_slide_66 : decode cX12_slide 66 = .ok (.iadd, 1) := by decide +kernel
theorem dX12_slide_67 : decode cX12_slide 67 = .ok (.iload_n 2, 1) := by decide +kernel
theorem dX12_slide_68 : decode cX12_slide 68 = .ok (.isub, 1) := by decide +kernel
theorem dX12_slide_69 : decode cX12_slide 69 = .ok (.aload_n 0, 1) := by decide +kernel
theorem dX12_slide_70 : decode cX12_slide 70 = .ok (.getfield 13, 3) := by decide +kernel
theorem dX12_slide_73 : decode cX12_slide 73 = .ok (.if_icmp .ge 69, 3) := by decide +kernel
theorem dX12_slide_76 : decode cX12_slide 76 = .ok (.aload_n 0, 1) := by decide +kernel
theorem dX12_slide_77 : decode cX12_slide 77 = .ok (.iload 4, 2) := by decide +kernel
theorem dX12_slide_79 : decode cX12_slide 79 = .ok (.iload 5, 2) := by decide +kernel
theorem dX12_slide_81 : decode cX12_slide 81 = .ok (.iload 12, 2) := by decide +kernel
theorem dX12_slide_83 : decode cX12_slide 83 = .ok (.invokevirtual 407, 3) := by decide +kernel
theorem dX12_slide_86 : decode cX12_slide 86 = .ok (.istore 13, 2) := by decide +kernel
theorem dX12_slide_88 : decode cX12_slide 88 = .ok (.iload 13, 2) := by decide +kernel
theorem dX12_slide_90 : decode cX12_slide 90 = .ok (.iload 6, 2) := by decide +kernel
theorem dX12_slide_92 : decode cX12_slide 92 = .ok (.if_icmp .gt 20, 3) := by decide +kernel
theorem dX12_slide_95 : decode cX12_slide 95 = .ok (.iload 8, 2) := by decide +kernel
theorem dX12_slide_97 : decode cX12_slide 97 = .ok (.ifCond .ne 8, 3) := by decide +kernel
theorem dX12_slide_100 : decode cX12_slide 100 = .ok (.iload 12, 2) := by decide +kernel
theorem dX12_slide_102 : decode cX12_slide 102 = .ok (.goto 5, 3) := by decide +kernel
theorem dX12_slide_105 : decode cX12_slide 105 = .ok (.iload 9, 2) := by decide +kernel
theorem dX12_slide_107 : decode cX12_slide 107 = .ok (.istore 9, 2) := by decide +kernel
theorem dX12_slide_109 : decode cX12_slide 109 = .ok (.iinc 8 1, 3) := by decide +kernel
theorem dX12_slide_112 : decode cX12_slide 112 = .ok (.iload 10, 2) := by decide +kernel
theorem dX12_slide_114 : decode cX12_slide 114 = .ok (.iconst (-1), 1) := by decide +kernel
theorem dX12_slide_115 : decode cX12_slide 115 = .ok (.if_icmp .eq 13, 3) := by decide +kernel
theorem dX12_slide_118 : decode cX12_slide 118 = .ok (.iload 13, 2) := by decide +kernel
theorem dX12_slide_120 : decode cX12_slide 120 = .ok (.iload 11, 2) := by decide +kernel
theorem dX12_slide_122 : decode cX12_slide 122 = .ok (.if_icmp .lt 6, 3) := by decide +kernel
theorem dX12_slide_125 : decode cX12_slide 125 = .ok (.goto 11, 3) := by decide +kernel
theorem dX12_slide_128 : decode cX12_slide 128 = .ok (.iload 12, 2) := by decide +kernel
theorem dX12_slide_130 : decode cX12_slide 130 = .ok (.istore 10, 2) := by decide +kernel
theorem dX12_slide_132 : decode cX12_slide 132 = .ok (.iload 13, 2) := by decide +kernel
theorem dX12_slide_134 : decode cX12_slide 134 = .ok (.istore 11, 2) := by decide +kernel
theorem dX12_slide_136 : decode cX12_slide 136 = .ok (.iinc 12 1, 3) := by decide +kernel
theorem dX12_slide_139 : decode cX12_slide 139 = .ok (.goto (-76), 3) := by decide +kernel
theorem dX12_slide_142 : decode cX12_slide 142 = .ok (.iload 10, 2) := by decide +kernel
theorem dX12_slide_144 : decode cX12_slide 144 = .ok (.iconst (-1), 1) := by decide +kernel
theorem dX12_slide_145 : decode cX12_slide 145 = .ok (.if_icmp .ne 5, 3) := by decide +kernel
theorem dX12_slide_148 : decode cX12_slide 148 = .ok (.iconst (-1), 1) := by decide +kernel
theorem dX12_slide_149 : decode cX12_slide 149 = .ok (.ireturn, 1) := by decide +kernel
theorem dX12_slide_150 : decode cX12_slide 150 = .ok (.iload 7, 2) := by decide +kernel
theorem dX12_slide_152 : decode cX12_slide 152 = .ok (.ifCond .ne 8, 3) := by decide +kernel
theorem dX12_slide_155 : decode cX12_slide 155 = .ok (.iload 8, 2) := by decide +kernel
theorem dX12_slide_157 : decode cX12_slide 157 = .ok (.goto 27, 3) := by decide +kernel
theorem dX12_slide_160 : decode cX12_slide 160 = .ok (.iload 7, 2) := by decide +kernel
theorem dX12_slide_162 : decode cX12_slide 162 = .ok (.iconst 1, 1) := by decide +kernel
theorem dX12_slide_163 : decode cX12_slide 163 = .ok (.if_icmp .ne 8, 3) := by decide +kernel
theorem dX12_slide_166 : decode cX12_slide 166 = .ok (.iload 9, 2) := by decide +kernel
theorem dX12_slide_168 : decode cX12_slide 168 = .ok (.goto 16, 3) := by decide +kernel
theorem dX12_slide_171 : decode cX12_slide 171 = .ok (.iload 7, 2) := by decide +kernel
theorem dX12_slide_173 : decode cX12_slide 173 = .ok (.iconst 2, 1) := by decide +kernel
theorem dX12_slide_174 : decode cX12_slide 174 = .ok (.if_icmp .ne 8, 3) := by decide +kernel
theorem dX12_slide_177 : decode cX12_slide 177 = .ok (.iload 10, 2) := by decide +kernel
theorem dX12_slide_179 : decode cX12_slide 179 = .ok (.goto 5, 3) := by decide +kernel
theorem dX12_slide_182 : decode cX12_slide 182 = .ok (.iload 11, 2) := by decide +kernel
theorem dX12_slide_184 : decode cX12_slide 184 = .ok (.ireturn, 1) := by decide +kernel
theorem dX12_need__0 : decode cX12_need_ 0 = .ok (.aload_n 0, 1) := by decide +kernel
theorem dX12_need__1 : decode cX12_need_ 1 = .ok (.iload_n 1, 1) := by decide +kernel
theorem dX12_need__2 : decode cX12_need_ 2 = .ok (.iload_n 2, 1) := by decide +kernel
theorem dX12_need__3 : decode cX12_need_ 3 = .ok (.iload_n 3, 1) := by decide +kernel
theorem dX12_need__4 : decode cX12_need_ 4 = .ok (.invokevirtual 379, 3) := by decide +kernel
theorem dX12_need__7 : decode cX12_need_ 7 = .ok (.ifCond .eq 11, 3) := by decide +kernel
theorem dX12_need__10 : decode cX12_need_ 10 = .ok (.iload 4, 2) := by decide +kernel
theorem dX12_need__12 : decode cX12_need_ 12 = .ok (.invokestatic 404, 3) := by decide +kernel
theorem dX12_need__15 : decode cX12_need_ 15 = .ok (.ifCond .ne 5, 3) := by decide +kernel
theorem dX12_need__18 : decode cX12_need_ 18 = .ok (.iconst (-1), 1) := by decide +kernel
theorem dX12_need__19 : decode cX12_need_ 19 = .ok (.ireturn, 1) := by decide +kernel
theorem dX12_need__20 : decode cX12_need_ 20 = .ok (.iconst 0, 1) := by decide +kernel
theorem dX12_need__21 : decode cX12_need_ 21 = .ok (.istore 5, 2) := by decide +kernel
theorem dX12_need__23 : decode cX12_need_ 23 = .ok (.iload 5, 2) := by decide +kernel
theorem dX12_need__25 : decode cX12_need_ 25 = .ok (.aload_n 0, 1) := by decide +kernel
theorem dX12_need__26 : decode cX12_need_ 26 = .ok (.getfield 13, 3) := by decide +kernel
theorem dX12_need__29 : decode cX12_need_ 29 = .ok (.if_icmp .ge 17, 3) := by decide +kernel
theorem dX12_need__32 : decode cX12_need_ 32 = .ok (.aload_n 0, 1) := by decide +kernel
theorem dX12_need__33 : decode cX12_need_ 33 = .ok (.getfield 129, 3) := by decide +kernel
theorem dX12_need__36 : decode cX12_need_ 36 = .ok (.iload 5, 2) := by decide +kernel
theorem dX12_need__38 : decode cX12_need_ 38 = .ok (.iconst 0, 1) := by decide +kernel
theorem dX12_need__39 : decode cX12_need_ 39 = .ok (.iastore, 1) := by decide +kernel
theorem dX12_need__40 : decode cX12_need_ 40 = .ok (.iinc 5 1, 3) := by decide +kernel
theorem dX12_need__43 : decode cX12_need_ 43 = .ok (.goto (-20), 3) := by decide +kernel
theorem dX12_need__46 : decode cX12_need_ 46 = .ok (.iconst 1, 1) := by decide +kernel
theorem dX12_need__47 : decode cX12_need_ 47 = .ok (.istore 5, 2) := by decide +kernel
theorem dX12_need__49 : decode cX12_need_ 49 = .ok (.iload 5, 2) := by decide +kernel
theorem dX12_need__51 : decode cX12_need_ 51 = .ok (.iload_n 3, 1) := by decide +kernel
theorem dX12_need__52 : decode cX12_need_ 52 = .ok (.iload_n 2, 1) := by decide +kernel
theorem dX12_need__53 : decode cX12_need_ 53 = .ok (.isub, 1) := by decide +kernel
theorem dX12_need__54 : decode cX12_need_ 54 = .ok (.iconst 1, 1) := by decide +kernel
theorem dX12_need__55 : decode cX12_need_ 55 = .ok (.iadd, 1) := by decide +kernel
theorem dX12_need__56 : decode cX12_need_ 56 = .ok (.if_icmp .gt 97, 3) := by decide +kernel
theorem dX12_need__59 : decode cX12_need_ 59 = .ok (.iconst 0, 1) := by decide +kernel
theorem dX12_need__60 : decode cX12_need_ 60 = .ok (.istore 6, 2) := by decide +kernel
theorem dX12_need__62 : decode cX12_need_ 62 = .ok (.iconst 0, 1) := by decide +kernel
theorem dX12_need__63 : decode cX12_need_ 63 = .ok (.istore 7, 2) := by decide +kernel
theorem dX12_need__65 : decode cX12_need_ 65 = .ok (.iload 7, 2) := by decide +kernel
theorem dX12_need__67 : decode cX12_need_ 67 = .ok (.iload 5, 2) := by decide +kernel
theorem dX12_need__69 : decode cX12_need_ 69 = .ok (.iadd, 1) := by decide +kernel
theorem dX12_need__70 : decode cX12_need_ 70 = .ok (.aload_n 0, 1) := by decide +kernel
theorem dX12_need__71 : decode cX12_need_ 71 = .ok (.getfield 13, 3) := by decide +kernel
theorem dX12_need__74 : decode cX12_need_ 74 = .ok (.if_icmp .gt 64, 3) := by decide +kernel
theorem dX12_need__77 : decode cX12_need_ 77 = .ok (.aload_n 0, 1) := by decide +kernel
theorem dX12_need__78 : decode cX12_need_ 78 = .ok (.getfield 129, 3) := by decide +kernel
theorem dX12_need__81 : decode cX12_need_ 81 = .ok (.iload 7, 2) := by decide +kernel
theorem dX12_need__83 : decode cX12_need_ 83 = .ok (.dup2, 1) := by decide +kernel
theorem dX12_need__84 : decode cX12_need_ 84 = .ok (.iaload, 1) := by decide +kernel
theorem dX12_need__85 : decode cX12_need_ 85 = .ok (.aload_n 0, 1) := by decide +kernel
theorem dX12_need__86 : decode cX12_need_ 86 = .ok (.aload_n 0, 1) := by decide +kernel
theorem dX12_need__87 : decode cX12_need_ 87 = .ok (.getfield 373, 3) := by decide +kernel
theorem dX12_need__90 : decode cX12_need_ 90 = .ok (.iload 5, 2) := by decide +kernel
theorem dX12_need__92 : decode cX12_need_ 92 = .ok (.iadd, 1) := by decide +kernel
theorem dX12_need__93 : decode cX12_need_ 93 = .ok (.iconst 1, 1) := by decide +kernel
theorem dX12_need__94 : decode cX12_need_ 94 = .ok (.isub, 1) := by decide +kernel
theorem dX12_need__95 : decode cX12_need_ 95 = .ok (.iconst 0, 1) := by decide +kernel
theorem dX12_need__96 : decode cX12_need_ 96 = .ok (.bipush 100, 2) := by decide +kernel
theorem dX12_need__98 : decode cX12_need_ 98 = .ok (.iload 7, 2) := by decide +kernel
theorem dX12_need__100 : decode cX12_need_ 100 = .ok (.iload 5, 2) := by decide +kernel
theorem dX12_need__102 : decode cX12_need_ 102 = .ok (.iadd, 1) := by decide +kernel
theorem dX12_need__103 : decode cX12_need_ 103 = .ok (.iconst 1, 1) := by decide +kernel
theorem dX12_need__104 : decode cX12_need_ 104 = .ok (.isub, 1) := by decide +kernel
theorem dX12_need__105 : decode cX12_need_ 105 = .ok (.invokevirtual 397, 3) := by decide +kernel
theorem dX12_need__108 : decode cX12_need_ 108 = .ok (.iadd, 1) := by decide +kernel
theorem dX12_need__109 : decode cX12_need_ 109 = .ok (.iastore, 1) := by decide +kernel
theorem dX12_need__110 : decode cX12_need_ 110 = .ok (.iload 6, 2) := by decide +kernel
theorem dX12_need__112 : decode cX12_need_ 112 = .ok (.aload_n 0, 1) := by decide +kernel
theorem dX12_need__113 : decode cX12_need_ 113 = .ok (.getfield 129, 3) := by decide +kernel
theorem dX12_need__116 : decode cX12_need_ 116 = .ok (.iload 7, 2) := by decide +kernel
theorem dX12_need__118 : decode cX12_need_ 118 = .ok (.iaload, 1) := by decide +kernel
theorem dX12_need__119 : decode cX12_need_ 119 = .ok (.iload 4, 2) := by decide +kernel
theorem dX12_need__121 : decode cX12_need_ 121 = .ok (.if_icmp .gt 7, 3) := by decide +kernel
theorem dX12_need__124 : decode cX12_need_ 124 = .ok (.iconst 1, 1) := by decide +kernel
theorem dX12_need__125 : decode cX12_need_ 125 = .ok (.goto 4, 3) := by decide +kernel
theorem dX12_need__128 : decode cX12_need_ 128 = .ok (.iconst 0, 1) := by decide +kernel
theorem dX12_need__129 : decode cX12_need_ 129 = .ok (.iadd, 1) := by decide +kernel
theorem dX12_need__130 : decode cX12_need_ 130 = .ok (.istore 6, 2) := by decide +kernel
theorem dX12_need__132 : decode cX12_need_ 132 = .ok (.iinc 7 1, 3) := by decide +kernel
theorem dX12_need__135 : decode cX12_need_ 135 = .ok (.goto (-70), 3) := by decide +kernel
theorem dX12_need__138 : decode cX12_need_ 138 = .ok (.iload 6, 2) := by decide +kernel
theorem dX12_need__140 : decode cX12_need_ 140 = .ok (.iconst 1, 1) := by decide +kernel
theorem dX12_need__141 : decode cX12_need_ 141 = .ok (.if_icmp .ne 6, 3) := by decide +kernel
theorem dX12_need__144 : decode cX12_need_ 144 = .ok (.iload 5, 2) := by decide +kernel
theorem dX12_need__146 : decode cX12_need_ 146 = .ok (.ireturn, 1) := by decide +kernel
theorem dX12_need__147 : decode cX12_need_ 147 = .ok (.iinc 5 1, 3) := by decide +kernel
theorem dX12_need__150 : decode cX12_need_ 150 = .ok (.goto (-101), 3) := by decide +kernel
theorem dX12_need__153 : decode cX12_need_ 153 = .ok (.iconst (-1), 1) := by decide +kernel
theorem dX12_need__154 : decode cX12_need_ 154 = .ok (.ireturn, 1) := by decide +kernel
theorem dX12_speeds_0 : decode cX12_speeds 0 = .ok (.aload_n 0, 1) := by decide +kernel
theorem dX12_speeds_1 : decode cX12_speeds 1 = .ok (.iload_n 1, 1) := by decide +kernel
theorem dX12_speeds_2 : decode cX12_speeds 2 = .ok (.iload_n 2, 1) := by decide +kernel
theorem dX12_speeds_3 : decode cX12_speeds 3 = .ok (.iload_n 3, 1) := by decide +kernel
theorem dX12_speeds_4 : decode cX12_speeds 4 = .ok (.invokevirtual 379, 3) := by decide +kernel
theorem dX12_speeds_7 : decode cX12_speeds 7 = .ok (.ifCond .eq 48, 3) := by decide +kernel
theorem dX12_speeds_10 : decode cX12_speeds 10 = .ok (.iload 5, 2) := by decide +kernel
theorem dX12_speeds_12 : decode cX12_speeds 12 = .ok (.invokestatic 404, 3) := by decide +kernel
theorem dX12_speeds_15 : decode cX12_speeds 15 = .ok (.ifCond .eq 40, 3) := by decide +kernel
theorem dX12_speeds_18 : decode cX12_speeds 18 = .ok (.iload 6, 2) := by decide +kernel
theorem dX12_speeds_20 : decode cX12_speeds 20 = .ok (.iconst 0, 1) := by decide +kernel
theorem dX12_speeds_21 : decode cX12_speeds 21 = .ok (.iconst 2, 1) := by decide +kernel
theorem dX12_speeds_22 : decode cX12_speeds 22 = .ok (.invokestatic 9, 3) := by decide +kernel
theorem dX12_speeds_25 : decode cX12_speeds 25 = .ok (.ifCond .eq 30, 3) := by decide +kernel
theorem dX12_speeds_28 : decode cX12_speeds 28 = .ok (.iload 4, 2) := by decide +kernel
theorem dX12_speeds_30 : decode cX12_speeds 30 = .ok (.ifCond .lt 25, 3) := by decide +kernel
theorem dX12_speeds_33 : decode cX12_speeds 33 = .ok (.iload 4, 2) := by decide +kernel
theorem dX12_speeds_35 : decode cX12_speeds 35 = .ok (.aload_n 0, 1) := by decide +kernel
theorem dX12_speeds_36 : decode cX12_speeds 36 = .ok (.getfield 13, 3) := by decide +kernel
theorem dX12_speeds_39 : decode cX12_speeds 39 = .ok (.if_icmp .ge 16, 3) := by decide +kernel
theorem dX12_speeds_42 : decode cX12_speeds 42 = .ok (.iload 4, 2) := by decide +kernel
theorem dX12_speeds_44 : decode cX12_speeds 44 = .ok (.iload_n 3, 1) := by decide +kernel
theorem dX12_speeds_45 : decode cX12_speeds 45 = .ok (.iadd, 1) := by decide +kernel
theorem dX12_speeds_46 : decode cX12_speeds 46 = .ok (.iload_n 2, 1) := by decide +kernel
theorem dX12_speeds_47 : decode cX12_speeds 47 = .ok (.isub, 1) := by decide +kernel
theorem dX12_speeds_48 : decode cX12_speeds 48 = .ok (.aload_n 0, 1) := by decide +kernel
theorem dX12_speeds_49 : decode cX12_speeds 49 = .ok (.getfield 13, 3) := by decide +kernel
theorem dX12_speeds_52 : decode cX12_speeds 52 = .ok (.if_icmp .lt 5, 3) := by decide +kernel
theorem dX12_speeds_55 : decode cX12_speeds 55 = .ok (.iconst (-1), 1) := by decide +kernel
theorem dX12_speeds_56 : decode cX12_speeds 56 = .ok (.ireturn, 1) := by decide +kernel
theorem dX12_speeds_57 : decode cX12_speeds 57 = .ok (.iconst 0, 1) := by decide +kernel
theorem dX12_speeds_58 : decode cX12_speeds 58 = .ok (.istore 7, 2) := by decide +kernel
theorem dX12_speeds_60 : decode cX12_speeds 60 = .ok (.iconst (-1), 1) := by decide +kernel
theorem dX12_speeds_61 : decode cX12_speeds 61 = .ok (.istore 8, 2) := by decide +kernel
theorem dX12_speeds_63 : decode cX12_speeds 63 = .ok (.iconst (-1), 1) := by decide +kernel
theorem dX12_speeds_64 : decode cX12_speeds 64 = .ok (.istore 9, 2) := by decide +kernel
theorem dX12_speeds_66 : decode cX12_speeds 66 = .ok (.bipush 50, 2) := by decide +kernel
theorem dX12_speeds_68 : decode cX12_speeds 68 = .ok (.istore 10, 2) := by decide +kernel
theorem dX12_speeds_70 : decode cX12_speeds 70 = .ok (.iload 10, 2) := by decide +kernel
theorem dX12_speeds_72 : decode cX12_speeds 72 = .ok (.sipush 150, 3) := by decide +kernel
theorem dX12_speeds_75 : decode cX12_speeds 75 = .ok (.if_icmp .gt 47, 3) := by decide +kernel
theorem dX12_speeds_78 : decode cX12_speeds 78 = .ok (.aload_n 0, 1) := by decide +kernel
theorem dX12_speeds_79 : decode cX12_speeds 79 = .ok (.iconst 0, 1) := by decide +kernel
theorem dX12_speeds_80 : decode cX12_speeds 80 = .ok (.iload 10, 2) := by decide +kernel
theorem dX12_speeds_82 : decode cX12_speeds 82 = .ok (.iload 4, 2) := by decide +kernel
theorem dX12_speeds_84 : decode cX12_speeds 84 = .ok (.invokevirtual 407, 3) := by decide +kernel
theorem dX12_speeds_87 : decode cX12_speeds 87 = .ok (.iload 5, 2) := by decide +kernel
theorem dX12_speeds_89 : decode cX12_speeds 89 = .ok (.if_icmp .le 6, 3) := by decide +kernel
theorem dX12_speeds_92 : decode cX12_speeds 92 = .ok (.goto 24, 3) := by decide +kernel
theorem dX12_speeds_95 : decode cX12_speeds 95 = .ok (.iload 7, 2) := by decide +kernel
theorem dX12_speeds_97 : decode cX12_speeds 97 = .ok (.ifCond .ne 8, 3) := by decide +kernel
theorem dX12_speeds_100 : decode cX12_speeds 100 = .ok (.iload 10, 2) := by decide +kernel
theorem dX12_speeds_102 : decode cX12_speeds 102 = .ok (.goto 5, 3) := by decide +kernel
theorem dX12_speeds_105 : decode cX12_speeds 105 = .ok (.iload 8, 2) := by decide +kernel
theorem dX12_speeds_107 : decode cX12_speeds 107 = .ok (.istore 8, 2) := by decide +kernel
theorem dX12_speeds_109 : decode cX12_speeds 109 = .ok (.iload 10, 2) := by decide +kernel
theorem dX12_speeds_111 : decode cX12_speeds 111 = .ok (.istore 9, 2) := by decide +kernel
theorem dX12_speeds_113 : decode cX12_speeds 113 = .ok (.iinc 7 1, 3) := by decide +kernel
theorem dX12_speeds_116 : decode cX12_speeds 116 = .ok (.iinc 10 1, 3) := by decide +kernel
theorem dX12_speeds_119 : decode cX12_speeds 119 = .ok (.goto (-49), 3) := by decide +kernel
theorem dX12_speeds_122 : decode cX12_speeds 122 = .ok (.iload 6, 2) := by decide +kernel
theorem dX12_speeds_124 : decode cX12_speeds 124 = .ok (.ifCond .ne 8, 3) := by decide +kernel
theorem dX12_speeds_127 : decode cX12_speeds 127 = .ok (.iload 7, 2) := by decide +kernel
theorem dX12_speeds_129 : decode cX12_speeds 129 = .ok (.goto 16, 3) := by decide +kernel
theorem dX12_speeds_132 : decode cX12_speeds 132 = .ok (.iload 6, 2) := by decide +kernel
theorem dX12_speeds_134 : decode cX12_speeds 134 = .ok (.iconst 1, 1) := by decide +kernel
theorem dX12_speeds_135 : decode cX12_speeds 135 = .ok (.if_icmp .ne 8, 3) := by decide +kernel
theorem dX12_speeds_138 : decode cX12_speeds 138 = .ok (.iload 8, 2) := by decide +kernel
theorem dX12_speeds_140 : decode cX12_speeds 140 = .ok (.goto 5, 3) := by decide +kernel
theorem dX12_speeds_143 : decode cX12_speeds 143 = .ok (.iload 9, 2) := by decide +kernel
theorem dX12_speeds_145 : decode cX12_speeds 145 = .ok (.ireturn, 1) := by decide +kernel
theorem dX12_jump_0 : decode cX12_jump 0 = .ok (.iload_n 1, 1) := by decide +kernel
theorem dX12_jump_1 : decode cX12_jump 1 = .ok (.sipush 300, 3) := by decide +kernel
theorem dX12_jump_4 : decode cX12_jump 4 = .ok (.irem, 1) := by decide +kernel
theorem dX12_jump_5 : decode cX12_jump 5 = .ok (.ifCond .eq 25, 3) := by decide +kernel
theorem dX12_jump_8 : decode cX12_jump 8 = .ok (.aload_n 0, 1) := by decide +kernel
theorem dX12_jump_9 : decode cX12_jump 9 = .ok (.getfield 99, 3) := by decide +kernel
theorem dX12_jump_12 : decode cX12_jump 12 = .ok (.iload_n 1, 1) := by decide +kernel
theorem dX12_jump_13 : decode cX12_jump 13 = .ok (.iaload, 1) := by decide +kernel
theorem dX12_jump_14 : decode cX12_jump 14 = .ok (.iconst (-1), 1) := by decide +kernel
theorem dX12_jump_15 : decode cX12_jump 15 = .ok (.if_icmp .eq 15, 3) := by decide +kernel
theorem dX12_jump_18 : decode cX12_jump 18 = .ok (.aload_n 0, 1) := by decide +kernel
theorem dX12_jump_19 : decode cX12_jump 19 = .ok (.getfield 99, 3) := by decide +kernel
theorem dX12_jump_22 : decode cX12_jump 22 = .ok (.iload_n 1, 1) := by decide +kernel
theorem dX12_jump_23 : decode cX12_jump 23 = .ok (.iconst 1, 1) := by decide +kernel
theorem dX12_jump_24 : decode cX12_jump 24 = .ok (.isub, 1) := by decide +kernel
theorem dX12_jump_25 : decode cX12_jump 25 = .ok (.iaload, 1) := by decide +kernel
theorem dX12_jump_26 : decode cX12_jump 26 = .ok (.iconst (-1), 1) := by decide +kernel
theorem dX12_jump_27 : decode cX12_jump 27 = .ok (.if_icmp .ne 7, 3) := by decide +kernel
theorem dX12_jump_30 : decode cX12_jump 30 = .ok (.iconst 0, 1) := by decide +kernel
theorem dX12_jump_31 : decode cX12_jump 31 = .ok (.goto 20, 3) := by decide +kernel
theorem dX12_jump_34 : decode cX12_jump 34 = .ok (.aload_n 0, 1) := by decide +kernel
theorem dX12_jump_35 : decode cX12_jump 35 = .ok (.getfield 99, 3) := by decide +kernel
theorem dX12_jump_38 : decode cX12_jump 38 = .ok (.iload_n 1, 1) := by decide +kernel
theorem dX12_jump_39 : decode cX12_jump 39 = .ok (.iaload, 1) := by decide +kernel
theorem dX12_jump_40 : decode cX12_jump 40 = .ok (.aload_n 0, 1) := by decide +kernel
theorem dX12_jump_41 : decode cX12_jump 41 = .ok (.getfield 99, 3) := by decide +kernel
theorem dX12_jump_44 : decode cX12_jump 44 = .ok (.iload_n 1, 1) := by decide +kernel
theorem dX12_jump_45 : decode cX12_jump 45 = .ok (.iconst 1, 1) := by decide +kernel
theorem dX12_jump_46 : decode cX12_jump 46 = .ok (.isub, 1) := by decide +kernel
theorem dX12_jump_47 : decode cX12_jump 47 = .ok (.iaload, 1) := by decide +kernel
theorem dX12_jump_48 : decode cX12_jump 48 = .ok (.invokestatic 393, 3) := by decide +kernel
theorem dX12_jump_51 : decode cX12_jump 51 = .ok (.ireturn, 1) := by decide +kernel
theorem dX12_isJoin_0 : decode cX12_isJoin 0 = .ok (.iload_n 1, 1) := by decide +kernel
theorem dX12_isJoin_1 : decode cX12_isJoin 1 = .ok (.aload_n 0, 1) := by decide +kernel
theorem dX12_isJoin_2 : decode cX12_isJoin 2 = .ok (.getfield 373, 3) := by decide +kernel
theorem dX12_isJoin_5 : decode cX12_isJoin 5 = .ok (.if_icmp .le 55, 3) := by decide +kernel
theorem dX12_isJoin_8 : decode cX12_isJoin 8 = .ok (.aload_n 0, 1) := by decide +kernel
theorem dX12_isJoin_9 : decode cX12_isJoin 9 = .ok (.getfield 96, 3) := by decide +kernel
theorem dX12_isJoin_12 : decode cX12_isJoin 12 = .ok (.iload_n 1, 1) := by decide +kernel
theorem dX12_isJoin_13 : decode cX12_isJoin 13 = .ok (.iaload, 1) := by decide +kernel
theorem dX12_isJoin_14 : decode cX12_isJoin 14 = .ok (.iconst (-1), 1) := by decide +kernel
theorem dX12_isJoin_15 : decode cX12_isJoin 15 = .ok (.if_icmp .eq 32, 3) := by decide +kernel
theorem dX12_isJoin_18 : decode cX12_isJoin 18 = .ok (.aload_n 0, 1) := by decide +kernel
theorem dX12_isJoin_19 : decode cX12_isJoin 19 = .ok (.getfield 96, 3) := by decide +kernel
theorem dX12_isJoin_22 : decode cX12_isJoin 22 = .ok (.iload_n 1, 1) := by decide +kernel
theorem dX12_isJoin_23 : decode cX12_isJoin 23 = .ok (.iconst 1, 1) := by decide +kernel
theorem dX12_isJoin_24 : decode cX12_isJoin 24 = .ok (.isub, 1) := by decide +kernel
theorem dX12_isJoin_25 : decode cX12_isJoin 25 = .ok (.iaload, 1) := by decide +kernel
theorem dX12_isJoin_26 : decode cX12_isJoin 26 = .ok (.iconst (-1), 1) := by decide +kernel
theorem dX12_isJoin_27 : decode cX12_isJoin 27 = .ok (.if_icmp .eq 20, 3) := by decide +kernel
theorem dX12_isJoin_30 : decode cX12_isJoin 30 = .ok (.aload_n 0, 1) := by decide +kernel
theorem dX12_isJoin_31 : decode cX12_isJoin 31 = .ok (.getfield 96, 3) := by decide +kernel
theorem dX12_isJoin_34 : decode cX12_isJoin 34 = .ok (.iload_n 1, 1) := by decide +kernel
theorem dX12_isJoin_35 : decode cX12_isJoin 35 = .ok (.iaload, 1) := by decide +kernel
theorem dX12_isJoin_36 : decode cX12_isJoin 36 = .ok (.aload_n 0, 1) := by decide +kernel
theorem dX12_isJoin_37 : decode cX12_isJoin 37 = .ok (.getfield 96, 3) := by decide +kernel
theorem dX12_isJoin_40 : decode cX12_isJoin 40 = .ok (.iload_n 1, 1) := by decide +kernel
theorem dX12_isJoin_41 : decode cX12_isJoin 41 = .ok (.iconst 1, 1) := by decide +kernel
theorem dX12_isJoin_42 : decode cX12_isJoin 42 = .ok (.isub, 1) := by decide +kernel
theorem dX12_isJoin_43 : decode cX12_isJoin 43 = .ok (.iaload, 1) := by decide +kernel
theorem dX12_isJoin_44 : decode cX12_isJoin 44 = .ok (.if_icmp .ne 12, 3) := by decide +kernel
theorem dX12_isJoin_47 : decode cX12_isJoin 47 = .ok (.aload_n 0, 1) := by decide +kernel
theorem dX12_isJoin_48 : decode cX12_isJoin 48 = .ok (.iload_n 1, 1) := by decide +kernel
theorem dX12_isJoin_49 : decode cX12_isJoin 49 = .ok (.invokevirtual 411, 3) := by decide +kernel
theorem dX12_isJoin_52 : decode cX12_isJoin 52 = .ok (.iload_n 2, 1) := by decide +kernel
theorem dX12_isJoin_53 : decode cX12_isJoin 53 = .ok (.if_icmp .le 7, 3) := by decide +kernel
theorem dX12_isJoin_56 : decode cX12_isJoin 56 = .ok (.iconst 1, 1) := by decide +kernel
theorem dX12_isJoin_57 : decode cX12_isJoin 57 = .ok (.goto 4, 3) := by decide +kernel
theorem dX12_isJoin_60 : decode cX12_isJoin 60 = .ok (.iconst 0, 1) := by decide +kernel
theorem dX12_isJoin_61 : decode cX12_isJoin 61 = .ok (.ireturn, 1) := by decide +kernel
theorem dX12_joins_0 : decode cX12_joins 0 = .ok (.aload_n 0, 1) := by decide +kernel
theorem dX12_joins_1 : decode cX12_joins 1 = .ok (.iload_n 1, 1) := by decide +kernel
theorem dX12_joins_2 : decode cX12_joins 2 = .ok (.iload_n 2, 1) := by decide +kernel
theorem dX12_joins_3 : decode cX12_joins 3 = .ok (.iload_n 3, 1) := by decide +kernel
theorem dX12_joins_4 : decode cX12_joins 4 = .ok (.invokevirtual 379, 3) := by decide +kernel
theorem dX12_joins_7 : decode cX12_joins 7 = .ok (.ifCond .eq 19, 3) := by decide +kernel
theorem dX12_joins_10 : decode cX12_joins 10 = .ok (.iload 4, 2) := by decide +kernel
theorem dX12_joins_12 : decode cX12_joins 12 = .ok (.iconst 0, 1) := by decide +kernel
theorem dX12_joins_13 : decode cX12_joins 13 = .ok (.bipush 63, 2) := by decide +kernel
theorem dX12_joins_15 : decode cX12_joins 15 = .ok (.invokestatic 9, 3) := by decide +kernel
theorem dX12_joins_18 : decode cX12_joins 18 = .ok (.ifCond .eq 8, 3) := by decide +kernel
theorem dX12_joins_21 : decode cX12_joins 21 = .ok (.iload 5, 2) := by decide +kernel
theorem dX12_joins_23 : decode cX12_joins 23 = .ok (.ifCond .ge 5, 3) := by decide +kernel
theorem dX12_joins_26 : decode cX12_joins 26 = .ok (.iconst (-1), 1) := by decide +kernel
theorem dX12_joins_27 : decode cX12_joins 27 = .ok (.ireturn, 1) := by decide +kernel
theorem dX12_joins_28 : decode cX12_joins 28 = .ok (.iconst 0, 1) := by decide +kernel
theorem dX12_joins_29 : decode cX12_joins 29 = .ok (.istore 6, 2) := by decide +kernel
theorem dX12_joins_31 : decode cX12_joins 31 = .ok (.aload_n 0, 1) := by decide +kernel
theorem dX12_joins_32 : decode cX12_joins 32 = .ok (.getfield 373, 3) := by decide +kernel
theorem dX12_joins_35 : decode cX12_joins 35 = .ok (.istore 7, 2) := by decide +kernel
theorem dX12_joins_37 : decode cX12_joins 37 = .ok (.iload 7, 2) := by decide +kernel
theorem dX12_joins_39 : decode cX12_joins 39 = .ok (.aload_n 0, 1) := by decide +kernel
theorem dX12_joins_40 : decode cX12_joins 40 = .ok (.getfield 376, 3) := by decide +kernel
theorem dX12_joins_43 : decode cX12_joins 43 = .ok (.if_icmp .gt 40, 3) := by decide +kernel
theorem dX12_joins_46 : decode cX12_joins 46 = .ok (.aload_n 0, 1) := by decide +kernel
theorem dX12_joins_47 : decode cX12_joins 47 = .ok (.iload 7, 2) := by decide +kernel
theorem dX12_joins_49 : decode cX12_joins 49 = .ok (.iload 4, 2) := by decide +kernel
theorem dX12_joins_51 : decode cX12_joins 51 = .ok (.invokevirtual 413, 3) := by decide +kernel
theorem dX12_joins_54 : decode cX12_joins 54 = .ok (.ifCond .ne 6, 3) := by decide +kernel
theorem dX12_joins_57 : decode cX12_joins 57 = .ok (.goto 20, 3) := by decide +kernel
theorem dX12_joins_60 : decode cX12_joins 60 = .ok (.iinc 6 1, 3) := by decide +kernel
theorem dX12_joins_63 : decode cX12_joins 63 = .ok (.iload 6, 2) := by decide +kernel
theorem dX12_joins_65 : decode cX12_joins 65 = .ok (.iload 5, 2) := by decide +kernel
theorem dX12_joins_67 : decode cX12_joins 67 = .ok (.if_icmp .ne 10, 3) := by decide +kernel
theorem dX12_joins_70 : decode cX12_joins 70 = .ok (.iload 7, 2) := by decide +kernel
theorem dX12_joins_72 : decode cX12_joins 72 = .ok (.sipush 300, 3) := by decide +kernel
theorem dX12_joins_75 : decode cX12_joins 75 = .ok (.irem, 1) := by decide +kernel
theorem dX12_joins_76 : decode cX12_joins 76 = .ok (.ireturn, 1) := by decide +kernel
theorem dX12_joins_77 : decode cX12_joins 77 = .ok (.iinc 7 1, 3) := by decide +kernel
theorem dX12_joins_80 : decode cX12_joins 80 = .ok (.goto (-43), 3) := by decide +kernel
theorem dX12_joins_83 : decode cX12_joins 83 = .ok (.iload 5, 2) := by decide +kernel
theorem dX12_joins_85 : decode cX12_joins 85 = .ok (.ifCond .ne 8, 3) := by decide +kernel
theorem dX12_joins_88 : decode cX12_joins 88 = .ok (.iload 6, 2) := by decide +kernel
theorem dX12_joins_90 : decode cX12_joins 90 = .ok (.goto 4, 3) := by decide +kernel
theorem dX12_joins_93 : decode cX12_joins 93 = .ok (.iconst (-1), 1) := by decide +kernel
theorem dX12_joins_94 : decode cX12_joins 94 = .ok (.ireturn, 1) := by decide +kernel
theorem dX12_through_0 : decode cX12_through 0 = .ok (.aload_n 0, 1) := by decide +kernel
theorem dX12_through_1 : decode cX12_through 1 = .ok (.iload_n 1, 1) := by decide +kernel
theorem dX12_through_2 : decode cX12_through 2 = .ok (.iload_n 2, 1) := by decide +kernel
theorem dX12_through_3 : decode cX12_through 3 = .ok (.iload_n 3, 1) := by decide +kernel
theorem dX12_through_4 : decode cX12_through 4 = .ok (.invokevirtual 379, 3) := by decide +kernel
theorem dX12_through_7 : decode cX12_through 7 = .ok (.ifCond .ne 5, 3) := by decide +kernel
theorem dX12_through_10 : decode cX12_through 10 = .ok (.iconst (-1), 1) := by decide +kernel
theorem dX12_through_11 : decode cX12_through 11 = .ok (.ireturn, 1) := by decide +kernel
theorem dX12_through_12 : decode cX12_through 12 = .ok (.iconst 2, 1) := by decide +kernel
theorem dX12_through_13 : decode cX12_through 13 = .ok (.istore 4, 2) := by decide +kernel
theorem dX12_through_15 : decode cX12_through 15 = .ok (.aload_n 0, 1) := by decide +kernel
theorem dX12_through_16 : decode cX12_through 16 = .ok (.getfield 373, 3) := by decide +kernel
theorem dX12_through_19 : decode cX12_through 19 = .ok (.istore 5, 2) := by decide +kernel
theorem dX12_through_21 : decode cX12_through 21 = .ok (.iload 5, 2) := by decide +kernel
theorem dX12_through_23 : decode cX12_through 23 = .ok (.aload_n 0, 1) := by decide +kernel
theorem dX12_through_24 : decode cX12_through 24 = .ok (.getfield 376, 3) := by decide +kernel
theorem dX12_through_27 : decode cX12_through 27 = .ok (.if_icmp .gt 84, 3) := by decide +kernel
theorem dX12_through_30 : decode cX12_through 30 = .ok (.aload_n 0, 1) := by decide +kernel
theorem dX12_through_31 : decode cX12_through 31 = .ok (.getfield 114, 3) := by decide +kernel
theorem dX12_through_34 : decode cX12_through 34 = .ok (.iload 5, 2) := by decide +kernel
theorem dX12_through_36 : decode cX12_through 36 = .ok (.iaload, 1) := by decide +kernel
theorem dX12_through_37 : decode cX12_through 37 = .ok (.ifCond .eq 41, 3) := by decide +kernel
theorem dX12_through_40 : decode cX12_through 40 = .ok (.aload_n 0, 1) := by decide +kernel
theorem dX12_through_41 : decode cX12_through 41 = .ok (.iload 5, 2) := by decide +kernel
theorem dX12_through_43 : decode cX12_through 43 = .ok (.iconst 1, 1) := by decide +kernel
theorem dX12_through_44 : decode cX12_through 44 = .ok (.invokevirtual 413, 3) := by decide +kernel
theorem dX12_through_47 : decode cX12_through 47 = .ok (.ifCond .ne 31, 3) := by decide +kernel
theorem dX12_through_50 : decode cX12_through 50 = .ok (.iload 5, 2) := by decide +kernel
theorem dX12_through_52 : decode cX12_through 52 = .ok (.aload_n 0, 1) := by decide +kernel
theorem dX12_through_53 : decode cX12_through 53 = .ok (.getfield 373, 3) := by decide +kernel
theorem dX12_through_56 : decode cX12_through 56 = .ok (.if_icmp .le 24, 3) := by decide +kernel
theorem dX12_through_59 : decode cX12_through 59 = .ok (.iload 5, 2) := by decide +kernel
theorem dX12_through_61 : decode cX12_through 61 = .ok (.aload_n 0, 1) := by decide +kernel
theorem dX12_through_62 : decode cX12_through 62 = .ok (.getfield 376, 3) := by decide +kernel
theorem dX12_through_65 : decode cX12_through 65 = .ok (.if_icmp .ge 15, 3) := by decide +kernel
theorem dX12_through_68 : decode cX12_through 68 = .ok (.aload_n 0, 1) := by decide +kernel
theorem dX12_through_69 : decode cX12_through 69 = .ok (.getfield 108, 3) := by decide +kernel
theorem dX12_through_72 : decode cX12_through 72 = .ok (.iload 5, 2) := by decide +kernel
theorem dX12_through_74 : decode cX12_through 74 = .ok (.iaload, 1) := by decide +kernel
theorem dX12_through_75 : decode cX12_through 75 = .ok (.ifCond .eq 5, 3) := by decide +kernel
theorem dX12_through_78 : decode cX12_through 78 = .ok (.iconst 0, 1) := by decide +kernel
theorem dX12_through_79 : decode cX12_through 79 = .ok (.ireturn, 1) := by decide +kernel
theorem dX12_through_80 : decode cX12_through 80 = .ok (.aload_n 0, 1) := by decide +kernel
theorem dX12_through_81 : decode cX12_through 81 = .ok (.getfield 96, 3) := by decide +kernel
theorem dX12_through_84 : decode cX12_through 84 = .ok (.iload 5, 2) := by decide +kernel
theorem dX12_through_86 : decode cX12_through 86 = .ok (.iaload, 1) := by decide +kernel
theorem dX12_through_87 : decode cX12_through 87 = .ok (.iconst (-1), 1) := by decide +kernel
theorem dX12_through_88 : decode cX12_through 88 = .ok (.if_icmp .eq 14, 3) := by decide +kernel
theorem dX12_through_91 : decode cX12_through 91 = .ok (.aload_n 0, 1) := by decide +kernel
theorem dX12_through_92 : decode cX12_through 92 = .ok (.getfield 99, 3) := by decide +kernel
theorem dX12_through_95 : decode cX12_through 95 = .ok (.iload 5, 2) := by decide +kernel
theorem dX12_through_97 : decode cX12_through 97 = .ok (.iaload, 1) := by decide +kernel
theorem dX12_through_98 : decode cX12_through 98 = .ok (.iconst (-1), 1) := by decide +kernel
theorem dX12_through_99 : decode cX12_through 99 = .ok (.if_icmp .ne 6, 3) := by decide +kernel
theorem dX12_through_102 : decode cX12_through 102 = .ok (.iconst 1, 1) := by decide +kernel
theorem dX12_through_103 : decode cX12_through 103 = .ok (.istore 4, 2) := by decide +kernel
theorem dX12_through_105 : decode cX12_through 105 = .ok (.iinc 5 1, 3) := by decide +kernel
theorem dX12_through_108 : decode cX12_through 108 = .ok (.goto (-87), 3) := by decide +kernel
theorem dX12_through_111 : decode cX12_through 111 = .ok (.iload 4, 2) := by decide +kernel
theorem dX12_through_113 : decode cX12_through 113 = .ok (.ireturn, 1) := by decide +kernel
theorem dX12_isPedal_0 : decode cX12_isPedal 0 = .ok (.iconst 0, 1) := by decide +kernel
theorem dX12_isPedal_1 : decode cX12_isPedal 1 = .ok (.istore_n 2, 1) := by decide +kernel
theorem dX12_isPedal_2 : decode cX12_isPedal 2 = .ok (.iload_n 2, 1) := by decide +kernel
theorem dX12_isPedal_3 : decode cX12_isPedal 3 = .ok (.aload_n 0, 1) := by decide +kernel
theorem dX12_isPedal_4 : decode cX12_isPedal 4 = .ok (.getfield 416, 3) := by decide +kernel
theorem dX12_isPedal_7 : decode cX12_isPedal 7 = .ok (.if_icmp .ge 21, 3) := by decide +kernel
theorem dX12_isPedal_10 : decode cX12_isPedal 10 = .ok (.aload_n 0, 1) := by decide +kernel
theorem dX12_isPedal_11 : decode cX12_isPedal 11 = .ok (.getfield 132, 3) := by decide +kernel
theorem dX12_isPedal_14 : decode cX12_isPedal 14 = .ok (.iload_n 2, 1) := by decide +kernel
theorem dX12_isPedal_15 : decode cX12_isPedal 15 = .ok (.iaload, 1) := by decide +kernel
theorem dX12_isPedal_16 : decode cX12_isPedal 16 = .ok (.iload_n 1, 1) := by decide +kernel
theorem dX12_isPedal_17 : decode cX12_isPedal 17 = .ok (.if_icmp .ne 5, 3) := by decide +kernel
theorem dX12_isPedal_20 : decode cX12_isPedal 20 = .ok (.iconst 1, 1) := by decide +kernel
theorem dX12_isPedal_21 : decode cX12_isPedal 21 = .ok (.ireturn, 1) := by decide +kernel
theorem dX12_isPedal_22 : decode cX12_isPedal 22 = .ok (.iinc 2 1, 3) := by decide +kernel
theorem dX12_isPedal_25 : decode cX12_isPedal 25 = .ok (.goto (-23), 3) := by decide +kernel
theorem dX12_isPedal_28 : decode cX12_isPedal 28 = .ok (.iconst 0, 1) := by decide +kernel
theorem dX12_isPedal_29 : decode cX12_isPedal 29 = .ok (.ireturn, 1) := by decide +kernel
theorem dX12_pedal_0 : decode cX12_pedal 0 = .ok (.iload_n 1, 1) := by decide +kernel
theorem dX12_pedal_1 : decode cX12_pedal 1 = .ok (.iconst (-1), 1) := by decide +kernel
theorem dX12_pedal_2 : decode cX12_pedal 2 = .ok (.if_icmp .ne 23, 3) := by decide +kernel
theorem dX12_pedal_5 : decode cX12_pedal 5 = .ok (.iload_n 2, 1) := by decide +kernel
theorem dX12_pedal_6 : decode cX12_pedal 6 = .ok (.iconst 1, 1) := by decide +kernel
theorem dX12_pedal_7 : decode cX12_pedal 7 = .ok (.sipush 300, 3) := by decide +kernel
theorem dX12_pedal_10 : decode cX12_pedal 10 = .ok (.invokestatic 9, 3) := by decide +kernel
theorem dX12_pedal_13 : decode cX12_pedal 13 = .ok (.ifCond .ne 5, 3) := by decide +kernel
theorem dX12_pedal_16 : decode cX12_pedal 16 = .ok (.iconst 0, 1) := by decide +kernel
theorem dX12_pedal_17 : decode cX12_pedal 17 = .ok (.ireturn, 1) := by decide +kernel
theorem dX12_pedal_18 : decode cX12_pedal 18 = .ok (.aload_n 0, 1) := by decide +kernel
theorem dX12_pedal_19 : decode cX12_pedal 19 = .ok (.iload_n 2, 1) := by decide +kernel
theorem dX12_pedal_20 : decode cX12_pedal 20 = .ok (.putfield 135, 3) := by decide +kernel
theorem dX12_pedal_23 : decode cX12_pedal 23 = .ok (.iconst 1, 1) := by decide +kernel
theorem dX12_pedal_24 : decode cX12_pedal 24 = .ok (.ireturn, 1) := by decide +kernel
theorem dX12_pedal_25 : decode cX12_pedal 25 = .ok (.iload_n 1, 1) := by decide +kernel
theorem dX12_pedal_26 : decode cX12_pedal 26 = .ok (.ifCond .ne 17, 3) := by decide +kernel
theorem dX12_pedal_29 : decode cX12_pedal 29 = .ok (.aload_n 0, 1) := by decide +kernel
theorem dX12_pedal_30 : decode cX12_pedal 30 = .ok (.iconst 0, 1) := by decide +kernel
theorem dX12_pedal_31 : decode cX12_pedal 31 = .ok (.putfield 416, 3) := by decide +kernel
theorem dX12_pedal_34 : decode cX12_pedal 34 = .ok (.aload_n 0, 1) := by decide +kernel
theorem dX12_pedal_35 : decode cX12_pedal 35 = .ok (.sipush 300, 3) := by decide +kernel
theorem dX12_pedal_38 : decode cX12_pedal 38 = .ok (.putfield 135, 3) := by decide +kernel
theorem dX12_pedal_41 : decode cX12_pedal 41 = .ok (.iconst 1, 1) := by decide +kernel
theorem dX12_pedal_42 : decode cX12_pedal 42 = .ok (.ireturn, 1) := by decide +kernel
theorem dX12_pedal_43 : decode cX12_pedal 43 = .ok (.iload_n 1, 1) := by decide +kernel
theorem dX12_pedal_44 : decode cX12_pedal 44 = .ok (.iconst 1, 1) := by decide +kernel
theorem dX12_pedal_45 : decode cX12_pedal 45 = .ok (.bipush 99, 2) := by decide +kernel
theorem dX12_pedal_47 : decode cX12_pedal 47 = .ok (.invokestatic 9, 3) := by decide +kernel
theorem dX12_pedal_50 : decode cX12_pedal 50 = .ok (.ifCond .eq 20, 3) := by decide +kernel
theorem dX12_pedal_53 : decode cX12_pedal 53 = .ok (.aload_n 0, 1) := by decide +kernel
theorem dX12_pedal_54 : decode cX12_pedal 54 = .ok (.iload_n 1, 1) := by decide +kernel
theorem dX12_pedal_55 : decode cX12_pedal 55 = .ok (.invokevirtual 419, 3) := by decide +kernel
theorem dX12_pedal_58 : decode cX12_pedal 58 = .ok (.ifCond .ne 12, 3) := by decide +kernel
theorem dX12_pedal_61 : decode cX12_pedal 61 = .ok (.aload_n 0, 1) := by decide +kernel
theorem dX12_pedal_62 : decode cX12_pedal 62 = .ok (.getfield 416, 3) := by decide +kernel
theorem dX12_pedal_65 : decode cX12_pedal 65 = .ok (.bipush 8, 2) := by decide +kernel
theorem dX12_pedal_67 : decode cX12_pedal 67 = .ok (.if_icmp .ne 5, 3) := by decide +kernel
theorem dX12_pedal_70 : decode cX12_pedal 70 = .ok (.iconst 0, 1) := by decide +kernel
theorem dX12_pedal_71 : decode cX12_pedal 71 = .ok (.ireturn, 1) := by decide +kernel
theorem dX12_pedal_72 : decode cX12_pedal 72 = .ok (.aload_n 0, 1) := by decide +kernel
theorem dX12_pedal_73 : decode cX12_pedal 73 = .ok (.getfield 132, 3) := by decide +kernel
theorem dX12_pedal_76 : decode cX12_pedal 76 = .ok (.aload_n 0, 1) := by decide +kernel
theorem dX12_pedal_77 : decode cX12_pedal 77 = .ok (.getfield 416, 3) := by decide +kernel
theorem dX12_pedal_80 : decode cX12_pedal 80 = .ok (.iload_n 1, 1) := by decide +kernel
theorem dX12_pedal_81 : decode cX12_pedal 81 = .ok (.iastore, 1) := by decide +kernel
theorem dX12_pedal_82 : decode cX12_pedal 82 = .ok (.aload_n 0, 1) := by decide +kernel
theorem dX12_pedal_83 : decode cX12_pedal 83 = .ok (.dup, 1) := by decide +kernel
theorem dX12_pedal_84 : decode cX12_pedal 84 = .ok (.getfield 416, 3) := by decide +kernel
theorem dX12_pedal_87 : decode cX12_pedal 87 = .ok (.iconst 1, 1) := by decide +kernel
theorem dX12_pedal_88 : decode cX12_pedal 88 = .ok (.iadd, 1) := by decide +kernel
theorem dX12_pedal_89 : decode cX12_pedal 89 = .ok (.putfield 416, 3) := by decide +kernel
theorem dX12_pedal_92 : decode cX12_pedal 92 = .ok (.iconst 1, 1) := by decide +kernel
theorem dX12_pedal_93 : decode cX12_pedal 93 = .ok (.ireturn, 1) := by decide +kernel
theorem dX12_lacks_0 : decode cX12_lacks 0 = .ok (.iconst 0, 1) := by decide +kernel
theorem dX12_lacks_1 : decode cX12_lacks 1 = .ok (.istore_n 1, 1) := by decide +kernel
theorem dX12_lacks_2 : decode cX12_lacks 2 = .ok (.iconst 1, 1) := by decide +kernel
theorem dX12_lacks_3 : decode cX12_lacks 3 = .ok (.istore_n 2, 1) := by decide +kernel
theorem dX12_lacks_4 : decode cX12_lacks 4 = .ok (.iload_n 2, 1) := by decide +kernel
theorem dX12_lacks_5 : decode cX12_lacks 5 = .ok (.bipush 100, 2) := by decide +kernel
theorem dX12_lacks_7 : decode cX12_lacks 7 = .ok (.if_icmp .ge 73, 3) := by decide +kernel
theorem dX12_lacks_10 : decode cX12_lacks 10 = .ok (.iconst 0, 1) := by decide +kernel
theorem dX12_lacks_11 : decode cX12_lacks 11 = .ok (.istore_n 3, 1) := by decide +kernel
theorem dX12_lacks_12 : decode cX12_lacks 12 = .ok (.aload_n 0, 1) := by decide +kernel
theorem dX12_lacks_13 : decode cX12_lacks 13 = .ok (.getfield 373, 3) := by decide +kernel
theorem dX12_lacks_16 : decode cX12_lacks 16 = .ok (.istore 4, 2) := by decide +kernel
theorem dX12_lacks_18 : decode cX12_lacks 18 = .ok (.iload 4, 2) := by decide +kernel
theorem dX12_lacks_20 : decode cX12_lacks 20 = .ok (.aload_n 0, 1) := by decide +kernel
theorem dX12_lacks_21 : decode cX12_lacks 21 = .ok (.getfield 376, 3) := by decide +kernel
theorem dX12_lacks_24 : decode cX12_lacks 24 = .ok (.if_icmp .gt 30, 3) := by decide +kernel
theorem dX12_lacks_27 : decode cX12_lacks 27 = .ok (.iload_n 3, 1) := by decide +kernel
theorem dX12_lacks_28 : decode cX12_lacks 28 = .ok (.ifCond .ne 14, 3) := by decide +kernel
theorem dX12_lacks_31 : decode cX12_lacks 31 = .ok (.aload_n 0, 1) := by decide +kernel
theorem dX12_lacks_32 : decode cX12_lacks 32 = .ok (.getfield 108, 3) := by decide +kernel
theorem dX12_lacks_35 : decode cX12_lacks 35 = .ok (.iload 4, 2) := by decide +kernel
theorem dX12_lacks_37 : decode cX12_lacks 37 = .ok (.iaload, 1) := by decide +kernel
theorem dX12_lacks_38 : decode cX12_lacks 38 = .ok (.iload_n 2, 1) := by decide +kernel
theorem dX12_lacks_39 : decode cX12_lacks 39 = .ok (.if_icmp .ne 7, 3) := by decide +kernel
theorem dX12_lacks_42 : decode cX12_lacks 42 = .ok (.iconst 1, 1) := by decide +kernel
theorem dX12_lacks_43 : decode cX12_lacks 43 = .ok (.goto 4, 3) := by decide +kernel
theorem dX12_lacks_46 : decode cX12_lacks 46 = .ok (.iconst 0, 1) := by decide +kernel
theorem dX12_lacks_47 : decode cX12_lacks 47 = .ok (.istore_n 3, 1) := by decide +kernel
theorem dX12_lacks_48 : decode cX12_lacks 48 = .ok (.iinc 4 1, 3) := by decide +kernel
theorem dX12_lacks_51 : decode cX12_lacks 51 = .ok (.goto (-33), 3) := by decide +kernel
theorem dX12_lacks_54 : decode cX12_lacks 54 = .ok (.iload_n 1, 1) := by decide +kernel
theorem dX12_lacks_55 : decode cX12_lacks 55 = .ok (.iload_n 3, 1) := by decide +kernel
theorem dX12_lacks_56 : decode cX12_lacks 56 = .ok (.ifCond .eq 15, 3) := by decide +kernel
theorem dX12_lacks_59 : decode cX12_lacks 59 = .ok (.aload_n 0, 1) := by decide +kernel
theorem dX12_lacks_60 : decode cX12_lacks 60 = .ok (.iload_n 2, 1) := by decide +kernel
theorem dX12_lacks_61 : decode cX12_lacks 61 = .ok (.invokevirtual 419, 3) := by decide +kernel
theorem dX12_lacks_64 : decode cX12_lacks 64 = .ok (.ifCond .ne 7, 3) := by decide +kernel
theorem dX12_lacks_67 : decode cX12_lacks 67 = .ok (.iconst 1, 1) := by decide +kernel
theorem dX12_lacks_68 : decode cX12_lacks 68 = .ok (.goto 4, 3) := by decide +kernel
theorem dX12_lacks_71 : decode cX12_lacks 71 = .ok (.iconst 0, 1) := by decide +kernel
theorem dX12_lacks_72 : decode cX12_lacks 72 = .ok (.iadd, 1) := by decide +kernel
theorem dX12_lacks_73 : decode cX12_lacks 73 = .ok (.istore_n 1, 1) := by decide +kernel
theorem dX12_lacks_74 : decode cX12_lacks 74 = .ok (.iinc 2 1, 3) := by decide +kernel
theorem dX12_lacks_77 : decode cX12_lacks 77 = .ok (.goto (-73), 3) := by decide +kernel
theorem dX12_lacks_80 : decode cX12_lacks 80 = .ok (.iload_n 1, 1) := by decide +kernel
theorem dX12_lacks_81 : decode cX12_lacks 81 = .ok (.ireturn, 1) := by decide +kernel
theorem dX12_longestStill_0 : decode cX12_longestStill 0 = .ok (.iconst 0, 1) := by decide +kernel
theorem dX12_longestStill_1 : decode cX12_longestStill 1 = .ok (.istore_n 1, 1) := by decide +kernel
theorem dX12_longestStill_2 : decode cX12_longestStill 2 = .ok (.iconst 0, 1) := by decide +kernel
theorem dX12_longestStill_3 : decode cX12_longestStill 3 = .ok (.istore_n 2, 1) := by decide +kernel
theorem dX12_longestStill_4 : decode cX12_longestStill 4 = .ok (.aload_n 0, 1) := by decide +kernel
theorem dX12_longestStill_5 : decode cX12_longestStill 5 = .ok (.getfield 373, 3) := by decide +kernel
theorem dX12_longestStill_8 : decode cX12_longestStill 8 = .ok (.istore_n 3, 1) := by decide +kernel
theorem dX12_longestStill_9 : decode cX12_longestStill 9 = .ok (.iload_n 3, 1) := by decide +kernel
theorem dX12_longestStill_10 : decode cX12_longestStill 10 = .ok (.aload_n 0, 1) := by decide +kernel
theorem dX12_longestStill_11 : decode cX12_longestStill 11 = .ok (.getfield 376, 3) := by decide +kernel
theorem dX12_longestStill_14 : decode cX12_longestStill 14 = .ok (.if_icmp .gt 46, 3) := by decide +kernel
theorem dX12_longestStill_17 : decode cX12_longestStill 17 = .ok (.aload_n 0, 1) := by decide +kernel
theorem dX12_longestStill_18 : decode cX12_longestStill 18 = .ok (.getfield 114, 3) := by decide +kernel
theorem dX12_longestStill_21 : decode cX12_longestStill 21 = .ok (.iload_n 3, 1) := by decide +kernel
theorem dX12_longestStill_22 : decode cX12_longestStill 22 = .ok (.iaload, 1) := by decide +kernel
theorem dX12_longestStill_23 : decode cX12_longestStill 23 = .ok (.ifCond .le 18, 3) := by decide +kernel
theorem dX12_longestStill_26 : decode cX12_longestStill 26 = .ok (.aload_n 0, 1) := by decide +kernel
theorem dX12_longestStill_27 : decode cX12_longestStill 27 = .ok (.getfield 93, 3) := by decide +kernel
theorem dX12_longestStill_30 : decode cX12_longestStill 30 = .ok (.iload_n 3, 1) := by decide +kernel
theorem dX12_longestStill_31 : decode cX12_longestStill 31 = .ok (.iaload, 1) := by decide +kernel
theorem dX12_longestStill_32 : decode cX12_longestStill 32 = .ok (.ifCond .ne 9, 3) := by decide +kernel
theorem dX12_longestStill_35 : decode cX12_longestStill 35 = .ok (.iload_n 1, 1) := by decide +kernel
theorem dX12_longestStill_36 : decode cX12_longestStill 36 = .ok (.iconst 1, 1) := by decide +kernel
theorem dX12_longestStill_37 : decode cX12_longestStill 37 = .ok (.iadd, 1) := by decide +kernel
theorem dX12_longestStill_38 : decode cX12_longestStill 38 = .ok (.goto 4, 3) := by decide +kernel
theorem dX12_longestStill_41 : decode cX12_longestStill 41 = .ok (.iconst 0, 1) := by decide +kernel
theorem dX12_longestStill_42 : decode cX12_longestStill 42 = .ok (.istore_n 1, 1) := by decide +kernel
theorem dX12_longestStill_43 : decode cX12_longestStill 43 = .ok (.iload_n 1, 1) := by decide +kernel
theorem dX12_longestStill_44 : decode cX12_longestStill 44 = .ok (.iload_n 2, 1) := by decide +kernel
theorem dX12_longestStill_45 : decode cX12_longestStill 45 = .ok (.if_icmp .le 7, 3) := by decide +kernel
theorem dX12_longestStill_48 : decode cX12_longestStill 48 = .ok (.iload_n 1, 1) := by decide +kernel
theorem dX12_longestStill_49 : decode cX12_longestStill 49 = .ok (.goto 4, 3) := by decide +kernel
theorem dX12_longestStill_52 : decode cX12_longestStill 52 = .ok (.iload_n 2, 1) := by decide +kernel
theorem dX12_longestStill_53 : decode cX12_longestStill 53 = .ok (.istore_n 2, 1) := by decide +kernel
theorem dX12_longestStill_54 : decode cX12_longestStill 54 = .ok (.iinc 3 1, 3) := by decide +kernel
theorem dX12_longestStill_57 : decode cX12_longestStill 57 = .ok (.goto (-48), 3) := by decide +kernel
theorem dX12_longestStill_60 : decode cX12_longestStill 60 = .ok (.iload_n 2, 1) := by decide +kernel
theorem dX12_longestStill_61 : decode cX12_longestStill 61 = .ok (.ireturn, 1) := by decide +kernel
theorem dX12_could_0 : decode cX12_could 0 = .ok (.aload_n 0, 1) := by decide +kernel
theorem dX12_could_1 : decode cX12_could 1 = .ok (.iload_n 1, 1) := by decide +kernel
theorem dX12_could_2 : decode cX12_could 2 = .ok (.iload_n 2, 1) := by decide +kernel
theorem dX12_could_3 : decode cX12_could 3 = .ok (.iload_n 3, 1) := by decide +kernel
theorem dX12_could_4 : decode cX12_could 4 = .ok (.invokevirtual 379, 3) := by decide +kernel
theorem dX12_could_7 : decode cX12_could 7 = .ok (.ifCond .eq 13, 3) := by decide +kernel
theorem dX12_could_10 : decode cX12_could 10 = .ok (.iload 4, 2) := by decide +kernel
theorem dX12_could_12 : decode cX12_could 12 = .ok (.iconst 0, 1) := by decide +kernel
theorem dX12_could_13 : decode cX12_could 13 = .ok (.iconst 1, 1) := by decide +kernel
theorem dX12_could_14 : decode cX12_could 14 = .ok (.invokestatic 9, 3) := by decide +kernel
theorem dX12_could_17 : decode cX12_could 17 = .ok (.ifCond .ne 5, 3) := by decide +kernel
theorem dX12_could_20 : decode cX12_could 20 = .ok (.iconst (-1), 1) := by decide +kernel
theorem dX12_could_21 : decode cX12_could 21 = .ok (.ireturn, 1) := by decide +kernel
theorem dX12_could_22 : decode cX12_could 22 = .ok (.iload 4, 2) := by decide +kernel
theorem dX12_could_24 : decode cX12_could 24 = .ok (.iconst 1, 1) := by decide +kernel
theorem dX12_could_25 : decode cX12_could 25 = .ok (.if_icmp .ne 10, 3) := by decide +kernel
theorem dX12_could_28 : decode cX12_could 28 = .ok (.aload_n 0, 1) := by decide +kernel
theorem dX12_could_29 : decode cX12_could 29 = .ok (.invokevirtual 422, 3) := by decide +kernel
theorem dX12_could_32 : decode cX12_could 32 = .ok (.goto 26, 3) := by decide +kernel
theorem dX12_could_35 : decode cX12_could 35 = .ok (.aload_n 0, 1) := by decide +kernel
theorem dX12_could_36 : decode cX12_could 36 = .ok (.invokevirtual 422, 3) := by decide +kernel
theorem dX12_could_39 : decode cX12_could 39 = .ok (.ifCond .ne 18, 3) := by decide +kernel
theorem dX12_could_42 : decode cX12_could 42 = .ok (.aload_n 0, 1) := by decide +kernel
theorem dX12_could_43 : decode cX12_could 43 = .ok (.invokevirtual 425, 3) := by decide +kernel
theorem dX12_could_46 : decode cX12_could 46 = .ok (.aload_n 0, 1) := by decide +kernel
theorem dX12_could_47 : decode cX12_could 47 = .ok (.getfield 135, 3) := by decide +kernel
theorem dX12_could_50 : decode cX12_could 50 = .ok (.if_icmp .gt 7, 3) := by decide +kernel
theorem dX12_could_53 : decode cX12_could 53 = .ok (.iconst 1, 1) := by decide +kernel
theorem dX12_could_54 : decode cX12_could 54 = .ok (.goto 4, 3) := by decide +kernel
theorem dX12_could_57 : decode cX12_could 57 = .ok (.iconst 0, 1) := by decide +kernel
theorem dX12_could_58 : decode cX12_could 58 = .ok (.ireturn, 1) := by decide +kernel
theorem dX12_alikeOf_0 : decode cX12_alikeOf 0 = .ok (.aload_n 0, 1) := by decide +kernel
theorem dX12_alikeOf_1 : decode cX12_alikeOf 1 = .ok (.iload_n 2, 1) := by decide +kernel
theorem dX12_alikeOf_2 : decode cX12_alikeOf 2 = .ok (.iconst 2, 1) := by decide +kernel
theorem dX12_alikeOf_3 : decode cX12_alikeOf 3 = .ok (.invokevirtual 364, 3) := by decide +kernel
theorem dX12_alikeOf_6 : decode cX12_alikeOf 6 = .ok (.iconst 0, 1) := by decide +kernel
theorem dX12_alikeOf_7 : decode cX12_alikeOf 7 = .ok (.istore_n 3, 1) := by decide +kernel
theorem dX12_alikeOf_8 : decode cX12_alikeOf 8 = .ok (.sipush 300, 3) := by decide +kernel
theorem dX12_alikeOf_11 : decode cX12_alikeOf 11 = .ok (.iload_n 1, 1) := by decide +kernel
theorem dX12_alikeOf_12 : decode cX12_alikeOf 12 = .ok (.imul, 1) := by decide +kernel
theorem dX12_alikeOf_13 : decode cX12_alikeOf 13 = .ok (.istore 4, 2) := by decide +kernel
theorem dX12_alikeOf_15 : decode cX12_alikeOf 15 = .ok (.iload 4, 2) := by decide +kernel
theorem dX12_alikeOf_17 : decode cX12_alikeOf 17 = .ok (.sipush 300, 3) := by decide +kernel
theorem dX12_alikeOf_20 : decode cX12_alikeOf 20 = .ok (.iload_n 1, 1) := by decide +kernel
theorem dX12_alikeOf_21 : decode cX12_alikeOf 21 = .ok (.imul, 1) := by decide +kernel
theorem dX12_alikeOf_22 : decode cX12_alikeOf 22 = .ok (.sipush 300, 3) := by decide +kernel
theorem dX12_alikeOf_25 : decode cX12_alikeOf 25 = .ok (.iadd, 1) := by decide +kernel
theorem dX12_alikeOf_26 : decode cX12_alikeOf 26 = .ok (.if_icmp .ge 182, 3) := by decide +kernel
theorem dX12_alikeOf_29 : decode cX12_alikeOf 29 = .ok (.iload 4, 2) := by decide +kernel
theorem dX12_alikeOf_31 : decode cX12_alikeOf 31 = .ok (.sipush 600, 3) := by decide +kernel
theorem dX12_alikeOf_34 : decode cX12_alikeOf 34 = .ok (.iadd, 1) := by decide +kernel
theorem dX12_alikeOf_35 : decode cX12_alikeOf 35 = .ok (.istore 5, 2) := by decide +kernel
theorem dX12_alikeOf_37 : decode cX12_alikeOf 37 = .ok (.iload_n 3, 1) := by decide +kernel
theorem dX12_alikeOf_38 : decode cX12_alikeOf 38 = .ok (.aload_n 0, 1) := by decide +kernel
theorem dX12_alikeOf_39 : decode cX12_alikeOf 39 = .ok (.getfield 93, 3) := by decide +kernel
theorem dX12_alikeOf_42 : decode cX12_alikeOf 42 = .ok (.iload 4, 2) := by decide +kernel
theorem dX12_alikeOf_44 : decode cX12_alikeOf 44 = .ok (.iaload, 1) := by decide +kernel
theorem dX12_alikeOf_45 : decode cX12_alikeOf 45 = .ok (.aload_n 0, 1) := by decide +kernel
theorem dX12_alikeOf_46 : decode cX12_alikeOf 46 = .ok (.getfield 93, 3) := by decide +kernel
theorem dX12_alikeOf_49 : decode cX12_alikeOf 49 = .ok (.iload 5, 2) := by decide +kernel
theorem dX12_alikeOf_51 : decode cX12_alikeOf 51 = .ok (.iaload, 1) := by decide +kernel
theorem dX12_alikeOf_52 : decode cX12_alikeOf 52 = .ok (.if_icmp .ne 7, 3) := by decide +kernel
theorem dX12_alikeOf_55 : decode cX12_alikeOf 55 = .ok (.iconst 1, 1) := by decide +kernel
theorem dX12_alikeOf_56 : decode cX12_alikeOf 56 = .ok (.goto 4, 3) := by decide +kernel
theorem dX12_alikeOf_59 : decode cX12_alikeOf 59 = .ok (.iconst 0, 1) := by decide +kernel
theorem dX12_alikeOf_60 : decode cX12_alikeOf 60 = .ok (.aload_n 0, 1) := by decide +kernel
theorem dX12_alikeOf_61 : decode cX12_alikeOf 61 = .ok (.getfield 96, 3) := by decide +kernel
theorem dX12_alikeOf_64 : decode cX12_alikeOf 64 = .ok (.iload 4, 2) := by decide +kernel
theorem dX12_alikeOf_66 : decode cX12_alikeOf 66 = .ok (.iaload, 1) := by decide +kernel
theorem dX12_alikeOf_67 : decode cX12_alikeOf 67 = .ok (.aload_n 0, 1) := by decide +kernel
theorem dX12_alikeOf_68 : decode cX12_alikeOf 68 = .ok (.getfield 96, 3) := by decide +kernel
theorem dX12_alikeOf_71 : decode cX12_alikeOf 71 = .ok (.iload 5, 2) := by decide +kernel
theorem dX12_alikeOf_73 : decode cX12_alikeOf 73 = .ok (.iaload, 1) := by decide +kernel
theorem dX12_alikeOf_74 : decode cX12_alikeOf 74 = .ok (.if_icmp .ne 7, 3) := by decide +kernel
theorem dX12_alikeOf_77 : decode cX12_alikeOf 77 = .ok (.iconst 1, 1) := by decide +kernel
theorem dX12_alikeOf_78 : decode cX12_alikeOf 78 = .ok (.goto 4, 3) := by decide +kernel
theorem dX12_alikeOf_81 : decode cX12_alikeOf 81 = .ok (.iconst 0, 1) := by decide +kernel
theorem dX12_alikeOf_82 : decode cX12_alikeOf 82 = .ok (.iadd, 1) := by decide +kernel
theorem dX12_alikeOf_83 : decode cX12_alikeOf 83 = .ok (.aload_n 0, 1) := by decide +kernel
theorem dX12_alikeOf_84 : decode cX12_alikeOf 84 = .ok (.getfield 99, 3) := by decide +kernel
theorem dX12_alikeOf_87 : decode cX12_alikeOf 87 = .ok (.iload 4, 2) := by decide +kernel
theorem dX12_alikeOf_89 : decode cX12_alikeOf 89 = .ok (.iaload, 1) := by decide +kernel
theorem dX12_alikeOf_90 : decode cX12_alikeOf 90 = .ok (.aload_n 0, 1) := by decide +kernel
theorem dX12_alikeOf_91 : decode cX12_alikeOf 91 = .ok (.getfield 99, 3) := by decide +kernel
theorem dX12_alikeOf_94 : decode cX12_alikeOf 94 = .ok (.iload 5, 2) := by decide +kernel
theorem dX12_alikeOf_96 : decode cX12_alikeOf 96 = .ok (.iaload, 1) := by decide +kernel
theorem dX12_alikeOf_97 : decode cX12_alikeOf 97 = .ok (.if_icmp .ne 7, 3) := by decide +kernel
theorem dX12_alikeOf_100 : decode cX12_alikeOf 100 = .ok (.iconst 1, 1) := by decide +kernel
theorem dX12_alikeOf_101 : decode cX12_alikeOf 101 = .ok (.goto 4, 3) := by decide +kernel
theorem dX12_alikeOf_104 : decode cX12_alikeOf 104 = .ok (.iconst 0, 1) := by decide +kernel
theorem dX12_alikeOf_105 : decode cX12_alikeOf 105 = .ok (.iadd, 1) := by decide +kernel
theorem dX12_alikeOf_106 : decode cX12_alikeOf 106 = .ok (.aload_n 0, 1) := by decide +kernel
theorem dX12_alikeOf_107 : decode cX12_alikeOf 107 = .ok (.getfield 102, 3) := by decide +kernel
theorem dX12_alikeOf_110 : decode cX12_alikeOf 110 = .ok (.iload 4, 2) := by decide +kernel
theorem dX12_alikeOf_112 : decode cX12_alikeOf 112 = .ok (.iaload, 1) := by decide +kernel
theorem dX12_alikeOf_113 : decode cX12_alikeOf 113 = .ok (.aload_n 0, 1) := by decide +kernel
theorem dX12_alikeOf_114 : decode cX12_alikeOf 114 = .ok (.getfield 102, 3) := by decide +kernel
theorem dX12_alikeOf_117 : decode cX12_alikeOf 117 = .ok (.iload 5, 2) := by decide +kernel
theorem dX12_alikeOf_119 : decode cX12_alikeOf 119 = .ok (.iaload, 1) := by decide +kernel
theorem dX12_alikeOf_120 : decode cX12_alikeOf 120 = .ok (.if_icmp .ne 7, 3) := by decide +kernel
theorem dX12_alikeOf_123 : decode cX12_alikeOf 123 = .ok (.iconst 1, 1) := by decide +kernel
theorem dX12_alikeOf_124 : decode cX12_alikeOf 124 = .ok (.goto 4, 3) := by decide +kernel
theorem dX12_alikeOf_127 : decode cX12_alikeOf 127 = .ok (.iconst 0, 1) := by decide +kernel
theorem dX12_alikeOf_128 : decode cX12_alikeOf 128 = .ok (.iadd, 1) := by decide +kernel
theorem dX12_alikeOf_129 : decode cX12_alikeOf 129 = .ok (.iadd, 1) := by decide +kernel
theorem dX12_alikeOf_130 : decode cX12_alikeOf 130 = .ok (.istore_n 3, 1) := by decide +kernel
theorem dX12_alikeOf_131 : decode cX12_alikeOf 131 = .ok (.iload_n 3, 1) := by decide +kernel
theorem dX12_alikeOf_132 : decode cX12_alikeOf 132 = .ok (.aload_n 0, 1) := by decide +kernel
theorem dX12_alikeOf_133 : decode cX12_alikeOf 133 = .ok (.getfield 108, 3) := by decide +kernel
theorem dX12_alikeOf_136 : decode cX12_alikeOf 136 = .ok (.iload 4, 2) := by decide +kernel
theorem dX12_alikeOf_138 : decode cX12_alikeOf 138 = .ok (.iaload, 1) := by decide +kernel
theorem dX12_alikeOf_139 : decode cX12_alikeOf 139 = .ok (.aload_n 0, 1) := by decide +kernel
theorem dX12_alikeOf_140 : decode cX12_alikeOf 140 = .ok (.getfield 108, 3) := by decide +kernel
theorem dX12_alikeOf_143 : decode cX12_alikeOf 143 = .ok (.iload 5, 2) := by decide +kernel
theorem dX12_alikeOf_145 : decode cX12_alikeOf 145 = .ok (.iaload, 1) := by decide +kernel
theorem dX12_alikeOf_146 : decode cX12_alikeOf 146 = .ok (.if_icmp .ne 7, 3) := by decide +kernel
theorem dX12_alikeOf_149 : decode cX12_alikeOf 149 = .ok (.iconst 1, 1) := by decide +kernel
theorem dX12_alikeOf_150 : decode cX12_alikeOf 150 = .ok (.goto 4, 3) := by decide +kernel
theorem dX12_alikeOf_153 : decode cX12_alikeOf 153 = .ok (.iconst 0, 1) := by decide +kernel
theorem dX12_alikeOf_154 : decode cX12_alikeOf 154 = .ok (.aload_n 0, 1) := by decide +kernel
theorem dX12_alikeOf_155 : decode cX12_alikeOf 155 = .ok (.getfield 111, 3) := by decide +kernel
theorem dX12_alikeOf_158 : decode cX12_alikeOf 158 = .ok (.iload 4, 2) := by decide +kernel
theorem dX12_alikeOf_160 : decode cX12_alikeOf 160 = .ok (.iaload, 1) := by decide +kernel
theorem dX12_alikeOf_161 : decode cX12_alikeOf 161 = .ok (.aload_n 0, 1) := by decide +kernel
theorem dX12_alikeOf_162 : decode cX12_alikeOf 162 = .ok (.getfield 111, 3) := by decide +kernel
theorem dX12_alikeOf_165 : decode cX12_alikeOf 165 = .ok (.iload 5, 2) := by decide +kernel
theorem dX12_alikeOf_167 : decode cX12_alikeOf 167 = .ok (.iaload, 1) := by decide +kernel
theorem dX12_alikeOf_168 : decode cX12_alikeOf 168 = .ok (.if_icmp .ne 7, 3) := by decide +kernel
theorem dX12_alikeOf_171 : decode cX12_alikeOf 171 = .ok (.iconst 1, 1) := by decide +kernel
theorem dX12_alikeOf_172 : decode cX12_alikeOf 172 = .ok (.goto 4, 3) := by decide +kernel
theorem dX12_alikeOf_175 : decode cX12_alikeOf 175 = .ok (.iconst 0, 1) := by decide +kernel
theorem dX12_alikeOf_176 : decode cX12_alikeOf 176 = .ok (.iadd, 1) := by decide +kernel
theorem dX12_alikeOf_177 : decode cX12_alikeOf 177 = .ok (.aload_n 0, 1) := by decide +kernel
theorem dX12_alikeOf_178 : decode cX12_alikeOf 178 = .ok (.getfield 105, 3) := by decide +kernel
theorem dX12_alikeOf_181 : decode cX12_alikeOf 181 = .ok (.iload 4, 2) := by decide +kernel
theorem dX12_alikeOf_183 : decode cX12_alikeOf 183 = .ok (.iaload, 1) := by decide +kernel
theorem dX12_alikeOf_184 : decode cX12_alikeOf 184 = .ok (.aload_n 0, 1) := by decide +kernel
theorem dX12_alikeOf_185 : decode cX12_alikeOf 185 = .ok (.getfield 105, 3) := by decide +kernel
theorem dX12_alikeOf_188 : decode cX12_alikeOf 188 = .ok (.iload 5, 2) := by decide +kernel
theorem dX12_alikeOf_190 : decode cX12_alikeOf 190 = .ok (.iaload, 1) := by decide +kernel
theorem dX12_alikeOf_191 : decode cX12_alikeOf 191 = .ok (.if_icmp .ne 7, 3) := by decide +kernel
theorem dX12_alikeOf_194 : decode cX12_alikeOf 194 = .ok (.iconst 1, 1) := by decide +kernel
theorem dX12_alikeOf_195 : decode cX12_alikeOf 195 = .ok (.goto 4, 3) := by decide +kernel
theorem dX12_alikeOf_198 : decode cX12_alikeOf 198 = .ok (.iconst 0, 1) := by decide +kernel
theorem dX12_alikeOf_199 : decode cX12_alikeOf 199 = .ok (.iadd, 1) := by decide +kernel
theorem dX12_alikeOf_200 : decode cX12_alikeOf 200 = .ok (.iadd, 1) := by decide +kernel
theorem dX12_alikeOf_201 : decode cX12_alikeOf 201 = .ok (.istore_n 3, 1) := by decide +kernel
theorem dX12_alikeOf_202 : decode cX12_alikeOf 202 = .ok (.iinc 4 1, 3) := by decide +kernel
theorem dX12_alikeOf_205 : decode cX12_alikeOf 205 = .ok (.goto (-190), 3) := by decide +kernel
theorem dX12_alikeOf_208 : decode cX12_alikeOf 208 = .ok (.iload_n 3, 1) := by decide +kernel
theorem dX12_alikeOf_209 : decode cX12_alikeOf 209 = .ok (.ireturn, 1) := by decide +kernel
theorem dX12_alike_0 : decode cX12_alike 0 = .ok (.iload_n 1, 1) := by decide +kernel
theorem dX12_alike_1 : decode cX12_alike 1 = .ok (.iconst 0, 1) := by decide +kernel
theorem dX12_alike_2 : decode cX12_alike 2 = .ok (.iconst 1, 1) := by decide +kernel
theorem dX12_alike_3 : decode cX12_alike 3 = .ok (.invokestatic 9, 3) := by decide +kernel
theorem dX12_alike_6 : decode cX12_alike 6 = .ok (.ifCond .eq 25, 3) := by decide +kernel
theorem dX12_alike_9 : decode cX12_alike 9 = .ok (.iload_n 3, 1) := by decide +kernel
theorem dX12_alike_10 : decode cX12_alike 10 = .ok (.iconst 0, 1) := by decide +kernel
theorem dX12_alike_11 : decode cX12_alike 11 = .ok (.iconst 1, 1) := by decide +kernel
theorem dX12_alike_12 : decode cX12_alike 12 = .ok (.invokestatic 9, 3) := by decide +kernel
theorem dX12_alike_15 : decode cX12_alike 15 = .ok (.ifCond .eq 16, 3) := by decide +kernel
theorem dX12_alike_18 : decode cX12_alike 18 = .ok (.iload_n 3, 1) := by decide +kernel
theorem dX12_alike_19 : decode cX12_alike 19 = .ok (.ifCond .ne 14, 3) := by decide +kernel
theorem dX12_alike_22 : decode cX12_alike 22 = .ok (.iload_n 2, 1) := by decide +kernel
theorem dX12_alike_23 : decode cX12_alike 23 = .ok (.iconst 0, 1) := by decide +kernel
theorem dX12_alike_24 : decode cX12_alike 24 = .ok (.iconst 5, 1) := by decide +kernel
theorem dX12_alike_25 : decode cX12_alike 25 = .ok (.invokestatic 9, 3) := by decide +kernel
theorem dX12_alike_28 : decode cX12_alike 28 = .ok (.ifCond .ne 5, 3) := by decide +kernel
theorem dX12_alike_31 : decode cX12_alike 31 = .ok (.iconst (-1), 1) := by decide +kernel
theorem dX12_alike_32 : decode cX12_alike 32 = .ok (.ireturn, 1) := by decide +kernel
theorem dX12_alike_33 : decode cX12_alike 33 = .ok (.iload_n 3, 1) := by decide +kernel
theorem dX12_alike_34 : decode cX12_alike 34 = .ok (.ifCond .ne 10, 3) := by decide +kernel
theorem dX12_alike_37 : decode cX12_alike 37 = .ok (.aload_n 0, 1) := by decide +kernel
theorem dX12_alike_38 : decode cX12_alike 38 = .ok (.iload_n 1, 1) := by decide +kernel
theorem dX12_alike_39 : decode cX12_alike 39 = .ok (.iload_n 2, 1) := by decide +kernel
theorem dX12_alike_40 : decode cX12_alike 40 = .ok (.invokevirtual 428, 3) := by decide +kernel
theorem dX12_alike_43 : decode cX12_alike 43 = .ok (.ireturn, 1) := by decide +kernel
theorem dX12_alike_44 : decode cX12_alike 44 = .ok (.iconst (-1), 1) := by decide +kernel
theorem dX12_alike_45 : decode cX12_alike 45 = .ok (.istore 4, 2) := by decide +kernel
theorem dX12_alike_47 : decode cX12_alike 47 = .ok (.iconst 0, 1) := by decide +kernel
theorem dX12_alike_48 : decode cX12_alike 48 = .ok (.istore 5, 2) := by decide +kernel
theorem dX12_alike_50 : decode cX12_alike 50 = .ok (.iconst 0, 1) := by decide +kernel
theorem dX12_alike_51 : decode cX12_alike 51 = .ok (.istore 6, 2) := by decide +kernel
theorem dX12_alike_53 : decode cX12_alike 53 = .ok (.iload 6, 2) := by decide +kernel
theorem dX12_alike_55 : decode cX12_alike 55 = .ok (.bipush 6, 2) := by decide +kernel
theorem dX12_alike_57 : decode cX12_alike 57 = .ok (.if_icmp .ge 66, 3) := by decide +kernel
theorem dX12_alike_60 : decode cX12_alike 60 = .ok (.aload_n 0, 1) := by decide +kernel
theorem dX12_alike_61 : decode cX12_alike 61 = .ok (.iload_n 1, 1) := by decide +kernel
theorem dX12_alike_62 : decode cX12_alike 62 = .ok (.iload 6, 2) := by decide +kernel
theorem dX12_alike_64 : decode cX12_alike 64 = .ok (.invokevirtual 428, 3) := by decide +kernel
theorem dX12_alike_67 : decode cX12_alike 67 = .ok (.istore 7, 2) := by decide +kernel
theorem dX12_alike_69 : decode cX12_alike 69 = .ok (.iload 4, 2) := by decide +kernel
theorem dX12_alike_71 : decode cX12_alike 71 = .ok (.iconst (-1), 1) := by decide +kernel
theorem dX12_alike_72 : decode cX12_alike 72 = .ok (.if_icmp .eq 37, 3) := by decide +kernel
theorem dX12_alike_75 : decode cX12_alike 75 = .ok (.iload 7, 2) := by decide +kernel
theorem dX12_alike_77 : decode cX12_alike 77 = .ok (.iload 5, 2) := by decide +kernel
theorem dX12_alike_79 : decode cX12_alike 79 = .ok (.if_icmp .lt 38, 3) := by decide +kernel
theorem dX12_alike_82 : decode cX12_alike 82 = .ok (.iload 7, 2) := by decide +kernel
theorem dX12_alike_84 : decode cX12_alike 84 = .ok (.iload 5, 2) := by decide +kernel
theorem dX12_alike_86 : decode cX12_alike 86 = .ok (.if_icmp .ne 23, 3) := by decide +kernel
theorem dX12_alike_89 : decode cX12_alike 89 = .ok (.aload_n 0, 1) := by decide +kernel
theorem dX12_alike_90 : decode cX12_alike 90 = .ok (.getfield 48, 3) := by decide +kernel
theorem dX12_alike_93 : decode cX12_alike 93 = .ok (.iload 6, 2) := by decide +kernel
theorem dX12_alike_95 : decode cX12_alike 95 = .ok (.iaload, 1) := by decide +kernel
theorem dX12_alike_96 : decode cX12_alike 96 = .ok (.aload_n 0, 1) := by decide +kernel
theorem dX12_alike_97 : decode cX12_alike 97 = .ok (.getfield 48, 3) := by decide +kernel
theorem dX12_alike_100 : decode cX12_alike 100 = .ok (.iload 4, 2) := by decide +kernel
theorem dX12_alike_102 : decode cX12_alike 102 = .ok (.iaload, 1) := by decide +kernel
theorem dX12_alike_103 : decode cX12_alike 103 = .ok (.if_icmp .lt 6, 3) := by decide +kernel
theorem dX12_alike_106 : decode cX12_alike 106 = .ok (.goto 11, 3) := by decide +kernel
theorem dX12_alike_109 : decode cX12_alike 109 = .ok (.iload 6, 2) := by decide +kernel
theorem dX12_alike_111 : decode cX12_alike 111 = .ok (.istore 4, 2) := by decide +kernel
theorem dX12_alike_113 : decode cX12_alike 113 = .ok (.iload 7, 2) := by decide +kernel
theorem dX12_alike_115 : decode cX12_alike 115 = .ok (.istore 5, 2) := by decide +kernel
theorem dX12_alike_117 : decode cX12_alike 117 = .ok (.iinc 6 1, 3) := by decide +kernel
theorem dX12_alike_120 : decode cX12_alike 120 = .ok (.goto (-67), 3) := by decide +kernel
theorem dX12_alike_123 : decode cX12_alike 123 = .ok (.iload 4, 2) := by decide +kernel
theorem dX12_alike_125 : decode cX12_alike 125 = .ok (.ireturn, 1) := by decide +kernel
theorem dX12_both_0 : decode cX12_both 0 = .ok (.iload_n 0, 1) := by decide +kernel
theorem dX12_both_1 : decode cX12_both 1 = .ok (.tableswitch 100 10 18 #[51, 55, 59, 100, 63, 74, 85, 100, 96], 51) := by decide +kernel
theorem dX12_both_52 : decode cX12_both 52 = .ok (.iload_n 1, 1) := by decide +kernel
theorem dX12_both_53 : decode cX12_both 53 = .ok (.iload_n 2, 1) := by decide +kernel
theorem dX12_both_54 : decode cX12_both 54 = .ok (.iadd, 1) := by decide +kernel
theorem dX12_both_55 : decode cX12_both 55 = .ok (.ireturn, 1) := by decide +kernel
theorem dX12_both_56 : decode cX12_both 56 = .ok (.iload_n 1, 1) := by decide +kernel
theorem dX12_both_57 : decode cX12_both 57 = .ok (.iload_n 2, 1) := by decide +kernel
theorem dX12_both_58 : decode cX12_both 58 = .ok (.isub, 1) := by decide +kernel
theorem dX12_both_59 : decode cX12_both 59 = .ok (.ireturn, 1) := by decide +kernel
theorem dX12_both_60 : decode cX12_both 60 = .ok (.iload_n 1, 1) := by decide +kernel
theorem dX12_both_61 : decode cX12_both 61 = .ok (.iload_n 2, 1) := by decide +kernel
theorem dX12_both_62 : decode cX12_both 62 = .ok (.imul, 1) := by decide +kernel
theorem dX12_both_63 : decode cX12_both 63 = .ok (.ireturn, 1) := by decide +kernel
theorem dX12_both_64 : decode cX12_both 64 = .ok (.iload_n 1, 1) := by decide +kernel
theorem dX12_both_65 : decode cX12_both 65 = .ok (.iload_n 2, 1) := by decide +kernel
theorem dX12_both_66 : decode cX12_both 66 = .ok (.if_icmp .ge 7, 3) := by decide +kernel
theorem dX12_both_69 : decode cX12_both 69 = .ok (.iconst 1, 1) := by decide +kernel
theorem dX12_both_70 : decode cX12_both 70 = .ok (.goto 4, 3) := by decide +kernel
theorem dX12_both_73 : decode cX12_both 73 = .ok (.iconst 0, 1) := by decide +kernel
theorem dX12_both_74 : decode cX12_both 74 = .ok (.ireturn, 1) := by decide +kernel
theorem dX12_both_75 : decode cX12_both 75 = .ok (.iload_n 1, 1) := by decide +kernel
theorem dX12_both_76 : decode cX12_both 76 = .ok (.iload_n 2, 1) := by decide +kernel
theorem dX12_both_77 : decode cX12_both 77 = .ok (.if_icmp .ne 7, 3) := by decide +kernel
theorem dX12_both_80 : decode cX12_both 80 = .ok (.iconst 1, 1) := by decide +kernel
theorem dX12_both_81 : decode cX12_both 81 = .ok (.goto 4, 3) := by decide +kernel
theorem dX12_both_84 : decode cX12_both 84 = .ok (.iconst 0, 1) := by decide +kernel
theorem dX12_both_85 : decode cX12_both 85 = .ok (.ireturn, 1) := by decide +kernel
theorem dX12_both_86 : decode cX12_both 86 = .ok (.iload_n 1, 1) := by decide +kernel
theorem dX12_both_87 : decode cX12_both 87 = .ok (.iload_n 2, 1) := by decide +kernel
theorem dX12_both_88 : decode cX12_both 88 = .ok (.if_icmp .le 7, 3) := by decide +kernel
theorem dX12_both_91 : decode cX12_both 91 = .ok (.iconst 1, 1) := by decide +kernel
theorem dX12_both_92 : decode cX12_both 92 = .ok (.goto 4, 3) := by decide +kernel
theorem dX12_both_95 : decode cX12_both 95 = .ok (.iconst 0, 1) := by decide +kernel
theorem dX12_both_96 : decode cX12_both 96 = .ok (.ireturn, 1) := by decide +kernel
theorem dX12_both_97 : decode cX12_both 97 = .ok (.iload_n 1, 1) := by decide +kernel
theorem dX12_both_98 : decode cX12_both 98 = .ok (.iload_n 2, 1) := by decide +kernel
theorem dX12_both_99 : decode cX12_both 99 = .ok (.iand, 1) := by decide +kernel
theorem dX12_both_100 : decode cX12_both 100 = .ok (.ireturn, 1) := by decide +kernel
theorem dX12_both_101 : decode cX12_both 101 = .ok (.iload_n 1, 1) := by decide +kernel
theorem dX12_both_102 : decode cX12_both 102 = .ok (.iload_n 2, 1) := by decide +kernel
theorem dX12_both_103 : decode cX12_both 103 = .ok (.ior, 1) := by decide +kernel
theorem dX12_both_104 : decode cX12_both 104 = .ok (.ireturn, 1) := by decide +kernel
theorem dX12_comesTo_0 : decode cX12_comesTo 0 = .ok (.iconst 0, 1) := by decide +kernel
theorem dX12_comesTo_1 : decode cX12_comesTo 1 = .ok (.istore 4, 2) := by decide +kernel
theorem dX12_comesTo_3 : decode cX12_comesTo 3 = .ok (.iload_n 2, 1) := by decide +kernel
theorem dX12_comesTo_4 : decode cX12_comesTo 4 = .ok (.istore 5, 2) := by decide +kernel
theorem dX12_comesTo_6 : decode cX12_comesTo 6 = .ok (.iload 5, 2) := by decide +kernel
theorem dX12_comesTo_8 : decode cX12_comesTo 8 = .ok (.iload_n 3, 1) := by decide +kernel
theorem dX12_comesTo_9 : decode cX12_comesTo 9 = .ok (.if_icmp .ge 169, 3) := by decide +kernel
theorem dX12_comesTo_12 : decode cX12_comesTo 12 = .ok (.aload_n 0, 1) := by decide +kernel
theorem dX12_comesTo_13 : decode cX12_comesTo 13 = .ok (.getfield 69, 3) := by decide +kernel
theorem dX12_comesTo_16 : decode cX12_comesTo 16 = .ok (.sipush 1220, 3) := by decide +kernel
theorem dX12_comesTo_19 : decode cX12_comesTo 19 = .ok (.iload_n 1, 1) := by decide +kernel
theorem dX12_comesTo_20 : decode cX12_comesTo 20 = .ok (.imul, 1) := by decide +kernel
theorem dX12_comesTo_21 : decode cX12_comesTo 21 = .ok (.iconst 2, 1) := by decide +kernel
theorem dX12_comesTo_22 : decode cX12_comesTo 22 = .ok (.iload 5, 2) := by decide +kernel
theorem dX12_comesTo_24 : decode cX12_comesTo 24 = .ok (.imul, 1) := by decide +kernel
theorem dX12_comesTo_25 : decode cX12_comesTo 25 = .ok (.iadd, 1) := by decide +kernel
theorem dX12_comesTo_26 : decode cX12_comesTo 26 = .ok (.iaload, 1) := by decide +kernel
theorem dX12_comesTo_27 : decode cX12_comesTo 27 = .ok (.istore 6, 2) := by decide +kernel
theorem dX12_comesTo_29 : decode cX12_comesTo 29 = .ok (.aload_n 0, 1) := by decide +kernel
theorem dX12_comesTo_30 : decode cX12_comesTo 30 = .ok (.getfield 69, 3) := by decide +kernel
theorem dX12_comesTo_33 : decode cX12_comesTo 33 = .ok (.sipush 1220, 3) := by decide +kernel
theorem dX12_comesTo_36 : decode cX12_comesTo 36 = .ok (.iload_n 1, 1) := by decide +kernel
theorem dX12_comesTo_37 : decode cX12_comesTo 37 = .ok (.imul, 1) := by decide +kernel
theorem dX12_comesTo_38 : decode cX12_comesTo 38 = .ok (.iconst 2, 1) := by decide +kernel
theorem dX12_comesTo_39 : decode cX12_comesTo 39 = .ok (.iload 5, 2) := by decide +kernel
theorem dX12_comesTo_41 : decode cX12_comesTo 41 = .ok (.imul, 1) := by decide +kernel
theorem dX12_comesTo_42 : decode cX12_comesTo 42 = .ok (.iadd, 1) := by decide +kernel
theorem dX12_comesTo_43 : decode cX12_comesTo 43 = .ok (.iconst 1, 1) := by decide +kernel
theorem dX12_comesTo_44 : decode cX12_comesTo 44 = .ok (.iadd, 1) := by decide +kernel
theorem dX12_comesTo_45 : decode cX12_comesTo 45 = .ok (.iaload, 1) := by decide +kernel
theorem dX12_comesTo_46 : decode cX12_comesTo 46 = .ok (.istore 7, 2) := by decide +kernel
theorem dX12_comesTo_48 : decode cX12_comesTo 48 = .ok (.iload 6, 2) := by decide +kernel
theorem dX12_comesTo_50 : decode cX12_comesTo 50 = .ok (.bipush 10, 2) := by decide +kernel
theorem dX12_comesTo_52 : decode cX12_comesTo 52 = .ok (.if_icmp .ge 33, 3) := by decide +kernel
theorem dX12_comesTo_55 : decode cX12_comesTo 55 = .ok (.aload_n 0, 1) := by decide +kernel
theorem dX12_comesTo_56 : decode cX12_comesTo 56 = .ok (.getfield 84, 3) := by decide +kernel
theorem dX12_comesTo_59 : decode cX12_comesTo 59 = .ok (.iload 4, 2) := by decide +kernel
theorem dX12_comesTo_61 : decode cX12_comesTo 61 = .ok (.iload 6, 2) := by decide +kernel
theorem dX12_comesTo_63 : decode cX12_comesTo 63 = .ok (.ifCond .ne 8, 3) := by decide +kernel
theorem dX12_comesTo_66 : decode cX12_comesTo 66 = .ok (.iload 7, 2) := by decide +kernel
theorem dX12_comesTo_68 : decode cX12_comesTo 68 = .ok (.goto 10, 3) := by decide +kernel
theorem dX12_comesTo_71 : decode cX12_comesTo 71 = .ok (.aload_n 0, 1) := by decide +kernel
theorem dX12_comesTo_72 : decode cX12_comesTo 72 = .ok (.getfield 87, 3) := by decide +kernel
theorem dX12_comesTo_75 : decode cX12_comesTo 75 = .ok (.iload 6, 2) := by decide +kernel
theorem dX12_comesTo_77 : decode cX12_comesTo 77 = .ok (.iaload, 1) := by decide +kernel
theorem dX12_comesTo_78 : decode cX12_comesTo 78 = .ok (.iastore, 1) := by decide +kernel
theorem dX12_comesTo_79 : decode cX12_comesTo 79 = .ok (.iinc 4 1, 3) := by decide +kernel
theorem dX12_comesTo_82 : decode cX12_comesTo 82 = .ok (.goto 90, 3) := by decide +kernel
theorem dX12_comesTo_85 : decode cX12_comesTo 85 = .ok (.iload 6, 2) := by decide +kernel
theorem dX12_comesTo_87 : decode cX12_comesTo 87 = .ok (.bipush 13, 2) := by decide +kernel
theorem dX12_comesTo_89 : decode cX12_comesTo 89 = .ok (.if_icmp .ne 20, 3) := by decide +kernel
theorem dX12_comesTo_92 : decode cX12_comesTo 92 = .ok (.aload_n 0, 1) := by decide +kernel
theorem dX12_comesTo_93 : decode cX12_comesTo 93 = .ok (.getfield 84, 3) := by decide +kernel
theorem dX12_comesTo_96 : decode cX12_comesTo 96 = .ok (.iload 4, 2) := by decide +kernel
theorem dX12_comesTo_98 : decode cX12_comesTo 98 = .ok (.iconst 1, 1) := by decide +kernel
theorem dX12_comesTo_99 : decode cX12_comesTo 99 = .ok (.isub, 1) := by decide +kernel
theorem dX12_comesTo_100 : decode cX12_comesTo 100 = .ok (.dup2, 1) := by decide +kernel
theorem dX12_comesTo_101 : decode cX12_comesTo 101 = .ok (.iaload, 1) := by decide +kernel
theorem dX12_comesTo_102 : decode cX12_comesTo 102 = .ok (.iload 7, 2) := by decide +kernel
theorem dX12_comesTo_104 : decode cX12_comesTo 104 = .ok (.idiv, 1) := by decide +kernel
theorem dX12_comesTo_105 : decode cX12_comesTo 105 = .ok (.iastore, 1) := by decide +kernel
theorem dX12_comesTo_106 : decode cX12_comesTo 106 = .ok (.goto 66, 3) := by decide +kernel
theorem dX12_comesTo_109 : decode cX12_comesTo 109 = .ok (.iload 6, 2) := by decide +kernel
theorem dX12_comesTo_111 : decode cX12_comesTo 111 = .ok (.bipush 17, 2) := by decide +kernel
theorem dX12_comesTo_113 : decode cX12_comesTo 113 = .ok (.if_icmp .ne 26, 3) := by decide +kernel
theorem dX12_comesTo_116 : decode cX12_comesTo 116 = .ok (.aload_n 0, 1) := by decide +kernel
theorem dX12_comesTo_117 : decode cX12_comesTo 117 = .ok (.getfield 84, 3) := by decide +kernel
theorem dX12_comesTo_120 : decode cX12_comesTo 120 = .ok (.iload 4, 2) := by decide +kernel
theorem dX12_comesTo_122 : decode cX12_comesTo 122 = .ok (.iconst 1, 1) := by decide +kernel
theorem dX12_comesTo_123 : decode cX12_comesTo 123 = .ok (.isub, 1) := by decide +kernel
theorem dX12_comesTo_124 : decode cX12_comesTo 124 = .ok (.iconst 1, 1) := by decide +kernel
theorem dX12_comesTo_125 : decode cX12_comesTo 125 = .ok (.aload_n 0, 1) := by decide +kernel
theorem dX12_comesTo_126 : decode cX12_comesTo 126 = .ok (.getfield 84, 3) := by decide +kernel
theorem dX12_comesTo_129 : decode cX12_comesTo 129 = .ok (.iload 4, 2) := by decide +kernel
theorem dX12_comesTo_131 : decode cX12_comesTo 131 = .ok (.iconst 1, 1) := by decide +kernel
theorem dX12_comesTo_132 : decode cX12_comesTo 132 = .ok (.isub, 1) := by decide +kernel
theorem dX12_comesTo_133 : decode cX12_comesTo 133 = .ok (.iaload, 1) := by decide +kernel
theorem dX12_comesTo_134 : decode cX12_comesTo 134 = .ok (.isub, 1) := by decide +kernel
theorem dX12_comesTo_135 : decode cX12_comesTo 135 = .ok (.iastore, 1) := by decide +kernel
theorem dX12_comesTo_136 : decode cX12_comesTo 136 = .ok (.goto 36, 3) := by decide +kernel
theorem dX12_comesTo_139 : decode cX12_comesTo 139 = .ok (.iinc 4 (-1), 3) := by decide +kernel
theorem dX12_comesTo_142 : decode cX12_comesTo 142 = .ok (.aload_n 0, 1) := by decide +kernel
theorem dX12_comesTo_143 : decode cX12_comesTo 143 = .ok (.getfield 84, 3) := by decide +kernel
theorem dX12_comesTo_146 : decode cX12_comesTo 146 = .ok (.iload 4, 2) := by decide +kernel
theorem dX12_comesTo_148 : decode cX12_comesTo 148 = .ok (.iconst 1, 1) := by decide +kernel
theorem dX12_comesTo_149 : decode cX12_comesTo 149 = .ok (.isub, 1) := by decide +kernel
theorem dX12_comesTo_150 : decode cX12_comesTo 150 = .ok (.iload 6, 2) := by decide +kernel
theorem dX12_comesTo_152 : decode cX12_comesTo 152 = .ok (.aload_n 0, 1) := by decide +kernel
theorem dX12_comesTo_153 : decode cX12_comesTo 153 = .ok (.getfield 84, 3) := by decide +kernel
theorem dX12_comesTo_156 : decode cX12_comesTo 156 = .ok (.iload 4, 2) := by decide +kernel
theorem dX12_comesTo_158 : decode cX12_comesTo 158 = .ok (.iconst 1, 1) := by decide +kernel
theorem dX12_comesTo_159 : decode cX12_comesTo 159 = .ok (.isub, 1) := by decide +kernel
theorem dX12_comesTo_160 : decode cX12_comesTo 160 = .ok (.iaload, 1) := by decide +kernel
theorem dX12_comesTo_161 : decode cX12_comesTo 161 = .ok (.aload_n 0, 1) := by decide +kernel
theorem dX12_comesTo_162 : decode cX12_comesTo 162 = .ok (.getfield 84, 3) := by decide +kernel
theorem dX12_comesTo_165 : decode cX12_comesTo 165 = .ok (.iload 4, 2) := by decide +kernel
theorem dX12_comesTo_167 : decode cX12_comesTo 167 = .ok (.iaload, 1) := by decide +kernel
theorem dX12_comesTo_168 : decode cX12_comesTo 168 = .ok (.invokestatic 431, 3) := by decide +kernel
theorem dX12_comesTo_171 : decode cX12_comesTo 171 = .ok (.iastore, 1) := by decide +kernel
theorem dX12_comesTo_172 : decode cX12_comesTo 172 = .ok (.iinc 5 1, 3) := by decide +kernel
theorem dX12_comesTo_175 : decode cX12_comesTo 175 = .ok (.goto (-169), 3) := by decide +kernel
theorem dX12_comesTo_178 : decode cX12_comesTo 178 = .ok (.aload_n 0, 1) := by decide +kernel
theorem dX12_comesTo_179 : decode cX12_comesTo 179 = .ok (.getfield 84, 3) := by decide +kernel
theorem dX12_comesTo_182 : decode cX12_comesTo 182 = .ok (.iconst 0, 1) := by decide +kernel
theorem dX12_comesTo_183 : decode cX12_comesTo 183 = .ok (.iaload, 1) := by decide +kernel
theorem dX12_comesTo_184 : decode cX12_comesTo 184 = .ok (.ireturn, 1) := by decide +kernel
theorem dX12_saysOf_0 : decode cX12_saysOf 0 = .ok (.aload_n 0, 1) := by decide +kernel
theorem dX12_saysOf_1 : decode cX12_saysOf 1 = .ok (.getfield 87, 3) := by decide +kernel
theorem dX12_saysOf_4 : decode cX12_saysOf 4 = .ok (.iconst 1, 1) := by decide +kernel
theorem dX12_saysOf_5 : decode cX12_saysOf 5 = .ok (.aload_n 0, 1) := by decide +kernel
theorem dX12_saysOf_6 : decode cX12_saysOf 6 = .ok (.getfield 108, 3) := by decide +kernel
theorem dX12_saysOf_9 : decode cX12_saysOf 9 = .ok (.iload_n 2, 1) := by decide +kernel
theorem dX12_saysOf_10 : decode cX12_saysOf 10 = .ok (.iaload, 1) := by decide +kernel
theorem dX12_saysOf_11 : decode cX12_saysOf 11 = .ok (.iastore, 1) := by decide +kernel
theorem dX12_saysOf_12 : decode cX12_saysOf 12 = .ok (.aload_n 0, 1) := by decide +kernel
theorem dX12_saysOf_13 : decode cX12_saysOf 13 = .ok (.getfield 87, 3) := by decide +kernel
theorem dX12_saysOf_16 : decode cX12_saysOf 16 = .ok (.iconst 2, 1) := by decide +kernel
theorem dX12_saysOf_17 : decode cX12_saysOf 17 = .ok (.aload_n 0, 1) := by decide +kernel
theorem dX12_saysOf_18 : decode cX12_saysOf 18 = .ok (.getfield 96, 3) := by decide +kernel
theorem dX12_saysOf_21 : decode cX12_saysOf 21 = .ok (.iload_n 2, 1) := by decide +kernel
theorem dX12_saysOf_22 : decode cX12_saysOf 22 = .ok (.iaload, 1) := by decide +kernel
theorem dX12_saysOf_23 : decode cX12_saysOf 23 = .ok (.iconst 1, 1) := by decide +kernel
theorem dX12_saysOf_24 : decode cX12_saysOf 24 = .ok (.iadd, 1) := by decide +kernel
theorem dX12_saysOf_25 : decode cX12_saysOf 25 = .ok (.iastore, 1) := by decide +kernel
theorem dX12_saysOf_26 : decode cX12_saysOf 26 = .ok (.aload_n 0, 1) := by decide +kernel
theorem dX12_saysOf_27 : decode cX12_saysOf 27 = .ok (.getfield 87, 3) := by decide +kernel
theorem dX12_saysOf_30 : decode cX12_saysOf 30 = .ok (.iconst 3, 1) := by decide +kernel
theorem dX12_saysOf_31 : decode cX12_saysOf 31 = .ok (.aload_n 0, 1) := by decide +kernel
theorem dX12_saysOf_32 : decode cX12_saysOf 32 = .ok (.iload_n 2, 1) := by decide +kernel
theorem dX12_saysOf_33 : decode cX12_saysOf 33 = .ok (.invokevirtual 411, 3) := by decide +kernel
theorem dX12_saysOf_36 : decode cX12_saysOf 36 = .ok (.iastore, 1) := by decide +kernel
theorem dX12_saysOf_37 : decode cX12_saysOf 37 = .ok (.aload_n 0, 1) := by decide +kernel
theorem dX12_saysOf_38 : decode cX12_saysOf 38 = .ok (.getfield 87, 3) := by decide +kernel
theorem dX12_saysOf_41 : decode cX12_saysOf 41 = .ok (.iconst 4, 1) := by decide +kernel
theorem dX12_saysOf_42 : decode cX12_saysOf 42 = .ok (.aload_n 0, 1) := by decide +kernel
theorem dX12_saysOf_43 : decode cX12_saysOf 43 = .ok (.getfield 105, 3) := by decide +kernel
theorem dX12_saysOf_46 : decode cX12_saysOf 46 = .ok (.iload_n 2, 1) := by decide +kernel
theorem dX12_saysOf_47 : decode cX12_saysOf 47 = .ok (.iaload, 1) := by decide +kernel
theorem dX12_saysOf_48 : decode cX12_saysOf 48 = .ok (.iastore, 1) := by decide +kernel
theorem dX12_saysOf_49 : decode cX12_saysOf 49 = .ok (.aload_n 0, 1) := by decide +kernel
theorem dX12_saysOf_50 : decode cX12_saysOf 50 = .ok (.getfield 87, 3) := by decide +kernel
theorem dX12_saysOf_53 : decode cX12_saysOf 53 = .ok (.iconst 5, 1) := by decide +kernel
theorem dX12_saysOf_54 : decode cX12_saysOf 54 = .ok (.aload_n 0, 1) := by decide +kernel
theorem dX12_saysOf_55 : decode cX12_saysOf 55 = .ok (.getfield 99, 3) := by decide +kernel
theorem dX12_saysOf_58 : decode cX12_saysOf 58 = .ok (.iload_n 2, 1) := by decide +kernel
theorem dX12_saysOf_59 : decode cX12_saysOf 59 = .ok (.iaload, 1) := by decide +kernel
theorem dX12_saysOf_60 : decode cX12_saysOf 60 = .ok (.iconst (-1), 1) := by decide +kernel
theorem dX12_saysOf_61 : decode cX12_saysOf 61 = .ok (.if_icmp .ne 7, 3) := by decide +kernel
theorem dX12_saysOf_64 : decode cX12_saysOf 64 = .ok (.iconst 0, 1) := by decide +kernel
theorem dX12_saysOf_65 : decode cX12_saysOf 65 = .ok (.goto 4, 3) := by decide +kernel
theorem dX12_saysOf_68 : decode cX12_saysOf 68 = .ok (.iconst 1, 1) := by decide +kernel
theorem dX12_saysOf_69 : decode cX12_saysOf 69 = .ok (.aload_n 0, 1) := by decide +kernel
theorem dX12_saysOf_70 : decode cX12_saysOf 70 = .ok (.getfield 102, 3) := by decide +kernel
theorem dX12_saysOf_73 : decode cX12_saysOf 73 = .ok (.iload_n 2, 1) := by decide +kernel
theorem dX12_saysOf_74 : decode cX12_saysOf 74 = .ok (.iaload, 1) := by decide +kernel
theorem dX12_saysOf_75 : decode cX12_saysOf 75 = .ok (.iconst (-1), 1) := by decide +kernel
theorem dX12_saysOf_76 : decode cX12_saysOf 76 = .ok (.if_icmp .ne 7, 3) := by decide +kernel
theorem dX12_saysOf_79 : decode cX12_saysOf 79 = .ok (.iconst 0, 1) := by decide +kernel
theorem dX12_saysOf_80 : decode cX12_saysOf 80 = .ok (.goto 4, 3) := by decide +kernel
theorem dX12_saysOf_83 : decode cX12_saysOf 83 = .ok (.iconst 1, 1) := by decide +kernel
theorem dX12_saysOf_84 : decode cX12_saysOf 84 = .ok (.iadd, 1) := by decide +kernel
theorem dX12_saysOf_85 : decode cX12_saysOf 85 = .ok (.iastore, 1) := by decide +kernel
theorem dX12_saysOf_86 : decode cX12_saysOf 86 = .ok (.aload_n 0, 1) := by decide +kernel
theorem dX12_saysOf_87 : decode cX12_saysOf 87 = .ok (.getfield 87, 3) := by decide +kernel
theorem dX12_saysOf_90 : decode cX12_saysOf 90 = .ok (.bipush 6, 2) := by decide +kernel
theorem dX12_saysOf_92 : decode cX12_saysOf 92 = .ok (.aload_n 0, 1) := by decide +kernel
theorem dX12_saysOf_93 : decode cX12_saysOf 93 = .ok (.getfield 111, 3) := by decide +kernel
theorem dX12_saysOf_96 : decode cX12_saysOf 96 = .ok (.iload_n 2, 1) := by decide +kernel
theorem dX12_saysOf_97 : decode cX12_saysOf 97 = .ok (.iaload, 1) := by decide +kernel
theorem dX12_saysOf_98 : decode cX12_saysOf 98 = .ok (.iastore, 1) := by decide +kernel
theorem dX12_saysOf_99 : decode cX12_saysOf 99 = .ok (.aload_n 0, 1) := by decide +kernel
theorem dX12_saysOf_100 : decode cX12_saysOf 100 = .ok (.getfield 87, 3) := by decide +kernel
theorem dX12_saysOf_103 : decode cX12_saysOf 103 = .ok (.bipush 7, 2) := by decide +kernel
theorem dX12_saysOf_105 : decode cX12_saysOf 105 = .ok (.aload_n 0, 1) := by decide +kernel
theorem dX12_saysOf_106 : decode cX12_saysOf 106 = .ok (.getfield 93, 3) := by decide +kernel
theorem dX12_saysOf_109 : decode cX12_saysOf 109 = .ok (.iload_n 2, 1) := by decide +kernel
theorem dX12_saysOf_110 : decode cX12_saysOf 110 = .ok (.iaload, 1) := by decide +kernel
theorem dX12_saysOf_111 : decode cX12_saysOf 111 = .ok (.iastore, 1) := by decide +kernel
theorem dX12_saysOf_112 : decode cX12_saysOf 112 = .ok (.aload_n 0, 1) := by decide +kernel
theorem dX12_saysOf_113 : decode cX12_saysOf 113 = .ok (.getfield 87, 3) := by decide +kernel
theorem dX12_saysOf_116 : decode cX12_saysOf 116 = .ok (.bipush 8, 2) := by decide +kernel
theorem dX12_saysOf_118 : decode cX12_saysOf 118 = .ok (.iload_n 2, 1) := by decide +kernel
theorem dX12_saysOf_119 : decode cX12_saysOf 119 = .ok (.sipush 300, 3) := by decide +kernel
theorem dX12_saysOf_122 : decode cX12_saysOf 122 = .ok (.irem, 1) := by decide +kernel
theorem dX12_saysOf_123 : decode cX12_saysOf 123 = .ok (.iastore, 1) := by decide +kernel
theorem dX12_saysOf_124 : decode cX12_saysOf 124 = .ok (.aload_n 0, 1) := by decide +kernel
theorem dX12_saysOf_125 : decode cX12_saysOf 125 = .ok (.getfield 87, 3) := by decide +kernel
theorem dX12_saysOf_128 : decode cX12_saysOf 128 = .ok (.bipush 9, 2) := by decide +kernel
theorem dX12_saysOf_130 : decode cX12_saysOf 130 = .ok (.iload_n 3, 1) := by decide +kernel
theorem dX12_saysOf_131 : decode cX12_saysOf 131 = .ok (.iastore, 1) := by decide +kernel
theorem dX12_saysOf_132 : decode cX12_saysOf 132 = .ok (.iconst 0, 1) := by decide +kernel
theorem dX12_saysOf_133 : decode cX12_saysOf 133 = .ok (.istore 4, 2) := by decide +kernel
theorem dX12_saysOf_135 : decode cX12_saysOf 135 = .ok (.iload 4, 2) := by decide +kernel
theorem dX12_saysOf_137 : decode cX12_saysOf 137 = .ok (.aload_n 0, 1) := by decide +kernel
theorem dX12_saysOf_138 : decode cX12_saysOf 138 = .ok (.getfield 60, 3) := by decide +kernel
theorem dX12_saysOf_141 : decode cX12_saysOf 141 = .ok (.iload_n 1, 1) := by decide +kernel
theorem dX12_saysOf_142 : decode cX12_saysOf 142 = .ok (.iaload, 1) := by decide +kernel
theorem dX12_saysOf_143 : decode cX12_saysOf 143 = .ok (.if_icmp .ge 57, 3) := by decide +kernel
theorem dX12_saysOf_146 : decode cX12_saysOf 146 = .ok (.aload_n 0, 1) := by decide +kernel
theorem dX12_saysOf_147 : decode cX12_saysOf 147 = .ok (.iload_n 1, 1) := by decide +kernel
theorem dX12_saysOf_148 : decode cX12_saysOf 148 = .ok (.aload_n 0, 1) := by decide +kernel
theorem dX12_saysOf_149 : decode cX12_saysOf 149 = .ok (.getfield 66, 3) := by decide +kernel
theorem dX12_saysOf_152 : decode cX12_saysOf 152 = .ok (.bipush 13, 2) := by decide +kernel
theorem dX12_saysOf_154 : decode cX12_saysOf 154 = .ok (.iload_n 1, 1) := by decide +kernel
theorem dX12_saysOf_155 : decode cX12_saysOf 155 = .ok (.imul, 1) := by decide +kernel
theorem dX12_saysOf_156 : decode cX12_saysOf 156 = .ok (.iload 4, 2) := by decide +kernel
theorem dX12_saysOf_158 : decode cX12_saysOf 158 = .ok (.iadd, 1) := by decide +kernel
theorem dX12_saysOf_159 : decode cX12_saysOf 159 = .ok (.iaload, 1) := by decide +kernel
theorem dX12_saysOf_160 : decode cX12_saysOf 160 = .ok (.aload_n 0, 1) := by decide +kernel
theorem dX12_saysOf_161 : decode cX12_saysOf 161 = .ok (.getfield 66, 3) := by decide +kernel
theorem dX12_saysOf_164 : decode cX12_saysOf 164 = .ok (.bipush 13, 2) := by decide +kernel
theorem dX12_saysOf_166 : decode cX12_saysOf 166 = .ok (.iload_n 1, 1) := by decide +kernel
theorem dX12_saysOf_167 : decode cX12_saysOf 167 = .ok (.imul, 1) := by decide +kernel
theorem dX12_saysOf_168 : decode cX12_saysOf 168 = .ok (.iload 4, 2) := by decide +kernel
theorem dX12_saysOf_170 : decode cX12_saysOf 170 = .ok (.iadd, 1) := by decide +kernel
theorem dX12_saysOf_171 : decode cX12_saysOf 171 = .ok (.iconst 1, 1) := by decide +kernel
theorem dX12_saysOf_172 : decode cX12_saysOf 172 = .ok (.iadd, 1) := by decide +kernel
theorem dX12_saysOf_173 : decode cX12_saysOf 173 = .ok (.iaload, 1) := by decide +kernel
theorem dX12_saysOf_174 : decode cX12_saysOf 174 = .ok (.invokevirtual 434, 3) := by decide +kernel
theorem dX12_saysOf_177 : decode cX12_saysOf 177 = .ok (.iconst 1, 1) := by decide +kernel
theorem dX12_saysOf_178 : decode cX12_saysOf 178 = .ok (.if_icmp .ne 16, 3) := by decide +kernel
theorem dX12_saysOf_181 : decode cX12_saysOf 181 = .ok (.aload_n 0, 1) := by decide +kernel
theorem dX12_saysOf_182 : decode cX12_saysOf 182 = .ok (.getfield 63, 3) := by decide +kernel
theorem dX12_saysOf_185 : decode cX12_saysOf 185 = .ok (.bipush 12, 2) := by decide +kernel
theorem dX12_saysOf_187 : decode cX12_saysOf 187 = .ok (.iload_n 1, 1) := by decide +kernel
theorem dX12_saysOf_188 : decode cX12_saysOf 188 = .ok (.imul, 1) := by decide +kernel
theorem dX12_saysOf_189 : decode cX12_saysOf 189 = .ok (.iload 4, 2) := by decide +kernel
theorem dX12_saysOf_191 : decode cX12_saysOf 191 = .ok (.iadd, 1) := by decide +kernel
theorem dX12_saysOf_192 : decode cX12_saysOf 192 = .ok (.iaload, 1) := by decide +kernel
theorem dX12_saysOf_193 : decode cX12_saysOf 193 = .ok (.ireturn, 1) := by decide +kernel
theorem dX12_saysOf_194 : decode cX12_saysOf 194 = .ok (.iinc 4 1, 3) := by decide +kernel
theorem dX12_saysOf_197 : decode cX12_saysOf 197 = .ok (.goto (-62), 3) := by decide +kernel
theorem dX12_saysOf_200 : decode cX12_saysOf 200 = .ok (.iconst 0, 1) := by decide +kernel
theorem dX12_saysOf_201 : decode cX12_saysOf 201 = .ok (.ireturn, 1) := by decide +kernel
theorem dX12_isReader_0 : decode cX12_isReader 0 = .ok (.iload_n 0, 1) := by decide +kernel
theorem dX12_isReader_1 : decode cX12_isReader 1 = .ok (.iconst 0, 1) := by decide +kernel
theorem dX12_isReader_2 : decode cX12_isReader 2 = .ok (.iconst 3, 1) := by decide +kernel
theorem dX12_isReader_3 : decode cX12_isReader 3 = .ok (.invokestatic 9, 3) := by decide +kernel
theorem dX12_isReader_6 : decode cX12_isReader 6 = .ok (.ireturn, 1) := by decide +kernel
theorem dX12_says_0 : decode cX12_says 0 = .ok (.iload_n 1, 1) := by decide +kernel
theorem dX12_says_1 : decode cX12_says 1 = .ok (.invokestatic 437, 3) := by decide +kernel
theorem dX12_says_4 : decode cX12_says 4 = .ok (.ifCond .eq 36, 3) := by decide +kernel
theorem dX12_says_7 : decode cX12_says 7 = .ok (.iload_n 2, 1) := by decide +kernel
theorem dX12_says_8 : decode cX12_says 8 = .ok (.iload_n 3, 1) := by decide +kernel
theorem dX12_says_9 : decode cX12_says 9 = .ok (.invokestatic 370, 3) := by decide +kernel
theorem dX12_says_12 : decode cX12_says 12 = .ok (.ifCond .eq 28, 3) := by decide +kernel
theorem dX12_says_15 : decode cX12_says 15 = .ok (.aload_n 0, 1) := by decide +kernel
theorem dX12_says_16 : decode cX12_says 16 = .ok (.iload_n 1, 1) := by decide +kernel
theorem dX12_says_17 : decode cX12_says 17 = .ok (.sipush 300, 3) := by decide +kernel
theorem dX12_says_20 : decode cX12_says 20 = .ok (.iload_n 2, 1) := by decide +kernel
theorem dX12_says_21 : decode cX12_says 21 = .ok (.imul, 1) := by decide +kernel
theorem dX12_says_22 : decode cX12_says 22 = .ok (.iload_n 3, 1) := by decide +kernel
theorem dX12_says_23 : decode cX12_says 23 = .ok (.iadd, 1) := by decide +kernel
theorem dX12_says_24 : decode cX12_says 24 = .ok (.iload 4, 2) := by decide +kernel
theorem dX12_says_26 : decode cX12_says 26 = .ok (.ifCond .eq 7, 3) := by decide +kernel
theorem dX12_says_29 : decode cX12_says 29 = .ok (.iconst 1, 1) := by decide +kernel
theorem dX12_says_30 : decode cX12_says 30 = .ok (.goto 4, 3) := by decide +kernel
theorem dX12_says_33 : decode cX12_says 33 = .ok (.iconst 0, 1) := by decide +kernel
theorem dX12_says_34 : decode cX12_says 34 = .ok (.invokevirtual 440, 3) := by decide +kernel
theorem dX12_says_37 : decode cX12_says 37 = .ok (.goto 4, 3) := by decide +kernel
theorem dX12_says_40 : decode cX12_says 40 = .ok (.iconst (-1), 1) := by decide +kernel
theorem dX12_says_41 : decode cX12_says 41 = .ok (.ireturn, 1) := by decide +kernel
theorem dX12_truly_0 : decode cX12_truly 0 = .ok (.aload_n 0, 1) := by decide +kernel
theorem dX12_truly_1 : decode cX12_truly 1 = .ok (.getfield 120, 3) := by decide +kernel
theorem dX12_truly_4 : decode cX12_truly 4 = .ok (.iload_n 1, 1) := by decide +kernel
theorem dX12_truly_5 : decode cX12_truly 5 = .ok (.iaload, 1) := by decide +kernel
theorem dX12_truly_6 : decode cX12_truly 6 = .ok (.iconst 1, 1) := by decide +kernel
theorem dX12_truly_7 : decode cX12_truly 7 = .ok (.if_icmp .ne 7, 3) := by decide +kernel
theorem dX12_truly_10 : decode cX12_truly 10 = .ok (.iconst 2, 1) := by decide +kernel
theorem dX12_truly_11 : decode cX12_truly 11 = .ok (.goto 32, 3) := by decide +kernel
theorem dX12_truly_14 : decode cX12_truly 14 = .ok (.aload_n 0, 1) := by decide +kernel
theorem dX12_truly_15 : decode cX12_truly 15 = .ok (.getfield 117, 3) := by decide +kernel
theorem dX12_truly_18 : decode cX12_truly 18 = .ok (.iload_n 1, 1) := by decide +kernel
theorem dX12_truly_19 : decode cX12_truly 19 = .ok (.iaload, 1) := by decide +kernel
theorem dX12_truly_20 : decode cX12_truly 20 = .ok (.iconst 1, 1) := by decide +kernel
theorem dX12_truly_21 : decode cX12_truly 21 = .ok (.if_icmp .ne 7, 3) := by decide +kernel
theorem dX12_truly_24 : decode cX12_truly 24 = .ok (.iconst 1, 1) := by decide +kernel
theorem dX12_truly_25 : decode cX12_truly 25 = .ok (.goto 18, 3) := by decide +kernel
theorem dX12_truly_28 : decode cX12_truly 28 = .ok (.aload_n 0, 1) := by decide +kernel
theorem dX12_truly_29 : decode cX12_truly 29 = .ok (.getfield 117, 3) := by decide +kernel
theorem dX12_truly_32 : decode cX12_truly 32 = .ok (.iload_n 1, 1) := by decide +kernel
theorem dX12_truly_33 : decode cX12_truly 33 = .ok (.iaload, 1) := by decide +kernel
theorem dX12_truly_34 : decode cX12_truly 34 = .ok (.iconst 3, 1) := by decide +kernel
theorem dX12_truly_35 : decode cX12_truly 35 = .ok (.if_icmp .ne 7, 3) := by decide +kernel
theorem dX12_truly_38 : decode cX12_truly 38 = .ok (.iconst 3, 1) := by decide +kernel
theorem dX12_truly_39 : decode cX12_truly 39 = .ok (.goto 4, 3) := by decide +kernel
theorem dX12_truly_42 : decode cX12_truly 42 = .ok (.iconst 4, 1) := by decide +kernel
theorem dX12_truly_43 : decode cX12_truly 43 = .ok (.ireturn, 1) := by decide +kernel
theorem dX12_reader_0 : decode cX12_reader 0 = .ok (.iload_n 1, 1) := by decide +kernel
theorem dX12_reader_1 : decode cX12_reader 1 = .ok (.invokestatic 437, 3) := by decide +kernel
theorem dX12_reader_4 : decode cX12_reader 4 = .ok (.ifCond .eq 24, 3) := by decide +kernel
theorem dX12_reader_7 : decode cX12_reader 7 = .ok (.aload_n 0, 1) := by decide +kernel
theorem dX12_reader_8 : decode cX12_reader 8 = .ok (.iload_n 2, 1) := by decide +kernel
theorem dX12_reader_9 : decode cX12_reader 9 = .ok (.iload_n 3, 1) := by decide +kernel
theorem dX12_reader_10 : decode cX12_reader 10 = .ok (.iload 4, 2) := by decide +kernel
theorem dX12_reader_12 : decode cX12_reader 12 = .ok (.invokevirtual 379, 3) := by decide +kernel
theorem dX12_reader_15 : decode cX12_reader 15 = .ok (.ifCond .eq 13, 3) := by decide +kernel
theorem dX12_reader_18 : decode cX12_reader 18 = .ok (.iload 5, 2) := by decide +kernel
theorem dX12_reader_20 : decode cX12_reader 20 = .ok (.iconst 0, 1) := by decide +kernel
theorem dX12_reader_21 : decode cX12_reader 21 = .ok (.iconst 2, 1) := by decide +kernel
theorem dX12_reader_22 : decode cX12_reader 22 = .ok (.invokestatic 9, 3) := by decide +kernel
theorem dX12_reader_25 : decode cX12_reader 25 = .ok (.ifCond .ne 5, 3) := by decide +kernel
theorem dX12_reader_28 : decode cX12_reader 28 = .ok (.iconst (-1), 1) := by decide +kernel
theorem dX12_reader_29 : decode cX12_reader 29 = .ok (.ireturn, 1) := by decide +kernel
theorem dX12_reader_30 : decode cX12_reader 30 = .ok (.iconst 0, 1) := by decide +kernel
theorem dX12_reader_31 : decode cX12_reader 31 = .ok (.istore 6, 2) := by decide +kernel
theorem dX12_reader_33 : decode cX12_reader 33 = .ok (.aload_n 0, 1) := by decide +kernel
theorem dX12_reader_34 : decode cX12_reader 34 = .ok (.getfield 373, 3) := by decide +kernel
theorem dX12_reader_37 : decode cX12_reader 37 = .ok (.istore 7, 2) := by decide +kernel
theorem dX12_reader_39 : decode cX12_reader 39 = .ok (.iload 7, 2) := by decide +kernel
theorem dX12_reader_41 : decode cX12_reader 41 = .ok (.aload_n 0, 1) := by decide +kernel
theorem dX12_reader_42 : decode cX12_reader 42 = .ok (.getfield 376, 3) := by decide +kernel
theorem dX12_reader_45 : decode cX12_reader 45 = .ok (.if_icmp .gt 95, 3) := by decide +kernel
theorem dX12_reader_48 : decode cX12_reader 48 = .ok (.aload_n 0, 1) := by decide +kernel
theorem dX12_reader_49 : decode cX12_reader 49 = .ok (.getfield 114, 3) := by decide +kernel
theorem dX12_reader_52 : decode cX12_reader 52 = .ok (.iload 7, 2) := by decide +kernel
theorem dX12_reader_54 : decode cX12_reader 54 = .ok (.iaload, 1) := by decide +kernel
theorem dX12_reader_55 : decode cX12_reader 55 = .ok (.ifCond .ne 6, 3) := by decide +kernel
theorem dX12_reader_58 : decode cX12_reader 58 = .ok (.goto 76, 3) := by decide +kernel
theorem dX12_reader_61 : decode cX12_reader 61 = .ok (.iload 5, 2) := by decide +kernel
theorem dX12_reader_63 : decode cX12_reader 63 = .ok (.iconst 2, 1) := by decide +kernel
theorem dX12_reader_64 : decode cX12_reader 64 = .ok (.if_icmp .ne 30, 3) := by decide +kernel
theorem dX12_reader_67 : decode cX12_reader 67 = .ok (.aload_n 0, 1) := by decide +kernel
theorem dX12_reader_68 : decode cX12_reader 68 = .ok (.iload_n 1, 1) := by decide +kernel
theorem dX12_reader_69 : decode cX12_reader 69 = .ok (.iload 7, 2) := by decide +kernel
theorem dX12_reader_71 : decode cX12_reader 71 = .ok (.iconst 0, 1) := by decide +kernel
theorem dX12_reader_72 : decode cX12_reader 72 = .ok (.invokevirtual 440, 3) := by decide +kernel
theorem dX12_reader_75 : decode cX12_reader 75 = .ok (.aload_n 0, 1) := by decide +kernel
theorem dX12_reader_76 : decode cX12_reader 76 = .ok (.iload_n 1, 1) := by decide +kernel
theorem dX12_reader_77 : decode cX12_reader 77 = .ok (.iload 7, 2) := by decide +kernel
theorem dX12_reader_79 : decode cX12_reader 79 = .ok (.iconst 1, 1) := by decide +kernel
theorem dX12_reader_80 : decode cX12_reader 80 = .ok (.invokevirtual 440, 3) := by decide +kernel
theorem dX12_reader_83 : decode cX12_reader 83 = .ok (.if_icmp .eq 7, 3) := by decide +kernel
theorem dX12_reader_86 : decode cX12_reader 86 = .ok (.iconst 1, 1) := by decide +kernel
theorem dX12_reader_87 : decode cX12_reader 87 = .ok (.goto 30, 3) := by decide +kernel
theorem dX12_reader_90 : decode cX12_reader 90 = .ok (.iconst 0, 1) := by decide +kernel
theorem dX12_reader_91 : decode cX12_reader 91 = .ok (.goto 26, 3) := by decide +kernel
theorem dX12_reader_94 : decode cX12_reader 94 = .ok (.aload_n 0, 1) := by decide +kernel
theorem dX12_reader_95 : decode cX12_reader 95 = .ok (.iload_n 1, 1) := by decide +kernel
theorem dX12_reader_96 : decode cX12_reader 96 = .ok (.iload 7, 2) := by decide +kernel
theorem dX12_reader_98 : decode cX12_reader 98 = .ok (.iload 5, 2) := by decide +kernel
theorem dX12_reader_100 : decode cX12_reader 100 = .ok (.invokevirtual 440, 3) := by decide +kernel
theorem dX12_reader_103 : decode cX12_reader 103 = .ok (.aload_n 0, 1) := by decide +kernel
theorem dX12_reader_104 : decode cX12_reader 104 = .ok (.iload 7, 2) := by decide +kernel
theorem dX12_reader_106 : decode cX12_reader 106 = .ok (.invokevirtual 443, 3) := by decide +kernel
theorem dX12_reader_109 : decode cX12_reader 109 = .ok (.if_icmp .ne 7, 3) := by decide +kernel
theorem dX12_reader_112 : decode cX12_reader 112 = .ok (.iconst 1, 1) := by decide +kernel
theorem dX12_reader_113 : decode cX12_reader 113 = .ok (.goto 4, 3) := by decide +kernel
theorem dX12_reader_116 : decode cX12_reader 116 = .ok (.iconst 0, 1) := by decide +kernel
theorem dX12_reader_117 : decode cX12_reader 117 = .ok (.istore 8, 2) := by decide +kernel
theorem dX12_reader_119 : decode cX12_reader 119 = .ok (.iload 6, 2) := by decide +kernel
theorem dX12_reader_121 : decode cX12_reader 121 = .ok (.iload 8, 2) := by decide +kernel
theorem dX12_reader_123 : decode cX12_reader 123 = .ok (.ifCond .eq 7, 3) := by decide +kernel
theorem dX12_reader_126 : decode cX12_reader 126 = .ok (.iconst 1, 1) := by decide +kernel
theorem dX12_reader_127 : decode cX12_reader 127 = .ok (.goto 4, 3) := by decide +kernel
theorem dX12_reader_130 : decode cX12_reader 130 = .ok (.iconst 0, 1) := by decide +kernel
theorem dX12_reader_131 : decode cX12_reader 131 = .ok (.iadd, 1) := by decide +kernel
theorem dX12_reader_132 : decode cX12_reader 132 = .ok (.istore 6, 2) := by decide +kernel
theorem dX12_reader_134 : decode cX12_reader 134 = .ok (.iinc 7 1, 3) := by decide +kernel
theorem dX12_reader_137 : decode cX12_reader 137 = .ok (.goto (-98), 3) := by decide +kernel
theorem dX12_reader_140 : decode cX12_reader 140 = .ok (.iload 6, 2) := by decide +kernel
theorem dX12_reader_142 : decode cX12_reader 142 = .ok (.ireturn, 1) := by decide +kernel
theorem dX12_look_0 : decode cX12_look 0 = .ok (.iconst 0, 1) := by decide +kernel
theorem dX12_look_1 : decode cX12_look 1 = .ok (.istore_n 2, 1) := by decide +kernel
theorem dX12_look_2 : decode cX12_look 2 = .ok (.iload_n 1, 1) := by decide +kernel
theorem dX12_look_3 : decode cX12_look 3 = .ok (.tableswitch 128 0 5 #[37, 42, 48, 54, 59, 93], 37) := by decide +kernel
theorem dX12_look_40 : decode cX12_look 40 = .ok (.aload_n 0, 1) := by decide +kernel
theorem dX12_look_41 : decode cX12_look 41 = .ok (.getfield 13, 3) := by decide +kernel
theorem dX12_look_44 : decode cX12_look 44 = .ok (.ireturn, 1) := by decide +kernel
theorem dX12_look_45 : decode cX12_look 45 = .ok (.aload_n 0, 1) := by decide +kernel
theorem dX12_look_46 : decode cX12_look 46 = .ok (.iconst 0, 1) := by decide +kernel
theorem dX12_look_47 : decode cX12_look 47 = .ok (.invokevirtual 367, 3) := by decide +kernel
theorem dX12_look_50 : decode cX12_look 50 = .ok (.ireturn, 1) := by decide +kernel
theorem dX12_look_51 : decode cX12_look 51 = .ok (.aload_n 0, 1) := by decide +kernel
theorem dX12_look_52 : decode cX12_look 52 = .ok (.iconst 1, 1) := by decide +kernel
theorem dX12_look_53 : decode cX12_look 53 = .ok (.invokevirtual 367, 3) := by decide +kernel
theorem dX12_look_56 : decode cX12_look 56 = .ok (.ireturn, 1) := by decide +kernel
theorem dX12_look_57 : decode cX12_look 57 = .ok (.aload_n 0, 1) := by decide +kernel
theorem dX12_look_58 : decode cX12_look 58 = .ok (.getfield 123, 3) := by decide +kernel
theorem dX12_look_61 : decode cX12_look 61 = .ok (.ireturn, 1) := by decide +kernel
theorem dX12_look_62 : decode cX12_look 62 = .ok (.iconst 0, 1) := by decide +kernel
theorem dX12_look_63 : decode cX12_look 63 = .ok (.istore_n 3, 1) := by decide +kernel
theorem dX12_look_64 : decode cX12_look 64 = .ok (.iload_n 3, 1) := by decide +kernel
theorem dX12_look_65 : decode cX12_look 65 = .ok (.sipush 600, 3) := by decide +kernel
theorem dX12_look_68 : decode cX12_look 68 = .ok (.if_icmp .ge 26, 3) := by decide +kernel
theorem dX12_look_71 : decode cX12_look 71 = .ok (.iload_n 2, 1) := by decide +kernel
theorem dX12_look_72 : decode cX12_look 72 = .ok (.aload_n 0, 1) := by decide +kernel
theorem dX12_look_73 : decode cX12_look 73 = .ok (.getfield 111, 3) := by decide +kernel
theorem dX12_look_76 : decode cX12_look 76 = .ok (.iload_n 3, 1) := by decide +kernel
theorem dX12_look_77 : decode cX12_look 77 = .ok (.iaload, 1) := by decide +kernel
theorem dX12_look_78 : decode cX12_look 78 = .ok (.ifCond .le 7, 3) := by decide +kernel
theorem dX12_look_81 : decode cX12_look 81 = .ok (.iconst 1, 1) := by decide +kernel
theorem dX12_look_82 : decode cX12_look 82 = .ok (.goto 4, 3) := by decide +kernel
theorem dX12_look_85 : decode cX12_look 85 = .ok (.iconst 0, 1) := by decide +kernel
theorem dX12_look_86 : decode cX12_look 86 = .ok (.iadd, 1) := by decide +kernel
theorem dX12_look_87 : decode cX12_look 87 = .ok (.istore_n 2, 1) := by decide +kernel
theorem dX12_look_88 : decode cX12_look 88 = .ok (.iinc 3 1, 3) := by decide +kernel
theorem dX12_look_91 : decode cX12_look 91 = .ok (.goto (-27), 3) := by decide +kernel
theorem dX12_look_94 : decode cX12_look 94 = .ok (.iload_n 2, 1) := by decide +kernel
theorem dX12_look_95 : decode cX12_look 95 = .ok (.ireturn, 1) := by decide +kernel
theorem dX12_look_96 : decode cX12_look 96 = .ok (.iconst 0, 1) := by decide +kernel
theorem dX12_look_97 : decode cX12_look 97 = .ok (.istore_n 3, 1) := by decide +kernel
theorem dX12_look_98 : decode cX12_look 98 = .ok (.iload_n 3, 1) := by decide +kernel
theorem dX12_look_99 : decode cX12_look 99 = .ok (.sipush 600, 3) := by decide +kernel
theorem dX12_look_102 : decode cX12_look 102 = .ok (.if_icmp .ge 27, 3) := by decide +kernel
theorem dX12_look_105 : decode cX12_look 105 = .ok (.iload_n 2, 1) := by decide +kernel
theorem dX12_look_106 : decode cX12_look 106 = .ok (.aload_n 0, 1) := by decide +kernel
theorem dX12_look_107 : decode cX12_look 107 = .ok (.getfield 117, 3) := by decide +kernel
theorem dX12_look_110 : decode cX12_look 110 = .ok (.iload_n 3, 1) := by decide +kernel
theorem dX12_look_111 : decode cX12_look 111 = .ok (.iaload, 1) := by decide +kernel
theorem dX12_look_112 : decode cX12_look 112 = .ok (.iconst 3, 1) := by decide +kernel
theorem dX12_look_113 : decode cX12_look 113 = .ok (.if_icmp .ne 7, 3) := by decide +kernel
theorem dX12_look_116 : decode cX12_look 116 = .ok (.iconst 1, 1) := by decide +kernel
theorem dX12_look_117 : decode cX12_look 117 = .ok (.goto 4, 3) := by decide +kernel
theorem dX12_look_120 : decode cX12_look 120 = .ok (.iconst 0, 1) := by decide +kernel
theorem dX12_look_121 : decode cX12_look 121 = .ok (.iadd, 1) := by decide +kernel
theorem dX12_look_122 : decode cX12_look 122 = .ok (.istore_n 2, 1) := by decide +kernel
theorem dX12_look_123 : decode cX12_look 123 = .ok (.iinc 3 1, 3) := by decide +kernel
theorem dX12_look_126 : decode cX12_look 126 = .ok (.goto (-28), 3) := by decide +kernel
theorem dX12_look_129 : decode cX12_look 129 = .ok (.iload_n 2, 1) := by decide +kernel
theorem dX12_look_130 : decode cX12_look 130 = .ok (.ireturn, 1) := by decide +kernel
theorem dX12_look_131 : decode cX12_look 131 = .ok (.iconst (-1), 1) := by decide +kernel
theorem dX12_look_132 : decode cX12_look 132 = .ok (.ireturn, 1) := by decide +kernel
