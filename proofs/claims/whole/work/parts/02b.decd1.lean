theorem dX12_begins_20 : decode cX12_begins 20 = .ok (.if_icmp .ge 43, 3) := by decide +kernel
theorem dX12_begins_23 : decode cX12_begins 23 = .ok (.aload_n 0, 1) := by decide +kernel
theorem dX12_begins_24 : decode cX12_begins 24 = .ok (.getfield 33, 3) := by decide +kernel
theorem dX12_begins_27 : decode cX12_begins 27 = .ok (.iload_n 1, 1) := by decide +kernel
theorem dX12_begins_28 : decode cX12_begins 28 = .ok (.iload_n 1, 1) := by decide +kernel
theorem dX12_begins_29 : decode cX12_begins 29 = .ok (.iconst 4, 1) := by decide +kernel
theorem dX12_begins_30 : decode cX12_begins 30 = .ok (.if_icmp .ne 7, 3) := by decide +kernel
theorem dX12_begins_33 : decode cX12_begins 33 = .ok (.iconst 5, 1) := by decide +kernel
theorem dX12_begins_34 : decode cX12_begins 34 = .ok (.goto 15, 3) := by decide +kernel
theorem dX12_begins_37 : decode cX12_begins 37 = .ok (.iload_n 1, 1) := by decide +kernel
theorem dX12_begins_38 : decode cX12_begins 38 = .ok (.bipush 7, 2) := by decide +kernel
theorem dX12_begins_40 : decode cX12_begins 40 = .ok (.if_icmp .ne 8, 3) := by decide +kernel
theorem dX12_begins_43 : decode cX12_begins 43 = .ok (.bipush 100, 2) := by decide +kernel
theorem dX12_begins_45 : decode cX12_begins 45 = .ok (.goto 4, 3) := by decide +kernel
theorem dX12_begins_48 : decode cX12_begins 48 = .ok (.iconst 0, 1) := by decide +kernel
theorem dX12_begins_49 : decode cX12_begins 49 = .ok (.iastore, 1) := by decide +kernel
theorem dX12_begins_50 : decode cX12_begins 50 = .ok (.aload_n 0, 1) := by decide +kernel
theorem dX12_begins_51 : decode cX12_begins 51 = .ok (.getfield 36, 3) := by decide +kernel
theorem dX12_begins_54 : decode cX12_begins 54 = .ok (.iload_n 1, 1) := by decide +kernel
theorem dX12_begins_55 : decode cX12_begins 55 = .ok (.iconst 0, 1) := by decide +kernel
theorem dX12_begins_56 : decode cX12_begins 56 = .ok (.iastore, 1) := by decide +kernel
theorem dX12_begins_57 : decode cX12_begins 57 = .ok (.iinc 1 1, 3) := by decide +kernel
theorem dX12_begins_60 : decode cX12_begins 60 = .ok (.goto (-43), 3) := by decide +kernel
theorem dX12_begins_63 : decode cX12_begins 63 = .ok (.aload_n 0, 1) := by decide +kernel
theorem dX12_begins_64 : decode cX12_begins 64 = .ok (.getfield 75, 3) := by decide +kernel
theorem dX12_begins_67 : decode cX12_begins 67 = .ok (.iconst 0, 1) := by decide +kernel
theorem dX12_begins_68 : decode cX12_begins 68 = .ok (.iconst 0, 1) := by decide +kernel
theorem dX12_begins_69 : decode cX12_begins 69 = .ok (.iastore, 1) := by decide +kernel
theorem dX12_begins_70 : decode cX12_begins 70 = .ok (.aload_n 0, 1) := by decide +kernel
theorem dX12_begins_71 : decode cX12_begins 71 = .ok (.invokevirtual 261, 3) := by decide +kernel
theorem dX12_begins_74 : decode cX12_begins 74 = .ok (.return_, 1) := by decide +kernel
theorem dX12_text_0 : decode cX12_text 0 = .ok (.aload_n 0, 1) := by decide +kernel
theorem dX12_text_1 : decode cX12_text 1 = .ok (.iconst 0, 1) := by decide +kernel
theorem dX12_text_2 : decode cX12_text 2 = .ok (.putfield 252, 3) := by decide +kernel
theorem dX12_text_5 : decode cX12_text 5 = .ok (.iload_n 1, 1) := by decide +kernel
theorem dX12_text_6 : decode cX12_text 6 = .ok (.iconst 0, 1) := by decide +kernel
theorem dX12_text_7 : decode cX12_text 7 = .ok (.iconst 2, 1) := by decide +kernel
theorem dX12_text_8 : decode cX12_text 8 = .ok (.invokestatic 9, 3) := by decide +kernel
theorem dX12_text_11 : decode cX12_text 11 = .ok (.ifCond .eq 21, 3) := by decide +kernel
theorem dX12_text_14 : decode cX12_text 14 = .ok (.iload_n 2, 1) := by decide +kernel
theorem dX12_text_15 : decode cX12_text 15 = .ok (.iconst 0, 1) := by decide +kernel
theorem dX12_text_16 : decode cX12_text 16 = .ok (.iload_n 1, 1) := by decide +kernel
theorem dX12_text_17 : decode cX12_text 17 = .ok (.iconst 2, 1) := by decide +kernel
theorem dX12_text_18 : decode cX12_text 18 = .ok (.if_icmp .ne 7, 3) := by decide +kernel
theorem dX12_text_21 : decode cX12_text 21 = .ok (.iconst 3, 1) := by decide +kernel
theorem dX12_text_22 : decode cX12_text 22 = .ok (.goto 4, 3) := by decide +kernel
theorem dX12_text_25 : decode cX12_text 25 = .ok (.iconst 5, 1) := by decide +kernel
theorem dX12_text_26 : decode cX12_text 26 = .ok (.invokestatic 9, 3) := by decide +kernel
theorem dX12_text_29 : decode cX12_text 29 = .ok (.ifCond .ne 20, 3) := by decide +kernel
theorem dX12_text_32 : decode cX12_text 32 = .ok (.aload_n 0, 1) := by decide +kernel
theorem dX12_text_33 : decode cX12_text 33 = .ok (.iconst 0, 1) := by decide +kernel
theorem dX12_text_34 : decode cX12_text 34 = .ok (.putfield 142, 3) := by decide +kernel
theorem dX12_text_37 : decode cX12_text 37 = .ok (.aload_n 0, 1) := by decide +kernel
theorem dX12_text_38 : decode cX12_text 38 = .ok (.iconst 0, 1) := by decide +kernel
theorem dX12_text_39 : decode cX12_text 39 = .ok (.putfield 309, 3) := by decide +kernel
theorem dX12_text_42 : decode cX12_text 42 = .ok (.aload_n 0, 1) := by decide +kernel
theorem dX12_text_43 : decode cX12_text 43 = .ok (.iconst (-1), 1) := by decide +kernel
theorem dX12_text_44 : decode cX12_text 44 = .ok (.putfield 90, 3) := by decide +kernel
theorem dX12_text_47 : decode cX12_text 47 = .ok (.iconst (-1), 1) := by decide +kernel
theorem dX12_text_48 : decode cX12_text 48 = .ok (.ireturn, 1) := by decide +kernel
theorem dX12_text_49 : decode cX12_text 49 = .ok (.aload_n 0, 1) := by decide +kernel
theorem dX12_text_50 : decode cX12_text 50 = .ok (.iload_n 1, 1) := by decide +kernel
theorem dX12_text_51 : decode cX12_text 51 = .ok (.putfield 221, 3) := by decide +kernel
theorem dX12_text_54 : decode cX12_text 54 = .ok (.aload_n 0, 1) := by decide +kernel
theorem dX12_text_55 : decode cX12_text 55 = .ok (.invokevirtual 312, 3) := by decide +kernel
theorem dX12_text_58 : decode cX12_text 58 = .ok (.iconst 1, 1) := by decide +kernel
theorem dX12_text_59 : decode cX12_text 59 = .ok (.istore_n 3, 1) := by decide +kernel
theorem dX12_text_60 : decode cX12_text 60 = .ok (.iload_n 3, 1) := by decide +kernel
theorem dX12_text_61 : decode cX12_text 61 = .ok (.ifCond .eq 59, 3) := by decide +kernel
theorem dX12_text_64 : decode cX12_text 64 = .ok (.aload_n 0, 1) := by decide +kernel
theorem dX12_text_65 : decode cX12_text 65 = .ok (.getfield 227, 3) := by decide +kernel
theorem dX12_text_68 : decode cX12_text 68 = .ok (.ifCond .eq 52, 3) := by decide +kernel
theorem dX12_text_71 : decode cX12_text 71 = .ok (.iload_n 1, 1) := by decide +kernel
theorem dX12_text_72 : decode cX12_text 72 = .ok (.ifCond .ne 10, 3) := by decide +kernel
theorem dX12_text_75 : decode cX12_text 75 = .ok (.aload_n 0, 1) := by decide +kernel
theorem dX12_text_76 : decode cX12_text 76 = .ok (.invokevirtual 315, 3) := by decide +kernel
theorem dX12_text_79 : decode cX12_text 79 = .ok (.goto 19, 3) := by decide +kernel
theorem dX12_text_82 : decode cX12_text 82 = .ok (.iload_n 1, 1) := by decide +kernel
theorem dX12_text_83 : decode cX12_text 83 = .ok (.iconst 1, 1) := by decide +kernel
theorem dX12_text_84 : decode cX12_text 84 = .ok (.if_icmp .ne 10, 3) := by decide +kernel
theorem dX12_text_87 : decode cX12_text 87 = .ok (.aload_n 0, 1) := by decide +kernel
theorem dX12_text_88 : decode cX12_text 88 = .ok (.invokevirtual 318, 3) := by decide +kernel
theorem dX12_text_91 : decode cX12_text 91 = .ok (.goto 7, 3) := by decide +kernel
theorem dX12_text_94 : decode cX12_text 94 = .ok (.aload_n 0, 1) := by decide +kernel
theorem dX12_text_95 : decode cX12_text 95 = .ok (.invokevirtual 321, 3) := by decide +kernel
theorem dX12_text_98 : decode cX12_text 98 = .ok (.istore_n 3, 1) := by decide +kernel
theorem dX12_text_99 : decode cX12_text 99 = .ok (.aload_n 0, 1) := by decide +kernel
theorem dX12_text_100 : decode cX12_text 100 = .ok (.dup, 1) := by decide +kernel
theorem dX12_text_101 : decode cX12_text 101 = .ok (.getfield 271, 3) := by decide +kernel
theorem dX12_text_104 : decode cX12_text 104 = .ok (.iload_n 3, 1) := by decide +kernel
theorem dX12_text_105 : decode cX12_text 105 = .ok (.ifCond .eq 7, 3) := by decide +kernel
theorem dX12_text_108 : decode cX12_text 108 = .ok (.iconst 1, 1) := by decide +kernel
theorem dX12_text_109 : decode cX12_text 109 = .ok (.goto 4, 3) := by decide +kernel
theorem dX12_text_112 : decode cX12_text 112 = .ok (.iconst 0, 1) := by decide +kernel
theorem dX12_text_113 : decode cX12_text 113 = .ok (.iadd, 1) := by decide +kernel
theorem dX12_text_114 : decode cX12_text 114 = .ok (.putfield 271, 3) := by decide +kernel
theorem dX12_text_117 : decode cX12_text 117 = .ok (.goto (-57), 3) := by decide +kernel
theorem dX12_text_120 : decode cX12_text 120 = .ok (.aload_n 0, 1) := by decide +kernel
theorem dX12_text_121 : decode cX12_text 121 = .ok (.iconst 0, 1) := by decide +kernel
theorem dX12_text_122 : decode cX12_text 122 = .ok (.putfield 142, 3) := by decide +kernel
theorem dX12_text_125 : decode cX12_text 125 = .ok (.aload_n 0, 1) := by decide +kernel
theorem dX12_text_126 : decode cX12_text 126 = .ok (.aload_n 0, 1) := by decide +kernel
theorem dX12_text_127 : decode cX12_text 127 = .ok (.getfield 252, 3) := by decide +kernel
theorem dX12_text_130 : decode cX12_text 130 = .ok (.putfield 309, 3) := by decide +kernel
theorem dX12_text_133 : decode cX12_text 133 = .ok (.aload_n 0, 1) := by decide +kernel
theorem dX12_text_134 : decode cX12_text 134 = .ok (.iload_n 3, 1) := by decide +kernel
theorem dX12_text_135 : decode cX12_text 135 = .ok (.ifCond .eq 7, 3) := by decide +kernel
theorem dX12_text_138 : decode cX12_text 138 = .ok (.iconst (-1), 1) := by decide +kernel
theorem dX12_text_139 : decode cX12_text 139 = .ok (.goto 7, 3) := by decide +kernel
theorem dX12_text_142 : decode cX12_text 142 = .ok (.aload_n 0, 1) := by decide +kernel
theorem dX12_text_143 : decode cX12_text 143 = .ok (.getfield 255, 3) := by decide +kernel
theorem dX12_text_146 : decode cX12_text 146 = .ok (.putfield 90, 3) := by decide +kernel
theorem dX12_text_149 : decode cX12_text 149 = .ok (.iload_n 3, 1) := by decide +kernel
theorem dX12_text_150 : decode cX12_text 150 = .ok (.ifCond .ne 5, 3) := by decide +kernel
theorem dX12_text_153 : decode cX12_text 153 = .ok (.iconst (-1), 1) := by decide +kernel
theorem dX12_text_154 : decode cX12_text 154 = .ok (.ireturn, 1) := by decide +kernel
theorem dX12_text_155 : decode cX12_text 155 = .ok (.aload_n 0, 1) := by decide +kernel
theorem dX12_text_156 : decode cX12_text 156 = .ok (.iload_n 2, 1) := by decide +kernel
theorem dX12_text_157 : decode cX12_text 157 = .ok (.invokevirtual 324, 3) := by decide +kernel
theorem dX12_text_160 : decode cX12_text 160 = .ok (.aload_n 0, 1) := by decide +kernel
theorem dX12_text_161 : decode cX12_text 161 = .ok (.getfield 271, 3) := by decide +kernel
theorem dX12_text_164 : decode cX12_text 164 = .ok (.ireturn, 1) := by decide +kernel
theorem dX12_keeps_0 : decode cX12_keeps 0 = .ok (.aload_n 0, 1) := by decide +kernel
theorem dX12_keeps_1 : decode cX12_keeps 1 = .ok (.getfield 221, 3) := by decide +kernel
theorem dX12_keeps_4 : decode cX12_keeps 4 = .ok (.ifCond .ne 37, 3) := by decide +kernel
theorem dX12_keeps_7 : decode cX12_keeps 7 = .ok (.iconst 0, 1) := by decide +kernel
theorem dX12_keeps_8 : decode cX12_keeps 8 = .ok (.istore_n 2, 1) := by decide +kernel
theorem dX12_keeps_9 : decode cX12_keeps 9 = .ok (.iload_n 2, 1) := by decide +kernel
theorem dX12_keeps_10 : decode cX12_keeps 10 = .ok (.bipush 8, 2) := by decide +kernel
theorem dX12_keeps_12 : decode cX12_keeps 12 = .ok (.if_icmp .ge 26, 3) := by decide +kernel
theorem dX12_keeps_15 : decode cX12_keeps 15 = .ok (.aload_n 0, 1) := by decide +kernel
theorem dX12_keeps_16 : decode cX12_keeps 16 = .ok (.getfield 30, 3) := by decide +kernel
theorem dX12_keeps_19 : decode cX12_keeps 19 = .ok (.bipush 8, 2) := by decide +kernel
theorem dX12_keeps_21 : decode cX12_keeps 21 = .ok (.iload_n 1, 1) := by decide +kernel
theorem dX12_keeps_22 : decode cX12_keeps 22 = .ok (.imul, 1) := by decide +kernel
theorem dX12_keeps_23 : decode cX12_keeps 23 = .ok (.iload_n 2, 1) := by decide +kernel
theorem dX12_keeps_24 : decode cX12_keeps 24 = .ok (.iadd, 1) := by decide +kernel
theorem dX12_keeps_25 : decode cX12_keeps 25 = .ok (.aload_n 0, 1) := by decide +kernel
theorem dX12_keeps_26 : decode cX12_keeps 26 = .ok (.getfield 33, 3) := by decide +kernel
theorem dX12_keeps_29 : decode cX12_keeps 29 = .ok (.iload_n 2, 1) := by decide +kernel
theorem dX12_keeps_30 : decode cX12_keeps 30 = .ok (.iaload, 1) := by decide +kernel
theorem dX12_keeps_31 : decode cX12_keeps 31 = .ok (.iastore, 1) := by decide +kernel
theorem dX12_keeps_32 : decode cX12_keeps 32 = .ok (.iinc 2 1, 3) := by decide +kernel
theorem dX12_keeps_35 : decode cX12_keeps 35 = .ok (.goto (-26), 3) := by decide +kernel
theorem dX12_keeps_38 : decode cX12_keeps 38 = .ok (.goto 203, 3) := by decide +kernel
theorem dX12_keeps_41 : decode cX12_keeps 41 = .ok (.aload_n 0, 1) := by decide +kernel
theorem dX12_keeps_42 : decode cX12_keeps 42 = .ok (.getfield 221, 3) := by decide +kernel
theorem dX12_keeps_45 : decode cX12_keeps 45 = .ok (.iconst 1, 1) := by decide +kernel
theorem dX12_keeps_46 : decode cX12_keeps 46 = .ok (.if_icmp .ne 83, 3) := by decide +kernel
theorem dX12_keeps_49 : decode cX12_keeps 49 = .ok (.aload_n 0, 1) := by decide +kernel
theorem dX12_keeps_50 : decode cX12_keeps 50 = .ok (.getfield 48, 3) := by decide +kernel
theorem dX12_keeps_53 : decode cX12_keeps 53 = .ok (.iload_n 1, 1) := by decide +kernel
theorem dX12_keeps_54 : decode cX12_keeps 54 = .ok (.aload_n 0, 1) := by decide +kernel
theorem dX12_keeps_55 : decode cX12_keeps 55 = .ok (.getfield 271, 3) := by decide +kernel
theorem dX12_keeps_58 : decode cX12_keeps 58 = .ok (.iastore, 1) := by decide +kernel
theorem dX12_keeps_59 : decode cX12_keeps 59 = .ok (.iconst 0, 1) := by decide +kernel
theorem dX12_keeps_60 : decode cX12_keeps 60 = .ok (.istore_n 2, 1) := by decide +kernel
theorem dX12_keeps_61 : decode cX12_keeps 61 = .ok (.iload_n 2, 1) := by decide +kernel
theorem dX12_keeps_62 : decode cX12_keeps 62 = .ok (.aload_n 0, 1) := by decide +kernel
theorem dX12_keeps_63 : decode cX12_keeps 63 = .ok (.getfield 271, 3) := by decide +kernel
theorem dX12_keeps_66 : decode cX12_keeps 66 = .ok (.if_icmp .ge 60, 3) := by decide +kernel
theorem dX12_keeps_69 : decode cX12_keeps 69 = .ok (.aload_n 0, 1) := by decide +kernel
theorem dX12_keeps_70 : decode cX12_keeps 70 = .ok (.getfield 39, 3) := by decide +kernel
theorem dX12_keeps_73 : decode cX12_keeps 73 = .ok (.bipush 40, 2) := by decide +kernel
theorem dX12_keeps_75 : decode cX12_keeps 75 = .ok (.iload_n 1, 1) := by decide +kernel
theorem dX12_keeps_76 : decode cX12_keeps 76 = .ok (.imul, 1) := by decide +kernel
theorem dX12_keeps_77 : decode cX12_keeps 77 = .ok (.iload_n 2, 1) := by decide +kernel
theorem dX12_keeps_78 : decode cX12_keeps 78 = .ok (.iadd, 1) := by decide +kernel
theorem dX12_keeps_79 : decode cX12_keeps 79 = .ok (.aload_n 0, 1) := by decide +kernel
theorem dX12_keeps_80 : decode cX12_keeps 80 = .ok (.getfield 51, 3) := by decide +kernel
theorem dX12_keeps_83 : decode cX12_keeps 83 = .ok (.iload_n 2, 1) := by decide +kernel
theorem dX12_keeps_84 : decode cX12_keeps 84 = .ok (.iaload, 1) := by decide +kernel
theorem dX12_keeps_85 : decode cX12_keeps 85 = .ok (.iastore, 1) := by decide +kernel
theorem dX12_keeps_86 : decode cX12_keeps 86 = .ok (.aload_n 0, 1) := by decide +kernel
theorem dX12_keeps_87 : decode cX12_keeps 87 = .ok (.getfield 42, 3) := by decide +kernel
theorem dX12_keeps_90 : decode cX12_keeps 90 = .ok (.bipush 40, 2) := by decide +kernel
theorem dX12_keeps_92 : decode cX12_keeps 92 = .ok (.iload_n 1, 1) := by decide +kernel
theorem dX12_keeps_93 : decode cX12_keeps 93 = .ok (.imul, 1) := by decide +kernel
theorem dX12_keeps_94 : decode cX12_keeps 94 = .ok (.iload_n 2, 1) := by decide +kernel
theorem dX12_keeps_95 : decode cX12_keeps 95 = .ok (.iadd, 1) := by decide +kernel
theorem dX12_keeps_96 : decode cX12_keeps 96 = .ok (.aload_n 0, 1) := by decide +kernel
theorem dX12_keeps_97 : decode cX12_keeps 97 = .ok (.getfield 54, 3) := by decide +kernel
theorem dX12_keeps_100 : decode cX12_keeps 100 = .ok (.iload_n 2, 1) := by decide +kernel
theorem dX12_keeps_101 : decode cX12_keeps 101 = .ok (.iaload, 1) := by decide +kernel
theorem dX12_keeps_102 : decode cX12_keeps 102 = .ok (.iastore, 1) := by decide +kernel
theorem dX12_keeps_103 : decode cX12_keeps 103 = .ok (.aload_n 0, 1) := by decide +kernel
theorem dX12_keeps_104 : decode cX12_keeps 104 = .ok (.getfield 45, 3) := by decide +kernel
theorem dX12_keeps_107 : decode cX12_keeps 107 = .ok (.bipush 40, 2) := by decide +kernel
theorem dX12_keeps_109 : decode cX12_keeps 109 = .ok (.iload_n 1, 1) := by decide +kernel
theorem dX12_keeps_110 : decode cX12_keeps 110 = .ok (.imul, 1) := by decide +kernel
theorem dX12_keeps_111 : decode cX12_keeps 111 = .ok (.iload_n 2, 1) := by decide +kernel
theorem dX12_keeps_112 : decode cX12_keeps 112 = .ok (.iadd, 1) := by decide +kernel
theorem dX12_keeps_113 : decode cX12_keeps 113 = .ok (.aload_n 0, 1) := by decide +kernel
theorem dX12_keeps_114 : decode cX12_keeps 114 = .ok (.getfield 57, 3) := by decide +kernel
theorem dX12_keeps_117 : decode cX12_keeps 117 = .ok (.iload_n 2, 1) := by decide +kernel
theorem dX12_keeps_118 : decode cX12_keeps 118 = .ok (.iaload, 1) := by decide +kernel
theorem dX12_keeps_119 : decode cX12_keeps 119 = .ok (.iastore, 1) := by decide +kernel
theorem dX12_keeps_120 : decode cX12_keeps 120 = .ok (.iinc 2 1, 3) := by decide +kernel
theorem dX12_keeps_123 : decode cX12_keeps 123 = .ok (.goto (-62), 3) := by decide +kernel
theorem dX12_keeps_126 : decode cX12_keeps 126 = .ok (.goto 115, 3) := by decide +kernel
theorem dX12_keeps_129 : decode cX12_keeps 129 = .ok (.aload_n 0, 1) := by decide +kernel
theorem dX12_keeps_130 : decode cX12_keeps 130 = .ok (.getfield 60, 3) := by decide +kernel
theorem dX12_keeps_133 : decode cX12_keeps 133 = .ok (.iload_n 1, 1) := by decide +kernel
theorem dX12_keeps_134 : decode cX12_keeps 134 = .ok (.aload_n 0, 1) := by decide +kernel
theorem dX12_keeps_135 : decode cX12_keeps 135 = .ok (.getfield 271, 3) := by decide +kernel
theorem dX12_keeps_138 : decode cX12_keeps 138 = .ok (.iastore, 1) := by decide +kernel
theorem dX12_keeps_139 : decode cX12_keeps 139 = .ok (.iconst 0, 1) := by decide +kernel
theorem dX12_keeps_140 : decode cX12_keeps 140 = .ok (.istore_n 2, 1) := by decide +kernel
theorem dX12_keeps_141 : decode cX12_keeps 141 = .ok (.iload_n 2, 1) := by decide +kernel
theorem dX12_keeps_142 : decode cX12_keeps 142 = .ok (.aload_n 0, 1) := by decide +kernel
theorem dX12_keeps_143 : decode cX12_keeps 143 = .ok (.getfield 271, 3) := by decide +kernel
theorem dX12_keeps_146 : decode cX12_keeps 146 = .ok (.if_icmp .ge 26, 3) := by decide +kernel
theorem dX12_keeps_149 : decode cX12_keeps 149 = .ok (.aload_n 0, 1) := by decide +kernel
theorem dX12_keeps_150 : decode cX12_keeps 150 = .ok (.getfield 63, 3) := by decide +kernel
theorem dX12_keeps_153 : decode cX12_keeps 153 = .ok (.bipush 12, 2) := by decide +kernel
theorem dX12_keeps_155 : decode cX12_keeps 155 = .ok (.iload_n 1, 1) := by decide +kernel
theorem dX12_keeps_156 : decode cX12_keeps 156 = .ok (.imul, 1) := by decide +kernel
theorem dX12_keeps_157 : decode cX12_keeps 157 = .ok (.iload_n 2, 1) := by decide +kernel
theorem dX12_keeps_158 : decode cX12_keeps 158 = .ok (.iadd, 1) := by decide +kernel
theorem dX12_keeps_159 : decode cX12_keeps 159 = .ok (.aload_n 0, 1) := by decide +kernel
theorem dX12_keeps_160 : decode cX12_keeps 160 = .ok (.getfield 72, 3) := by decide +kernel
theorem dX12_keeps_163 : decode cX12_keeps 163 = .ok (.iload_n 2, 1) := by decide +kernel
theorem dX12_keeps_164 : decode cX12_keeps 164 = .ok (.iaload, 1) := by decide +kernel
theorem dX12_keeps_165 : decode cX12_keeps 165 = .ok (.iastore, 1) := by decide +kernel
theorem dX12_keeps_166 : decode cX12_keeps 166 = .ok (.iinc 2 1, 3) := by decide +kernel
theorem dX12_keeps_169 : decode cX12_keeps 169 = .ok (.goto (-28), 3) := by decide +kernel
theorem dX12_keeps_172 : decode cX12_keeps 172 = .ok (.iconst 0, 1) := by decide +kernel
theorem dX12_keeps_173 : decode cX12_keeps 173 = .ok (.istore_n 2, 1) := by decide +kernel
theorem dX12_keeps_174 : decode cX12_keeps 174 = .ok (.iload_n 2, 1) := by decide +kernel
theorem dX12_keeps_175 : decode cX12_keeps 175 = .ok (.aload_n 0, 1) := by decide +kernel
theorem dX12_keeps_176 : decode cX12_keeps 176 = .ok (.getfield 271, 3) := by decide +kernel
theorem dX12_keeps_179 : decode cX12_keeps 179 = .ok (.if_icmp .gt 26, 3) := by decide +kernel
theorem dX12_keeps_182 : decode cX12_keeps 182 = .ok (.aload_n 0, 1) := by decide +kernel
theorem dX12_keeps_183 : decode cX12_keeps 183 = .ok (.getfield 66, 3) := by decide +kernel
theorem dX12_keeps_186 : decode cX12_keeps 186 = .ok (.bipush 13, 2) := by decide +kernel
theorem dX12_keeps_188 : decode cX12_keeps 188 = .ok (.iload_n 1, 1) := by decide +kernel
theorem dX12_keeps_189 : decode cX12_keeps 189 = .ok (.imul, 1) := by decide +kernel
theorem dX12_keeps_190 : decode cX12_keeps 190 = .ok (.iload_n 2, 1) := by decide +kernel
theorem dX12_keeps_191 : decode cX12_keeps 191 = .ok (.iadd, 1) := by decide +kernel
theorem dX12_keeps_192 : decode cX12_keeps 192 = .ok (.aload_n 0, 1) := by decide +kernel
theorem dX12_keeps_193 : decode cX12_keeps 193 = .ok (.getfield 75, 3) := by decide +kernel
theorem dX12_keeps_196 : decode cX12_keeps 196 = .ok (.iload_n 2, 1) := by decide +kernel
theorem dX12_keeps_197 : decode cX12_keeps 197 = .ok (.iaload, 1) := by decide +kernel
theorem dX12_keeps_198 : decode cX12_keeps 198 = .ok (.iastore, 1) := by decide +kernel
theorem dX12_keeps_199 : decode cX12_keeps 199 = .ok (.iinc 2 1, 3) := by decide +kernel
theorem dX12_keeps_202 : decode cX12_keeps 202 = .ok (.goto (-28), 3) := by decide +kernel
theorem dX12_keeps_205 : decode cX12_keeps 205 = .ok (.iconst 0, 1) := by decide +kernel
theorem dX12_keeps_206 : decode cX12_keeps 206 = .ok (.istore_n 2, 1) := by decide +kernel
theorem dX12_keeps_207 : decode cX12_keeps 207 = .ok (.iload_n 2, 1) := by decide +kernel
theorem dX12_keeps_208 : decode cX12_keeps 208 = .ok (.iconst 2, 1) := by decide +kernel
theorem dX12_keeps_209 : decode cX12_keeps 209 = .ok (.aload_n 0, 1) := by decide +kernel
theorem dX12_keeps_210 : decode cX12_keeps 210 = .ok (.getfield 277, 3) := by decide +kernel
theorem dX12_keeps_213 : decode cX12_keeps 213 = .ok (.imul, 1) := by decide +kernel
theorem dX12_keeps_214 : decode cX12_keeps 214 = .ok (.if_icmp .ge 27, 3) := by decide +kernel
theorem dX12_keeps_217 : decode cX12_keeps 217 = .ok (.aload_n 0, 1) := by decide +kernel
theorem dX12_keeps_218 : decode cX12_keeps 218 = .ok (.getfield 69, 3) := by decide +kernel
theorem dX12_keeps_221 : decode cX12_keeps 221 = .ok (.sipush 1220, 3) := by decide +kernel
theorem dX12_keeps_224 : decode cX12_keeps 224 = .ok (.iload_n 1, 1) := by decide +kernel
theorem dX12_keeps_225 : decode cX12_keeps 225 = .ok (.imul, 1) := by decide +kernel
theorem dX12_keeps_226 : decode cX12_keeps 226 = .ok (.iload_n 2, 1) := by decide +kernel
theorem dX12_keeps_227 : decode cX12_keeps 227 = .ok (.iadd, 1) := by decide +kernel
theorem dX12_keeps_228 : decode cX12_keeps 228 = .ok (.aload_n 0, 1) := by decide +kernel
theorem dX12_keeps_229 : decode cX12_keeps 229 = .ok (.getfield 78, 3) := by decide +kernel
theorem dX12_keeps_232 : decode cX12_keeps 232 = .ok (.iload_n 2, 1) := by decide +kernel
theorem dX12_keeps_233 : decode cX12_keeps 233 = .ok (.iaload, 1) := by decide +kernel
theorem dX12_keeps_234 : decode cX12_keeps 234 = .ok (.iastore, 1) := by decide +kernel
theorem dX12_keeps_235 : decode cX12_keeps 235 = .ok (.iinc 2 1, 3) := by decide +kernel
theorem dX12_keeps_238 : decode cX12_keeps 238 = .ok (.goto (-31), 3) := by decide +kernel
theorem dX12_keeps_241 : decode cX12_keeps 241 = .ok (.return_, 1) := by decide +kernel
theorem dX12_fault_0 : decode cX12_fault 0 = .ok (.iload_n 1, 1) := by decide +kernel
theorem dX12_fault_1 : decode cX12_fault 1 = .ok (.ifCond .ne 10, 3) := by decide +kernel
theorem dX12_fault_4 : decode cX12_fault 4 = .ok (.aload_n 0, 1) := by decide +kernel
theorem dX12_fault_5 : decode cX12_fault 5 = .ok (.getfield 309, 3) := by decide +kernel
theorem dX12_fault_8 : decode cX12_fault 8 = .ok (.goto 16, 3) := by decide +kernel
theorem dX12_fault_11 : decode cX12_fault 11 = .ok (.iload_n 1, 1) := by decide +kernel
theorem dX12_fault_12 : decode cX12_fault 12 = .ok (.iconst 1, 1) := by decide +kernel
theorem dX12_fault_13 : decode cX12_fault 13 = .ok (.if_icmp .ne 10, 3) := by decide +kernel
theorem dX12_fault_16 : decode cX12_fault 16 = .ok (.aload_n 0, 1) := by decide +kernel
theorem dX12_fault_17 : decode cX12_fault 17 = .ok (.getfield 90, 3) := by decide +kernel
theorem dX12_fault_20 : decode cX12_fault 20 = .ok (.goto 4, 3) := by decide +kernel
theorem dX12_fault_23 : decode cX12_fault 23 = .ok (.iconst (-1), 1) := by decide +kernel
theorem dX12_fault_24 : decode cX12_fault 24 = .ok (.ireturn, 1) := by decide +kernel
theorem dX12_machine_0 : decode cX12_machine 0 = .ok (.iload_n 1, 1) := by decide +kernel
theorem dX12_machine_1 : decode cX12_machine 1 = .ok (.iconst 0, 1) := by decide +kernel
theorem dX12_machine_2 : decode cX12_machine 2 = .ok (.iconst 5, 1) := by decide +kernel
theorem dX12_machine_3 : decode cX12_machine 3 = .ok (.invokestatic 9, 3) := by decide +kernel
theorem dX12_machine_6 : decode cX12_machine 6 = .ok (.ifCond .eq 27, 3) := by decide +kernel
theorem dX12_machine_9 : decode cX12_machine 9 = .ok (.iload_n 2, 1) := by decide +kernel
theorem dX12_machine_10 : decode cX12_machine 10 = .ok (.iconst 0, 1) := by decide +kernel
theorem dX12_machine_11 : decode cX12_machine 11 = .ok (.bipush 7, 2) := by decide +kernel
theorem dX12_machine_13 : decode cX12_machine 13 = .ok (.invokestatic 9, 3) := by decide +kernel
theorem dX12_machine_16 : decode cX12_machine 16 = .ok (.ifCond .eq 17, 3) := by decide +kernel
theorem dX12_machine_19 : decode cX12_machine 19 = .ok (.aload_n 0, 1) := by decide +kernel
theorem dX12_machine_20 : decode cX12_machine 20 = .ok (.getfield 30, 3) := by decide +kernel
theorem dX12_machine_23 : decode cX12_machine 23 = .ok (.bipush 8, 2) := by decide +kernel
theorem dX12_machine_25 : decode cX12_machine 25 = .ok (.iload_n 1, 1) := by decide +kernel
theorem dX12_machine_26 : decode cX12_machine 26 = .ok (.imul, 1) := by decide +kernel
theorem dX12_machine_27 : decode cX12_machine 27 = .ok (.iload_n 2, 1) := by decide +kernel
theorem dX12_machine_28 : decode cX12_machine 28 = .ok (.iadd, 1) := by decide +kernel
theorem dX12_machine_29 : decode cX12_machine 29 = .ok (.iaload, 1) := by decide +kernel
theorem dX12_machine_30 : decode cX12_machine 30 = .ok (.goto 4, 3) := by decide +kernel
theorem dX12_machine_33 : decode cX12_machine 33 = .ok (.iconst (-1), 1) := by decide +kernel
theorem dX12_machine_34 : decode cX12_machine 34 = .ok (.ireturn, 1) := by decide +kernel
theorem dX12_blanks_0 : decode cX12_blanks 0 = .ok (.aload_n 0, 1) := by decide +kernel
theorem dX12_blanks_1 : decode cX12_blanks 1 = .ok (.getfield 93, 3) := by decide +kernel
theorem dX12_blanks_4 : decode cX12_blanks 4 = .ok (.iload_n 1, 1) := by decide +kernel
theorem dX12_blanks_5 : decode cX12_blanks 5 = .ok (.iconst 0, 1) := by decide +kernel
theorem dX12_blanks_6 : decode cX12_blanks 6 = .ok (.iastore, 1) := by decide +kernel
theorem dX12_blanks_7 : decode cX12_blanks 7 = .ok (.aload_n 0, 1) := by decide +kernel
theorem dX12_blanks_8 : decode cX12_blanks 8 = .ok (.getfield 96, 3) := by decide +kernel
theorem dX12_blanks_11 : decode cX12_blanks 11 = .ok (.iload_n 1, 1) := by decide +kernel
theorem dX12_blanks_12 : decode cX12_blanks 12 = .ok (.iconst (-1), 1) := by decide +kernel
theorem dX12_blanks_13 : decode cX12_blanks 13 = .ok (.iastore, 1) := by decide +kernel
theorem dX12_blanks_14 : decode cX12_blanks 14 = .ok (.aload_n 0, 1) := by decide +kernel
theorem dX12_blanks_15 : decode cX12_blanks 15 = .ok (.getfield 99, 3) := by decide +kernel
theorem dX12_blanks_18 : decode cX12_blanks 18 = .ok (.iload_n 1, 1) := by decide +kernel
theorem dX12_blanks_19 : decode cX12_blanks 19 = .ok (.iconst (-1), 1) := by decide +kernel
theorem dX12_blanks_20 : decode cX12_blanks 20 = .ok (.iastore, 1) := by decide +kernel
theorem dX12_blanks_21 : decode cX12_blanks 21 = .ok (.aload_n 0, 1) := by decide +kernel
theorem dX12_blanks_22 : decode cX12_blanks 22 = .ok (.getfield 102, 3) := by decide +kernel
theorem dX12_blanks_25 : decode cX12_blanks 25 = .ok (.iload_n 1, 1) := by decide +kernel
theorem dX12_blanks_26 : decode cX12_blanks 26 = .ok (.iconst (-1), 1) := by decide +kernel
theorem dX12_blanks_27 : decode cX12_blanks 27 = .ok (.iastore, 1) := by decide +kernel
theorem dX12_blanks_28 : decode cX12_blanks 28 = .ok (.aload_n 0, 1) := by decide +kernel
theorem dX12_blanks_29 : decode cX12_blanks 29 = .ok (.getfield 105, 3) := by decide +kernel
theorem dX12_blanks_32 : decode cX12_blanks 32 = .ok (.iload_n 1, 1) := by decide +kernel
theorem dX12_blanks_33 : decode cX12_blanks 33 = .ok (.iconst 0, 1) := by decide +kernel
theorem dX12_blanks_34 : decode cX12_blanks 34 = .ok (.iastore, 1) := by decide +kernel
theorem dX12_blanks_35 : decode cX12_blanks 35 = .ok (.aload_n 0, 1) := by decide +kernel
theorem dX12_blanks_36 : decode cX12_blanks 36 = .ok (.getfield 108, 3) := by decide +kernel
theorem dX12_blanks_39 : decode cX12_blanks 39 = .ok (.iload_n 1, 1) := by decide +kernel
theorem dX12_blanks_40 : decode cX12_blanks 40 = .ok (.iconst 0, 1) := by decide +kernel
theorem dX12_blanks_41 : decode cX12_blanks 41 = .ok (.iastore, 1) := by decide +kernel
theorem dX12_blanks_42 : decode cX12_blanks 42 = .ok (.aload_n 0, 1) := by decide +kernel
theorem dX12_blanks_43 : decode cX12_blanks 43 = .ok (.getfield 111, 3) := by decide +kernel
theorem dX12_blanks_46 : decode cX12_blanks 46 = .ok (.iload_n 1, 1) := by decide +kernel
theorem dX12_blanks_47 : decode cX12_blanks 47 = .ok (.iconst 0, 1) := by decide +kernel
theorem dX12_blanks_48 : decode cX12_blanks 48 = .ok (.iastore, 1) := by decide +kernel
theorem dX12_blanks_49 : decode cX12_blanks 49 = .ok (.aload_n 0, 1) := by decide +kernel
theorem dX12_blanks_50 : decode cX12_blanks 50 = .ok (.getfield 114, 3) := by decide +kernel
theorem dX12_blanks_53 : decode cX12_blanks 53 = .ok (.iload_n 1, 1) := by decide +kernel
theorem dX12_blanks_54 : decode cX12_blanks 54 = .ok (.iconst 0, 1) := by decide +kernel
theorem dX12_blanks_55 : decode cX12_blanks 55 = .ok (.iastore, 1) := by decide +kernel
theorem dX12_blanks_56 : decode cX12_blanks 56 = .ok (.aload_n 0, 1) := by decide +kernel
theorem dX12_blanks_57 : decode cX12_blanks 57 = .ok (.getfield 117, 3) := by decide +kernel
theorem dX12_blanks_60 : decode cX12_blanks 60 = .ok (.iload_n 1, 1) := by decide +kernel
theorem dX12_blanks_61 : decode cX12_blanks 61 = .ok (.iconst 0, 1) := by decide +kernel
theorem dX12_blanks_62 : decode cX12_blanks 62 = .ok (.iastore, 1) := by decide +kernel
theorem dX12_blanks_63 : decode cX12_blanks 63 = .ok (.aload_n 0, 1) := by decide +kernel
theorem dX12_blanks_64 : decode cX12_blanks 64 = .ok (.getfield 120, 3) := by decide +kernel
theorem dX12_blanks_67 : decode cX12_blanks 67 = .ok (.iload_n 1, 1) := by decide +kernel
theorem dX12_blanks_68 : decode cX12_blanks 68 = .ok (.iconst 0, 1) := by decide +kernel
theorem dX12_blanks_69 : decode cX12_blanks 69 = .ok (.iastore, 1) := by decide +kernel
theorem dX12_blanks_70 : decode cX12_blanks 70 = .ok (.return_, 1) := by decide +kernel
theorem dX12_clears_0 : decode cX12_clears 0 = .ok (.iconst 0, 1) := by decide +kernel
theorem dX12_clears_1 : decode cX12_clears 1 = .ok (.istore_n 2, 1) := by decide +kernel
theorem dX12_clears_2 : decode cX12_clears 2 = .ok (.iload_n 2, 1) := by decide +kernel
theorem dX12_clears_3 : decode cX12_clears 3 = .ok (.sipush 300, 3) := by decide +kernel
theorem dX12_clears_6 : decode cX12_clears 6 = .ok (.if_icmp .ge 20, 3) := by decide +kernel
theorem dX12_clears_9 : decode cX12_clears 9 = .ok (.aload_n 0, 1) := by decide +kernel
theorem dX12_clears_10 : decode cX12_clears 10 = .ok (.sipush 300, 3) := by decide +kernel
theorem dX12_clears_13 : decode cX12_clears 13 = .ok (.iload_n 1, 1) := by decide +kernel
theorem dX12_clears_14 : decode cX12_clears 14 = .ok (.imul, 1) := by decide +kernel
theorem dX12_clears_15 : decode cX12_clears 15 = .ok (.iload_n 2, 1) := by decide +kernel
theorem dX12_clears_16 : decode cX12_clears 16 = .ok (.iadd, 1) := by decide +kernel
theorem dX12_clears_17 : decode cX12_clears 17 = .ok (.invokevirtual 327, 3) := by decide +kernel
theorem dX12_clears_20 : decode cX12_clears 20 = .ok (.iinc 2 1, 3) := by decide +kernel
theorem dX12_clears_23 : decode cX12_clears 23 = .ok (.goto (-21), 3) := by decide +kernel
theorem dX12_clears_26 : decode cX12_clears 26 = .ok (.return_, 1) := by decide +kernel
theorem dX12_moves_0 : decode cX12_moves 0 = .ok (.aload_n 0, 1) := by decide +kernel
theorem dX12_moves_1 : decode cX12_moves 1 = .ok (.getfield 93, 3) := by decide +kernel
theorem dX12_moves_4 : decode cX12_moves 4 = .ok (.iload_n 2, 1) := by decide +kernel
theorem dX12_moves_5 : decode cX12_moves 5 = .ok (.aload_n 0, 1) := by decide +kernel
theorem dX12_moves_6 : decode cX12_moves 6 = .ok (.getfield 93, 3) := by decide +kernel
theorem dX12_moves_9 : decode cX12_moves 9 = .ok (.iload_n 1, 1) := by decide +kernel
theorem dX12_moves_10 : decode cX12_moves 10 = .ok (.iaload, 1) := by decide +kernel
theorem dX12_moves_11 : decode cX12_moves 11 = .ok (.iastore, 1) := by decide +kernel
theorem dX12_moves_12 : decode cX12_moves 12 = .ok (.aload_n 0, 1) := by decide +kernel
theorem dX12_moves_13 : decode cX12_moves 13 = .ok (.getfield 96, 3) := by decide +kernel
theorem dX12_moves_16 : decode cX12_moves 16 = .ok (.iload_n 2, 1) := by decide +kernel
theorem dX12_moves_17 : decode cX12_moves 17 = .ok (.aload_n 0, 1) := by decide +kernel
theorem dX12_moves_18 : decode cX12_moves 18 = .ok (.getfield 96, 3) := by decide +kernel
theorem dX12_moves_21 : decode cX12_moves 21 = .ok (.iload_n 1, 1) := by decide +kernel
theorem dX12_moves_22 : decode cX12_moves 22 = .ok (.iaload, 1) := by decide +kernel
theorem dX12_moves_23 : decode cX12_moves 23 = .ok (.iastore, 1) := by decide +kernel
theorem dX12_moves_24 : decode cX12_moves 24 = .ok (.aload_n 0, 1) := by decide +kernel
theorem dX12_moves_25 : decode cX12_moves 25 = .ok (.getfield 99, 3) := by decide +kernel
theorem dX12_moves_28 : decode cX12_moves 28 = .ok (.iload_n 2, 1) := by decide +kernel
theorem dX12_moves_29 : decode cX12_moves 29 = .ok (.aload_n 0, 1) := by decide +kernel
theorem dX12_moves_30 : decode cX12_moves 30 = .ok (.getfield 99, 3) := by decide +kernel
theorem dX12_moves_33 : decode cX12_moves 33 = .ok (.iload_n 1, 1) := by decide +kernel
theorem dX12_moves_34 : decode cX12_moves 34 = .ok (.iaload, 1) := by decide +kernel
theorem dX12_moves_35 : decode cX12_moves 35 = .ok (.iastore, 1) := by decide +kernel
theorem dX12_moves_36 : decode cX12_moves 36 = .ok (.aload_n 0, 1) := by decide +kernel
theorem dX12_moves_37 : decode cX12_moves 37 = .ok (.getfield 102, 3) := by decide +kernel
theorem dX12_moves_40 : decode cX12_moves 40 = .ok (.iload_n 2, 1) := by decide +kernel
theorem dX12_moves_41 : decode cX12_moves 41 = .ok (.aload_n 0, 1) := by decide +kernel
theorem dX12_moves_42 : decode cX12_moves 42 = .ok (.getfield 102, 3) := by decide +kernel
theorem dX12_moves_45 : decode cX12_moves 45 = .ok (.iload_n 1, 1) := by decide +kernel
theorem dX12_moves_46 : decode cX12_moves 46 = .ok (.iaload, 1) := by decide +kernel
theorem dX12_moves_47 : decode cX12_moves 47 = .ok (.iastore, 1) := by decide +kernel
theorem dX12_moves_48 : decode cX12_moves 48 = .ok (.aload_n 0, 1) := by decide +kernel
theorem dX12_moves_49 : decode cX12_moves 49 = .ok (.getfield 105, 3) := by decide +kernel
theorem dX12_moves_52 : decode cX12_moves 52 = .ok (.iload_n 2, 1) := by decide +kernel
theorem dX12_moves_53 : decode cX12_moves 53 = .ok (.aload_n 0, 1) := by decide +kernel
theorem dX12_moves_54 : decode cX12_moves 54 = .ok (.getfield 105, 3) := by decide +kernel
theorem dX12_moves_57 : decode cX12_moves 57 = .ok (.iload_n 1, 1) := by decide +kernel
theorem dX12_moves_58 : decode cX12_moves 58 = .ok (.iaload, 1) := by decide +kernel
theorem dX12_moves_59 : decode cX12_moves 59 = .ok (.iastore, 1) := by decide +kernel
theorem dX12_moves_60 : decode cX12_moves 60 = .ok (.aload_n 0, 1) := by decide +kernel
theorem dX12_moves_61 : decode cX12_moves 61 = .ok (.getfield 108, 3) := by decide +kernel
theorem dX12_moves_64 : decode cX12_moves 64 = .ok (.iload_n 2, 1) := by decide +kernel
theorem dX12_moves_65 : decode cX12_moves 65 = .ok (.aload_n 0, 1) := by decide +kernel
theorem dX12_moves_66 : decode cX12_moves 66 = .ok (.getfield 108, 3) := by decide +kernel
theorem dX12_moves_69 : decode cX12_moves 69 = .ok (.iload_n 1, 1) := by decide +kernel
theorem dX12_moves_70 : decode cX12_moves 70 = .ok (.iaload, 1) := by decide +kernel
theorem dX12_moves_71 : decode cX12_moves 71 = .ok (.iastore, 1) := by decide +kernel
theorem dX12_moves_72 : decode cX12_moves 72 = .ok (.aload_n 0, 1) := by decide +kernel
theorem dX12_moves_73 : decode cX12_moves 73 = .ok (.getfield 111, 3) := by decide +kernel
theorem dX12_moves_76 : decode cX12_moves 76 = .ok (.iload_n 2, 1) := by decide +kernel
theorem dX12_moves_77 : decode cX12_moves 77 = .ok (.aload_n 0, 1) := by decide +kernel
theorem dX12_moves_78 : decode cX12_moves 78 = .ok (.getfield 111, 3) := by decide +kernel
theorem dX12_moves_81 : decode cX12_moves 81 = .ok (.iload_n 1, 1) := by decide +kernel
theorem dX12_moves_82 : decode cX12_moves 82 = .ok (.iaload, 1) := by decide +kernel
theorem dX12_moves_83 : decode cX12_moves 83 = .ok (.iastore, 1) := by decide +kernel
theorem dX12_moves_84 : decode cX12_moves 84 = .ok (.aload_n 0, 1) := by decide +kernel
theorem dX12_moves_85 : decode cX12_moves 85 = .ok (.getfield 114, 3) := by decide +kernel
theorem dX12_moves_88 : decode cX12_moves 88 = .ok (.iload_n 2, 1) := by decide +kernel
theorem dX12_moves_89 : decode cX12_moves 89 = .ok (.aload_n 0, 1) := by decide +kernel
theorem dX12_moves_90 : decode cX12_moves 90 = .ok (.getfield 114, 3) := by decide +kernel
theorem dX12_moves_93 : decode cX12_moves 93 = .ok (.iload_n 1, 1) := by decide +kernel
theorem dX12_moves_94 : decode cX12_moves 94 = .ok (.iaload, 1) := by decide +kernel
theorem dX12_moves_95 : decode cX12_moves 95 = .ok (.iastore, 1) := by decide +kernel
theorem dX12_moves_96 : decode cX12_moves 96 = .ok (.aload_n 0, 1) := by decide +kernel
theorem dX12_moves_97 : decode cX12_moves 97 = .ok (.getfield 117, 3) := by decide +kernel
theorem dX12_moves_100 : decode cX12_moves 100 = .ok (.iload_n 2, 1) := by decide +kernel
theorem dX12_moves_101 : decode cX12_moves 101 = .ok (.aload_n 0, 1) := by decide +kernel
theorem dX12_moves_102 : decode cX12_moves 102 = .ok (.getfield 117, 3) := by decide +kernel
theorem dX12_moves_105 : decode cX12_moves 105 = .ok (.iload_n 1, 1) := by decide +kernel
theorem dX12_moves_106 : decode cX12_moves 106 = .ok (.iaload, 1) := by decide +kernel
theorem dX12_moves_107 : decode cX12_moves 107 = .ok (.iastore, 1) := by decide +kernel
theorem dX12_moves_108 : decode cX12_moves 108 = .ok (.aload_n 0, 1) := by decide +kernel
theorem dX12_moves_109 : decode cX12_moves 109 = .ok (.getfield 120, 3) := by decide +kernel
theorem dX12_moves_112 : decode cX12_moves 112 = .ok (.iload_n 2, 1) := by decide +kernel
theorem dX12_moves_113 : decode cX12_moves 113 = .ok (.aload_n 0, 1) := by decide +kernel
theorem dX12_moves_114 : decode cX12_moves 114 = .ok (.getfield 120, 3) := by decide +kernel
theorem dX12_moves_117 : decode cX12_moves 117 = .ok (.iload_n 1, 1) := by decide +kernel
theorem dX12_moves_118 : decode cX12_moves 118 = .ok (.iaload, 1) := by decide +kernel
theorem dX12_moves_119 : decode cX12_moves 119 = .ok (.iastore, 1) := by decide +kernel
theorem dX12_moves_120 : decode cX12_moves 120 = .ok (.return_, 1) := by decide +kernel
theorem dX12_beatNow_0 : decode cX12_beatNow 0 = .ok (.aload_n 0, 1) := by decide +kernel
theorem dX12_beatNow_1 : decode cX12_beatNow 1 = .ok (.getfield 30, 3) := by decide +kernel
theorem dX12_beatNow_4 : decode cX12_beatNow 4 = .ok (.bipush 8, 2) := by decide +kernel
theorem dX12_beatNow_6 : decode cX12_beatNow 6 = .ok (.aload_n 0, 1) := by decide +kernel
theorem dX12_beatNow_7 : decode cX12_beatNow 7 = .ok (.getfield 330, 3) := by decide +kernel
theorem dX12_beatNow_10 : decode cX12_beatNow 10 = .ok (.imul, 1) := by decide +kernel
theorem dX12_beatNow_11 : decode cX12_beatNow 11 = .ok (.bipush 6, 2) := by decide +kernel
theorem dX12_beatNow_13 : decode cX12_beatNow 13 = .ok (.iadd, 1) := by decide +kernel
theorem dX12_beatNow_14 : decode cX12_beatNow 14 = .ok (.iaload, 1) := by decide +kernel
theorem dX12_beatNow_15 : decode cX12_beatNow 15 = .ok (.ifCond .eq 14, 3) := by decide +kernel
theorem dX12_beatNow_18 : decode cX12_beatNow 18 = .ok (.aload_n 0, 1) := by decide +kernel
theorem dX12_beatNow_19 : decode cX12_beatNow 19 = .ok (.getfield 333, 3) := by decide +kernel
theorem dX12_beatNow_22 : decode cX12_beatNow 22 = .ok (.aload_n 0, 1) := by decide +kernel
theorem dX12_beatNow_23 : decode cX12_beatNow 23 = .ok (.getfield 13, 3) := by decide +kernel
theorem dX12_beatNow_26 : decode cX12_beatNow 26 = .ok (.if_icmp .lt 5, 3) := by decide +kernel
theorem dX12_beatNow_29 : decode cX12_beatNow 29 = .ok (.iconst (-1), 1) := by decide +kernel
theorem dX12_beatNow_30 : decode cX12_beatNow 30 = .ok (.ireturn, 1) := by decide +kernel
theorem dX12_beatNow_31 : decode cX12_beatNow 31 = .ok (.aload_n 0, 1) := by decide +kernel
theorem dX12_beatNow_32 : decode cX12_beatNow 32 = .ok (.getfield 16, 3) := by decide +kernel
theorem dX12_beatNow_35 : decode cX12_beatNow 35 = .ok (.aload_n 0, 1) := by decide +kernel
theorem dX12_beatNow_36 : decode cX12_beatNow 36 = .ok (.getfield 333, 3) := by decide +kernel
theorem dX12_beatNow_39 : decode cX12_beatNow 39 = .ok (.iaload, 1) := by decide +kernel
theorem dX12_beatNow_40 : decode cX12_beatNow 40 = .ok (.bipush 100, 2) := by decide +kernel
theorem dX12_beatNow_42 : decode cX12_beatNow 42 = .ok (.imul, 1) := by decide +kernel
theorem dX12_beatNow_43 : decode cX12_beatNow 43 = .ok (.aload_n 0, 1) := by decide +kernel
theorem dX12_beatNow_44 : decode cX12_beatNow 44 = .ok (.getfield 30, 3) := by decide +kernel
theorem dX12_beatNow_47 : decode cX12_beatNow 47 = .ok (.bipush 8, 2) := by decide +kernel
theorem dX12_beatNow_49 : decode cX12_beatNow 49 = .ok (.aload_n 0, 1) := by decide +kernel
theorem dX12_beatNow_50 : decode cX12_beatNow 50 = .ok (.getfield 330, 3) := by decide +kernel
theorem dX12_beatNow_53 : decode cX12_beatNow 53 = .ok (.imul, 1) := by decide +kernel
theorem dX12_beatNow_54 : decode cX12_beatNow 54 = .ok (.bipush 7, 2) := by decide +kernel
theorem dX12_beatNow_56 : decode cX12_beatNow 56 = .ok (.iadd, 1) := by decide +kernel
theorem dX12_beatNow_57 : decode cX12_beatNow 57 = .ok (.iaload, 1) := by decide +kernel
theorem dX12_beatNow_58 : decode cX12_beatNow 58 = .ok (.idiv, 1) := by decide +kernel
theorem dX12_beatNow_59 : decode cX12_beatNow 59 = .ok (.istore_n 1, 1) := by decide +kernel
theorem dX12_beatNow_60 : decode cX12_beatNow 60 = .ok (.iload_n 1, 1) := by decide +kernel
theorem dX12_beatNow_61 : decode cX12_beatNow 61 = .ok (.bipush 63, 2) := by decide +kernel
theorem dX12_beatNow_63 : decode cX12_beatNow 63 = .ok (.if_icmp .le 8, 3) := by decide +kernel
theorem dX12_beatNow_66 : decode cX12_beatNow 66 = .ok (.bipush 63, 2) := by decide +kernel
theorem dX12_beatNow_68 : decode cX12_beatNow 68 = .ok (.goto 4, 3) := by decide +kernel
theorem dX12_beatNow_71 : decode cX12_beatNow 71 = .ok (.iload_n 1, 1) := by decide +kernel
theorem dX12_beatNow_72 : decode cX12_beatNow 72 = .ok (.ireturn, 1) := by decide +kernel
theorem dX12_goesOver_0 : decode cX12_goesOver 0 = .ok (.aload_n 0, 1) := by decide +kernel
theorem dX12_goesOver_1 : decode cX12_goesOver 1 = .ok (.getfield 30, 3) := by decide +kernel
theorem dX12_goesOver_4 : decode cX12_goesOver 4 = .ok (.bipush 8, 2) := by decide +kernel
theorem dX12_goesOver_6 : decode cX12_goesOver 6 = .ok (.aload_n 0, 1) := by decide +kernel
theorem dX12_goesOver_7 : decode cX12_goesOver 7 = .ok (.getfield 330, 3) := by decide +kernel
theorem dX12_goesOver_10 : decode cX12_goesOver 10 = .ok (.imul, 1) := by decide +kernel
theorem dX12_goesOver_11 : decode cX12_goesOver 11 = .ok (.iconst 4, 1) := by decide +kernel
theorem dX12_goesOver_12 : decode cX12_goesOver 12 = .ok (.iadd, 1) := by decide +kernel
theorem dX12_goesOver_13 : decode cX12_goesOver 13 = .ok (.iaload, 1) := by decide +kernel
theorem dX12_goesOver_14 : decode cX12_goesOver 14 = .ok (.istore_n 2, 1) := by decide +kernel
theorem dX12_goesOver_15 : decode cX12_goesOver 15 = .ok (.aload_n 0, 1) := by decide +kernel
theorem dX12_goesOver_16 : decode cX12_goesOver 16 = .ok (.getfield 111, 3) := by decide +kernel
theorem dX12_goesOver_19 : decode cX12_goesOver 19 = .ok (.iload_n 1, 1) := by decide +kernel
theorem dX12_goesOver_20 : decode cX12_goesOver 20 = .ok (.aload_n 0, 1) := by decide +kernel
theorem dX12_goesOver_21 : decode cX12_goesOver 21 = .ok (.getfield 114, 3) := by decide +kernel
theorem dX12_goesOver_24 : decode cX12_goesOver 24 = .ok (.iload_n 1, 1) := by decide +kernel
theorem dX12_goesOver_25 : decode cX12_goesOver 25 = .ok (.iaload, 1) := by decide +kernel
theorem dX12_goesOver_26 : decode cX12_goesOver 26 = .ok (.iload_n 2, 1) := by decide +kernel
theorem dX12_goesOver_27 : decode cX12_goesOver 27 = .ok (.if_icmp .le 12, 3) := by decide +kernel
theorem dX12_goesOver_30 : decode cX12_goesOver 30 = .ok (.aload_n 0, 1) := by decide +kernel
theorem dX12_goesOver_31 : decode cX12_goesOver 31 = .ok (.getfield 93, 3) := by decide +kernel
theorem dX12_goesOver_34 : decode cX12_goesOver 34 = .ok (.iload_n 1, 1) := by decide +kernel
theorem dX12_goesOver_35 : decode cX12_goesOver 35 = .ok (.iaload, 1) := by decide +kernel
theorem dX12_goesOver_36 : decode cX12_goesOver 36 = .ok (.goto 4, 3) := by decide +kernel
theorem dX12_goesOver_39 : decode cX12_goesOver 39 = .ok (.iconst 0, 1) := by decide +kernel
theorem dX12_goesOver_40 : decode cX12_goesOver 40 = .ok (.iastore, 1) := by decide +kernel
theorem dX12_goesOver_41 : decode cX12_goesOver 41 = .ok (.aload_n 0, 1) := by decide +kernel
theorem dX12_goesOver_42 : decode cX12_goesOver 42 = .ok (.getfield 117, 3) := by decide +kernel
theorem dX12_goesOver_45 : decode cX12_goesOver 45 = .ok (.iload_n 1, 1) := by decide +kernel
theorem dX12_goesOver_46 : decode cX12_goesOver 46 = .ok (.aload_n 0, 1) := by decide +kernel
theorem dX12_goesOver_47 : decode cX12_goesOver 47 = .ok (.getfield 114, 3) := by decide +kernel
theorem dX12_goesOver_50 : decode cX12_goesOver 50 = .ok (.iload_n 1, 1) := by decide +kernel
theorem dX12_goesOver_51 : decode cX12_goesOver 51 = .ok (.iaload, 1) := by decide +kernel
theorem dX12_goesOver_52 : decode cX12_goesOver 52 = .ok (.ifCond .ne 7, 3) := by decide +kernel
theorem dX12_goesOver_55 : decode cX12_goesOver 55 = .ok (.iconst 0, 1) := by decide +kernel
theorem dX12_goesOver_56 : decode cX12_goesOver 56 = .ok (.goto 4, 3) := by decide +kernel
theorem dX12_goesOver_59 : decode cX12_goesOver 59 = .ok (.iconst 2, 1) := by decide +kernel
theorem dX12_goesOver_60 : decode cX12_goesOver 60 = .ok (.iastore, 1) := by decide +kernel
theorem dX12_goesOver_61 : decode cX12_goesOver 61 = .ok (.aload_n 0, 1) := by decide +kernel
theorem dX12_goesOver_62 : decode cX12_goesOver 62 = .ok (.getfield 93, 3) := by decide +kernel
theorem dX12_goesOver_65 : decode cX12_goesOver 65 = .ok (.iload_n 1, 1) := by decide +kernel
theorem dX12_goesOver_66 : decode cX12_goesOver 66 = .ok (.aload_n 0, 1) := by decide +kernel
theorem dX12_goesOver_67 : decode cX12_goesOver 67 = .ok (.getfield 336, 3) := by decide +kernel
theorem dX12_goesOver_70 : decode cX12_goesOver 70 = .ok (.iastore, 1) := by decide +kernel
theorem dX12_goesOver_71 : decode cX12_goesOver 71 = .ok (.aload_n 0, 1) := by decide +kernel
theorem dX12_goesOver_72 : decode cX12_goesOver 72 = .ok (.getfield 96, 3) := by decide +kernel
theorem dX12_goesOver_75 : decode cX12_goesOver 75 = .ok (.iload_n 1, 1) := by decide +kernel
theorem dX12_goesOver_76 : decode cX12_goesOver 76 = .ok (.aload_n 0, 1) := by decide +kernel
theorem dX12_goesOver_77 : decode cX12_goesOver 77 = .ok (.getfield 338, 3) := by decide +kernel
theorem dX12_goesOver_80 : decode cX12_goesOver 80 = .ok (.iastore, 1) := by decide +kernel
theorem dX12_goesOver_81 : decode cX12_goesOver 81 = .ok (.aload_n 0, 1) := by decide +kernel
theorem dX12_goesOver_82 : decode cX12_goesOver 82 = .ok (.getfield 99, 3) := by decide +kernel
theorem dX12_goesOver_85 : decode cX12_goesOver 85 = .ok (.iload_n 1, 1) := by decide +kernel
theorem dX12_goesOver_86 : decode cX12_goesOver 86 = .ok (.aload_n 0, 1) := by decide +kernel
theorem dX12_goesOver_87 : decode cX12_goesOver 87 = .ok (.invokevirtual 340, 3) := by decide +kernel
theorem dX12_goesOver_90 : decode cX12_goesOver 90 = .ok (.iastore, 1) := by decide +kernel
theorem dX12_goesOver_91 : decode cX12_goesOver 91 = .ok (.aload_n 0, 1) := by decide +kernel
theorem dX12_goesOver_92 : decode cX12_goesOver 92 = .ok (.getfield 102, 3) := by decide +kernel
theorem dX12_goesOver_95 : decode cX12_goesOver 95 = .ok (.iload_n 1, 1) := by decide +kernel
theorem dX12_goesOver_96 : decode cX12_goesOver 96 = .ok (.iconst (-1), 1) := by decide +kernel
theorem dX12_goesOver_97 : decode cX12_goesOver 97 = .ok (.iastore, 1) := by decide +kernel
theorem dX12_goesOver_98 : decode cX12_goesOver 98 = .ok (.aload_n 0, 1) := by decide +kernel
theorem dX12_goesOver_99 : decode cX12_goesOver 99 = .ok (.getfield 105, 3) := by decide +kernel
theorem dX12_goesOver_102 : decode cX12_goesOver 102 = .ok (.iload_n 1, 1) := by decide +kernel
theorem dX12_goesOver_103 : decode cX12_goesOver 103 = .ok (.aload_n 0, 1) := by decide +kernel
theorem dX12_goesOver_104 : decode cX12_goesOver 104 = .ok (.getfield 30, 3) := by decide +kernel
theorem dX12_goesOver_107 : decode cX12_goesOver 107 = .ok (.bipush 8, 2) := by decide +kernel
theorem dX12_goesOver_109 : decode cX12_goesOver 109 = .ok (.aload_n 0, 1) := by decide +kernel
theorem dX12_goesOver_110 : decode cX12_goesOver 110 = .ok (.getfield 330, 3) := by decide +kernel
theorem dX12_goesOver_113 : decode cX12_goesOver 113 = .ok (.imul, 1) := by decide +kernel
theorem dX12_goesOver_114 : decode cX12_goesOver 114 = .ok (.iconst 5, 1) := by decide +kernel
theorem dX12_goesOver_115 : decode cX12_goesOver 115 = .ok (.iadd, 1) := by decide +kernel
theorem dX12_goesOver_116 : decode cX12_goesOver 116 = .ok (.iaload, 1) := by decide +kernel
theorem dX12_goesOver_117 : decode cX12_goesOver 117 = .ok (.iastore, 1) := by decide +kernel
theorem dX12_goesOver_118 : decode cX12_goesOver 118 = .ok (.aload_n 0, 1) := by decide +kernel
theorem dX12_goesOver_119 : decode cX12_goesOver 119 = .ok (.getfield 108, 3) := by decide +kernel
theorem dX12_goesOver_122 : decode cX12_goesOver 122 = .ok (.iload_n 1, 1) := by decide +kernel
theorem dX12_goesOver_123 : decode cX12_goesOver 123 = .ok (.iconst 0, 1) := by decide +kernel
theorem dX12_goesOver_124 : decode cX12_goesOver 124 = .ok (.iastore, 1) := by decide +kernel
theorem dX12_goesOver_125 : decode cX12_goesOver 125 = .ok (.aload_n 0, 1) := by decide +kernel
theorem dX12_goesOver_126 : decode cX12_goesOver 126 = .ok (.getfield 114, 3) := by decide +kernel
theorem dX12_goesOver_129 : decode cX12_goesOver 129 = .ok (.iload_n 1, 1) := by decide +kernel
theorem dX12_goesOver_130 : decode cX12_goesOver 130 = .ok (.iload_n 2, 1) := by decide +kernel
theorem dX12_goesOver_131 : decode cX12_goesOver 131 = .ok (.iastore, 1) := by decide +kernel
theorem dX12_goesOver_132 : decode cX12_goesOver 132 = .ok (.aload_n 0, 1) := by decide +kernel
theorem dX12_goesOver_133 : decode cX12_goesOver 133 = .ok (.getfield 120, 3) := by decide +kernel
theorem dX12_goesOver_136 : decode cX12_goesOver 136 = .ok (.iload_n 1, 1) := by decide +kernel
theorem dX12_goesOver_137 : decode cX12_goesOver 137 = .ok (.iconst 0, 1) := by decide +kernel
theorem dX12_goesOver_138 : decode cX12_goesOver 138 = .ok (.iastore, 1) := by decide +kernel
theorem dX12_goesOver_139 : decode cX12_goesOver 139 = .ok (.aload_n 0, 1) := by decide +kernel
theorem dX12_goesOver_140 : decode cX12_goesOver 140 = .ok (.dup, 1) := by decide +kernel
theorem dX12_goesOver_141 : decode cX12_goesOver 141 = .ok (.getfield 333, 3) := by decide +kernel
theorem dX12_goesOver_144 : decode cX12_goesOver 144 = .ok (.iconst 1, 1) := by decide +kernel
theorem dX12_goesOver_145 : decode cX12_goesOver 145 = .ok (.iadd, 1) := by decide +kernel
theorem dX12_goesOver_146 : decode cX12_goesOver 146 = .ok (.putfield 333, 3) := by decide +kernel
theorem dX12_goesOver_149 : decode cX12_goesOver 149 = .ok (.return_, 1) := by decide +kernel
theorem dX12_copies_0 : decode cX12_copies 0 = .ok (.aload_n 0, 1) := by decide +kernel
theorem dX12_copies_1 : decode cX12_copies 1 = .ok (.getfield 93, 3) := by decide +kernel
theorem dX12_copies_4 : decode cX12_copies 4 = .ok (.iload_n 2, 1) := by decide +kernel
theorem dX12_copies_5 : decode cX12_copies 5 = .ok (.iaload, 1) := by decide +kernel
theorem dX12_copies_6 : decode cX12_copies 6 = .ok (.istore_n 3, 1) := by decide +kernel
theorem dX12_copies_7 : decode cX12_copies 7 = .ok (.aload_n 0, 1) := by decide +kernel
theorem dX12_copies_8 : decode cX12_copies 8 = .ok (.getfield 96, 3) := by decide +kernel
theorem dX12_copies_11 : decode cX12_copies 11 = .ok (.iload_n 2, 1) := by decide +kernel
theorem dX12_copies_12 : decode cX12_copies 12 = .ok (.iaload, 1) := by decide +kernel
theorem dX12_copies_13 : decode cX12_copies 13 = .ok (.istore 4, 2) := by decide +kernel
theorem dX12_copies_15 : decode cX12_copies 15 = .ok (.aload_n 0, 1) := by decide +kernel
theorem dX12_copies_16 : decode cX12_copies 16 = .ok (.getfield 99, 3) := by decide +kernel
theorem dX12_copies_19 : decode cX12_copies 19 = .ok (.iload_n 2, 1) := by decide +kernel
theorem dX12_copies_20 : decode cX12_copies 20 = .ok (.iaload, 1) := by decide +kernel
theorem dX12_copies_21 : decode cX12_copies 21 = .ok (.istore 5, 2) := by decide +kernel
theorem dX12_copies_23 : decode cX12_copies 23 = .ok (.aload_n 0, 1) := by decide +kernel
theorem dX12_copies_24 : decode cX12_copies 24 = .ok (.getfield 105, 3) := by decide +kernel
theorem dX12_copies_27 : decode cX12_copies 27 = .ok (.iload_n 2, 1) := by decide +kernel
theorem dX12_copies_28 : decode cX12_copies 28 = .ok (.iaload, 1) := by decide +kernel
theorem dX12_copies_29 : decode cX12_copies 29 = .ok (.istore 6, 2) := by decide +kernel
theorem dX12_copies_31 : decode cX12_copies 31 = .ok (.aload_n 0, 1) := by decide +kernel
theorem dX12_copies_32 : decode cX12_copies 32 = .ok (.iload_n 1, 1) := by decide +kernel
theorem dX12_copies_33 : decode cX12_copies 33 = .ok (.invokevirtual 343, 3) := by decide +kernel
theorem dX12_copies_36 : decode cX12_copies 36 = .ok (.aload_n 0, 1) := by decide +kernel
theorem dX12_copies_37 : decode cX12_copies 37 = .ok (.getfield 93, 3) := by decide +kernel
theorem dX12_copies_40 : decode cX12_copies 40 = .ok (.iload_n 1, 1) := by decide +kernel
theorem dX12_copies_41 : decode cX12_copies 41 = .ok (.iload_n 3, 1) := by decide +kernel
theorem dX12_copies_42 : decode cX12_copies 42 = .ok (.iastore, 1) := by decide +kernel
theorem dX12_copies_43 : decode cX12_copies 43 = .ok (.aload_n 0, 1) := by decide +kernel
theorem dX12_copies_44 : decode cX12_copies 44 = .ok (.getfield 96, 3) := by decide +kernel
theorem dX12_copies_47 : decode cX12_copies 47 = .ok (.iload_n 1, 1) := by decide +kernel
theorem dX12_copies_48 : decode cX12_copies 48 = .ok (.iload 4, 2) := by decide +kernel
theorem dX12_copies_50 : decode cX12_copies 50 = .ok (.iastore, 1) := by decide +kernel
theorem dX12_copies_51 : decode cX12_copies 51 = .ok (.aload_n 0, 1) := by decide +kernel
theorem dX12_copies_52 : decode cX12_copies 52 = .ok (.getfield 105, 3) := by decide +kernel
theorem dX12_copies_55 : decode cX12_copies 55 = .ok (.iload_n 1, 1) := by decide +kernel
theorem dX12_copies_56 : decode cX12_copies 56 = .ok (.aload_n 0, 1) := by decide +kernel
theorem dX12_copies_57 : decode cX12_copies 57 = .ok (.getfield 105, 3) := by decide +kernel
theorem dX12_copies_60 : decode cX12_copies 60 = .ok (.iload_n 1, 1) := by decide +kernel
theorem dX12_copies_61 : decode cX12_copies 61 = .ok (.iaload, 1) := by decide +kernel
theorem dX12_copies_62 : decode cX12_copies 62 = .ok (.iload 6, 2) := by decide +kernel
theorem dX12_copies_64 : decode cX12_copies 64 = .ok (.iadd, 1) := by decide +kernel
theorem dX12_copies_65 : decode cX12_copies 65 = .ok (.bipush 99, 2) := by decide +kernel
theorem dX12_copies_67 : decode cX12_copies 67 = .ok (.if_icmp .le 8, 3) := by decide +kernel
theorem dX12_copies_70 : decode cX12_copies 70 = .ok (.bipush 99, 2) := by decide +kernel
theorem dX12_copies_72 : decode cX12_copies 72 = .ok (.goto 12, 3) := by decide +kernel
theorem dX12_copies_75 : decode cX12_copies 75 = .ok (.aload_n 0, 1) := by decide +kernel
theorem dX12_copies_76 : decode cX12_copies 76 = .ok (.getfield 105, 3) := by decide +kernel
theorem dX12_copies_79 : decode cX12_copies 79 = .ok (.iload_n 1, 1) := by decide +kernel
theorem dX12_copies_80 : decode cX12_copies 80 = .ok (.iaload, 1) := by decide +kernel
theorem dX12_copies_81 : decode cX12_copies 81 = .ok (.iload 6, 2) := by decide +kernel
theorem dX12_copies_83 : decode cX12_copies 83 = .ok (.iadd, 1) := by decide +kernel
theorem dX12_copies_84 : decode cX12_copies 84 = .ok (.iastore, 1) := by decide +kernel
theorem dX12_copies_85 : decode cX12_copies 85 = .ok (.iload 5, 2) := by decide +kernel
theorem dX12_copies_87 : decode cX12_copies 87 = .ok (.iconst (-1), 1) := by decide +kernel
theorem dX12_copies_88 : decode cX12_copies 88 = .ok (.if_icmp .eq 23, 3) := by decide +kernel
theorem dX12_copies_91 : decode cX12_copies 91 = .ok (.aload_n 0, 1) := by decide +kernel
theorem dX12_copies_92 : decode cX12_copies 92 = .ok (.getfield 102, 3) := by decide +kernel
theorem dX12_copies_95 : decode cX12_copies 95 = .ok (.iload_n 1, 1) := by decide +kernel
theorem dX12_copies_96 : decode cX12_copies 96 = .ok (.aload_n 0, 1) := by decide +kernel
theorem dX12_copies_97 : decode cX12_copies 97 = .ok (.getfield 99, 3) := by decide +kernel
theorem dX12_copies_100 : decode cX12_copies 100 = .ok (.iload_n 1, 1) := by decide +kernel
theorem dX12_copies_101 : decode cX12_copies 101 = .ok (.iaload, 1) := by decide +kernel
theorem dX12_copies_102 : decode cX12_copies 102 = .ok (.iastore, 1) := by decide +kernel
theorem dX12_copies_103 : decode cX12_copies 103 = .ok (.aload_n 0, 1) := by decide +kernel
theorem dX12_copies_104 : decode cX12_copies 104 = .ok (.getfield 99, 3) := by decide +kernel
theorem dX12_copies_107 : decode cX12_copies 107 = .ok (.iload_n 1, 1) := by decide +kernel
theorem dX12_copies_108 : decode cX12_copies 108 = .ok (.iload 5, 2) := by decide +kernel
theorem dX12_copies_110 : decode cX12_copies 110 = .ok (.iastore, 1) := by decide +kernel
theorem dX12_copies_111 : decode cX12_copies 111 = .ok (.aload_n 0, 1) := by decide +kernel
theorem dX12_copies_112 : decode cX12_copies 112 = .ok (.getfield 117, 3) := by decide +kernel
theorem dX12_copies_115 : decode cX12_copies 115 = .ok (.iload_n 1, 1) := by decide +kernel
theorem dX12_copies_116 : decode cX12_copies 116 = .ok (.iconst 3, 1) := by decide +kernel
theorem dX12_copies_117 : decode cX12_copies 117 = .ok (.iastore, 1) := by decide +kernel
theorem dX12_copies_118 : decode cX12_copies 118 = .ok (.return_, 1) := by decide +kernel
theorem dX12_passes_0 : decode cX12_passes 0 = .ok (.iload 4, 2) := by decide +kernel
theorem dX12_passes_2 : decode cX12_passes 2 = .ok (.sipush 300, 3) := by decide +kernel
theorem dX12_passes_5 : decode cX12_passes 5 = .ok (.aload_n 0, 1) := by decide +kernel
theorem dX12_passes_6 : decode cX12_passes 6 = .ok (.getfield 346, 3) := by decide +kernel
theorem dX12_passes_9 : decode cX12_passes 9 = .ok (.isub, 1) := by decide +kernel
theorem dX12_passes_10 : decode cX12_passes 10 = .ok (.if_icmp .ge 8, 3) := by decide +kernel
theorem dX12_passes_13 : decode cX12_passes 13 = .ok (.iload 4, 2) := by decide +kernel
theorem dX12_passes_15 : decode cX12_passes 15 = .ok (.goto 11, 3) := by decide +kernel
theorem dX12_passes_18 : decode cX12_passes 18 = .ok (.sipush 300, 3) := by decide +kernel
theorem dX12_passes_21 : decode cX12_passes 21 = .ok (.aload_n 0, 1) := by decide +kernel
theorem dX12_passes_22 : decode cX12_passes 22 = .ok (.getfield 346, 3) := by decide +kernel
theorem dX12_passes_25 : decode cX12_passes 25 = .ok (.isub, 1) := by decide +kernel
theorem dX12_passes_26 : decode cX12_passes 26 = .ok (.istore 5, 2) := by decide +kernel
theorem dX12_passes_28 : decode cX12_passes 28 = .ok (.iload_n 1, 1) := by decide +kernel
theorem dX12_passes_29 : decode cX12_passes 29 = .ok (.bipush 8, 2) := by decide +kernel
theorem dX12_passes_31 : decode cX12_passes 31 = .ok (.if_icmp .ne 20, 3) := by decide +kernel
theorem dX12_passes_34 : decode cX12_passes 34 = .ok (.iload 5, 2) := by decide +kernel
theorem dX12_passes_36 : decode cX12_passes 36 = .ok (.sipush 300, 3) := by decide +kernel
theorem dX12_passes_39 : decode cX12_passes 39 = .ok (.iload_n 3, 1) := by decide +kernel
theorem dX12_passes_40 : decode cX12_passes 40 = .ok (.isub, 1) := by decide +kernel
theorem dX12_passes_41 : decode cX12_passes 41 = .ok (.if_icmp .le 10, 3) := by decide +kernel
theorem dX12_passes_44 : decode cX12_passes 44 = .ok (.sipush 300, 3) := by decide +kernel
theorem dX12_passes_47 : decode cX12_passes 47 = .ok (.iload_n 3, 1) := by decide +kernel
theorem dX12_passes_48 : decode cX12_passes 48 = .ok (.isub, 1) := by decide +kernel
theorem dX12_passes_49 : decode cX12_passes 49 = .ok (.istore 5, 2) := by decide +kernel
theorem dX12_passes_51 : decode cX12_passes 51 = .ok (.sipush 300, 3) := by decide +kernel
theorem dX12_passes_54 : decode cX12_passes 54 = .ok (.iload_n 2, 1) := by decide +kernel
theorem dX12_passes_55 : decode cX12_passes 55 = .ok (.aload_n 0, 1) := by decide +kernel
theorem dX12_passes_56 : decode cX12_passes 56 = .ok (.getfield 348, 3) := by decide +kernel
theorem dX12_passes_59 : decode cX12_passes 59 = .ok (.iadd, 1) := by decide +kernel
theorem dX12_passes_60 : decode cX12_passes 60 = .ok (.imul, 1) := by decide +kernel
theorem dX12_passes_61 : decode cX12_passes 61 = .ok (.istore 6, 2) := by decide +kernel
theorem dX12_passes_63 : decode cX12_passes 63 = .ok (.sipush 300, 3) := by decide +kernel
theorem dX12_passes_66 : decode cX12_passes 66 = .ok (.iload_n 2, 1) := by decide +kernel
theorem dX12_passes_67 : decode cX12_passes 67 = .ok (.iconst 1, 1) := by decide +kernel
theorem dX12_passes_68 : decode cX12_passes 68 = .ok (.iadd, 1) := by decide +kernel
theorem dX12_passes_69 : decode cX12_passes 69 = .ok (.aload_n 0, 1) := by decide +kernel
theorem dX12_passes_70 : decode cX12_passes 70 = .ok (.getfield 348, 3) := by decide +kernel
theorem dX12_passes_73 : decode cX12_passes 73 = .ok (.isub, 1) := by decide +kernel
theorem dX12_passes_74 : decode cX12_passes 74 = .ok (.imul, 1) := by decide +kernel
theorem dX12_passes_75 : decode cX12_passes 75 = .ok (.istore 7, 2) := by decide +kernel
theorem dX12_passes_77 : decode cX12_passes 77 = .ok (.iconst 0, 1) := by decide +kernel
theorem dX12_passes_78 : decode cX12_passes 78 = .ok (.istore 8, 2) := by decide +kernel
theorem dX12_passes_80 : decode cX12_passes 80 = .ok (.iload 8, 2) := by decide +kernel
theorem dX12_passes_82 : decode cX12_passes 82 = .ok (.iload 5, 2) := by decide +kernel
theorem dX12_passes_84 : decode cX12_passes 84 = .ok (.if_icmp .ge 155, 3) := by decide +kernel
theorem dX12_passes_87 : decode cX12_passes 87 = .ok (.iload 6, 2) := by decide +kernel
theorem dX12_passes_89 : decode cX12_passes 89 = .ok (.aload_n 0, 1) := by decide +kernel
theorem dX12_passes_90 : decode cX12_passes 90 = .ok (.getfield 346, 3) := by decide +kernel
theorem dX12_passes_93 : decode cX12_passes 93 = .ok (.iadd, 1) := by decide +kernel
theorem dX12_passes_94 : decode cX12_passes 94 = .ok (.iload 8, 2) := by decide +kernel
theorem dX12_passes_96 : decode cX12_passes 96 = .ok (.iadd, 1) := by decide +kernel
theorem dX12_passes_97 : decode cX12_passes 97 = .ok (.istore 9, 2) := by decide +kernel
theorem dX12_passes_99 : decode cX12_passes 99 = .ok (.iload_n 1, 1) := by decide +kernel
theorem dX12_passes_100 : decode cX12_passes 100 = .ok (.bipush 8, 2) := by decide +kernel
theorem dX12_passes_102 : decode cX12_passes 102 = .ok (.if_icmp .ne 19, 3) := by decide +kernel
theorem dX12_passes_105 : decode cX12_passes 105 = .ok (.aload_n 0, 1) := by decide +kernel
theorem dX12_passes_106 : decode cX12_passes 106 = .ok (.iload 9, 2) := by decide +kernel
theorem dX12_passes_108 : decode cX12_passes 108 = .ok (.iload 7, 2) := by decide +kernel
theorem dX12_passes_110 : decode cX12_passes 110 = .ok (.iload_n 3, 1) := by decide +kernel
theorem dX12_passes_111 : decode cX12_passes 111 = .ok (.iadd, 1) := by decide +kernel
theorem dX12_passes_112 : decode cX12_passes 112 = .ok (.iload 8, 2) := by decide +kernel
theorem dX12_passes_114 : decode cX12_passes 114 = .ok (.iadd, 1) := by decide +kernel
theorem dX12_passes_115 : decode cX12_passes 115 = .ok (.invokevirtual 351, 3) := by decide +kernel
theorem dX12_passes_118 : decode cX12_passes 118 = .ok (.goto 9, 3) := by decide +kernel
theorem dX12_passes_121 : decode cX12_passes 121 = .ok (.aload_n 0, 1) := by decide +kernel
theorem dX12_passes_122 : decode cX12_passes 122 = .ok (.iload 9, 2) := by decide +kernel
theorem dX12_passes_124 : decode cX12_passes 124 = .ok (.invokevirtual 343, 3) := by decide +kernel
theorem dX12_passes_127 : decode cX12_passes 127 = .ok (.iload_n 1, 1) := by decide +kernel
theorem dX12_passes_128 : decode cX12_passes 128 = .ok (.bipush 7, 2) := by decide +kernel
theorem dX12_passes_130 : decode cX12_passes 130 = .ok (.if_icmp .ne 27, 3) := by decide +kernel
theorem dX12_passes_133 : decode cX12_passes 133 = .ok (.aload_n 0, 1) := by decide +kernel
theorem dX12_passes_134 : decode cX12_passes 134 = .ok (.getfield 93, 3) := by decide +kernel
theorem dX12_passes_137 : decode cX12_passes 137 = .ok (.iload 9, 2) := by decide +kernel
theorem dX12_passes_139 : decode cX12_passes 139 = .ok (.iconst 0, 1) := by decide +kernel
theorem dX12_passes_140 : decode cX12_passes 140 = .ok (.iastore, 1) := by decide +kernel
theorem dX12_passes_141 : decode cX12_passes 141 = .ok (.aload_n 0, 1) := by decide +kernel
theorem dX12_passes_142 : decode cX12_passes 142 = .ok (.getfield 96, 3) := by decide +kernel
theorem dX12_passes_145 : decode cX12_passes 145 = .ok (.iload 9, 2) := by decide +kernel
theorem dX12_passes_147 : decode cX12_passes 147 = .ok (.iconst (-1), 1) := by decide +kernel
theorem dX12_passes_148 : decode cX12_passes 148 = .ok (.iastore, 1) := by decide +kernel
theorem dX12_passes_149 : decode cX12_passes 149 = .ok (.aload_n 0, 1) := by decide +kernel
theorem dX12_passes_150 : decode cX12_passes 150 = .ok (.getfield 117, 3) := by decide +kernel
theorem dX12_passes_153 : decode cX12_passes 153 = .ok (.iload 9, 2) := by decide +kernel
theorem dX12_passes_155 : decode cX12_passes 155 = .ok (.iconst 1, 1) := by decide +kernel
theorem dX12_passes_156 : decode cX12_passes 156 = .ok (.iastore, 1) := by decide +kernel
theorem dX12_passes_157 : decode cX12_passes 157 = .ok (.iload 8, 2) := by decide +kernel
theorem dX12_passes_159 : decode cX12_passes 159 = .ok (.ifCond .ne 34, 3) := by decide +kernel
theorem dX12_passes_162 : decode cX12_passes 162 = .ok (.aload_n 0, 1) := by decide +kernel
theorem dX12_passes_163 : decode cX12_passes 163 = .ok (.getfield 108, 3) := by decide +kernel
theorem dX12_passes_166 : decode cX12_passes 166 = .ok (.iload 9, 2) := by decide +kernel
theorem dX12_passes_168 : decode cX12_passes 168 = .ok (.aload_n 0, 1) := by decide +kernel
theorem dX12_passes_169 : decode cX12_passes 169 = .ok (.getfield 30, 3) := by decide +kernel
theorem dX12_passes_172 : decode cX12_passes 172 = .ok (.bipush 8, 2) := by decide +kernel
theorem dX12_passes_174 : decode cX12_passes 174 = .ok (.aload_n 0, 1) := by decide +kernel
theorem dX12_passes_175 : decode cX12_passes 175 = .ok (.getfield 330, 3) := by decide +kernel
theorem dX12_passes_178 : decode cX12_passes 178 = .ok (.imul, 1) := by decide +kernel
theorem dX12_passes_179 : decode cX12_passes 179 = .ok (.iload_n 1, 1) := by decide +kernel
theorem dX12_passes_180 : decode cX12_passes 180 = .ok (.bipush 7, 2) := by decide +kernel
theorem dX12_passes_182 : decode cX12_passes 182 = .ok (.if_icmp .ne 7, 3) := by decide +kernel
theorem dX12_passes_185 : decode cX12_passes 185 = .ok (.iconst 2, 1) := by decide +kernel
theorem dX12_passes_186 : decode cX12_passes 186 = .ok (.goto 4, 3) := by decide +kernel
theorem dX12_passes_189 : decode cX12_passes 189 = .ok (.iconst 0, 1) := by decide +kernel
theorem dX12_passes_190 : decode cX12_passes 190 = .ok (.iadd, 1) := by decide +kernel
theorem dX12_passes_191 : decode cX12_passes 191 = .ok (.iaload, 1) := by decide +kernel
theorem dX12_passes_192 : decode cX12_passes 192 = .ok (.iastore, 1) := by decide +kernel
theorem dX12_passes_193 : decode cX12_passes 193 = .ok (.iload 8, 2) := by decide +kernel
theorem dX12_passes_195 : decode cX12_passes 195 = .ok (.iload 5, 2) := by decide +kernel
theorem dX12_passes_197 : decode cX12_passes 197 = .ok (.iconst 1, 1) := by decide +kernel
theorem dX12_passes_198 : decode cX12_passes 198 = .ok (.isub, 1) := by decide +kernel
theorem dX12_passes_199 : decode cX12_passes 199 = .ok (.if_icmp .ne 34, 3) := by decide +kernel
theorem dX12_passes_202 : decode cX12_passes 202 = .ok (.aload_n 0, 1) := by decide +kernel
theorem dX12_passes_203 : decode cX12_passes 203 = .ok (.getfield 108, 3) := by decide +kernel
theorem dX12_passes_206 : decode cX12_passes 206 = .ok (.iload 9, 2) := by decide +kernel
theorem dX12_passes_208 : decode cX12_passes 208 = .ok (.aload_n 0, 1) := by decide +kernel
theorem dX12_passes_209 : decode cX12_passes 209 = .ok (.getfield 30, 3) := by decide +kernel
theorem dX12_passes_212 : decode cX12_passes 212 = .ok (.bipush 8, 2) := by decide +kernel
theorem dX12_passes_214 : decode cX12_passes 214 = .ok (.aload_n 0, 1) := by decide +kernel
theorem dX12_passes_215 : decode cX12_passes 215 = .ok (.getfield 330, 3) := by decide +kernel
theorem dX12_passes_218 : decode cX12_passes 218 = .ok (.imul, 1) := by decide +kernel
theorem dX12_passes_219 : decode cX12_passes 219 = .ok (.iload_n 1, 1) := by decide +kernel
theorem dX12_passes_220 : decode cX12_passes 220 = .ok (.bipush 7, 2) := by decide +kernel
theorem dX12_passes_222 : decode cX12_passes 222 = .ok (.if_icmp .ne 7, 3) := by decide +kernel
theorem dX12_passes_225 : decode cX12_passes 225 = .ok (.iconst 3, 1) := by decide +kernel
theorem dX12_passes_226 : decode cX12_passes 226 = .ok (.goto 4, 3) := by decide +kernel
theorem dX12_passes_229 : decode cX12_passes 229 = .ok (.iconst 1, 1) := by decide +kernel
theorem dX12_passes_230 : decode cX12_passes 230 = .ok (.iadd, 1) := by decide +kernel
theorem dX12_passes_231 : decode cX12_passes 231 = .ok (.iaload, 1) := by decide +kernel
theorem dX12_passes_232 : decode cX12_passes 232 = .ok (.iastore, 1) := by decide +kernel
theorem dX12_passes_233 : decode cX12_passes 233 = .ok (.iinc 8 1, 3) := by decide +kernel
theorem dX12_passes_236 : decode cX12_passes 236 = .ok (.goto (-156), 3) := by decide +kernel
theorem dX12_passes_239 : decode cX12_passes 239 = .ok (.aload_n 0, 1) := by decide +kernel
theorem dX12_passes_240 : decode cX12_passes 240 = .ok (.dup, 1) := by decide +kernel
theorem dX12_passes_241 : decode cX12_passes 241 = .ok (.getfield 346, 3) := by decide +kernel
theorem dX12_passes_244 : decode cX12_passes 244 = .ok (.iload 5, 2) := by decide +kernel
theorem dX12_passes_246 : decode cX12_passes 246 = .ok (.iadd, 1) := by decide +kernel
theorem dX12_passes_247 : decode cX12_passes 247 = .ok (.putfield 346, 3) := by decide +kernel
theorem dX12_passes_250 : decode cX12_passes 250 = .ok (.return_, 1) := by decide +kernel
theorem dX12_cuts_0 : decode cX12_cuts 0 = .ok (.iload_n 2, 1) := by decide +kernel
theorem dX12_cuts_1 : decode cX12_cuts 1 = .ok (.sipush 300, 3) := by decide +kernel
theorem dX12_cuts_4 : decode cX12_cuts 4 = .ok (.aload_n 0, 1) := by decide +kernel
theorem dX12_cuts_5 : decode cX12_cuts 5 = .ok (.getfield 346, 3) := by decide +kernel
theorem dX12_cuts_8 : decode cX12_cuts 8 = .ok (.isub, 1) := by decide +kernel
theorem dX12_cuts_9 : decode cX12_cuts 9 = .ok (.if_icmp .ge 7, 3) := by decide +kernel
theorem dX12_cuts_12 : decode cX12_cuts 12 = .ok (.iload_n 2, 1) := by decide +kernel
theorem dX12_cuts_13 : decode cX12_cuts 13 = .ok (.goto 11, 3) := by decide +kernel
theorem dX12_cuts_16 : decode cX12_cuts 16 = .ok (.sipush 300, 3) := by decide +kernel
theorem dX12_cuts_19 : decode cX12_cuts 19 = .ok (.aload_n 0, 1) := by decide +kernel
theorem dX12_cuts_20 : decode cX12_cuts 20 = .ok (.getfield 346, 3) := by decide +kernel
theorem dX12_cuts_23 : decode cX12_cuts 23 = .ok (.isub, 1) := by decide +kernel
theorem dX12_cuts_24 : decode cX12_cuts 24 = .ok (.istore_n 3, 1) := by decide +kernel
theorem dX12_cuts_25 : decode cX12_cuts 25 = .ok (.iload_n 3, 1) := by decide +kernel
theorem dX12_cuts_26 : decode cX12_cuts 26 = .ok (.iconst 1, 1) := by decide +kernel
theorem dX12_cuts_27 : decode cX12_cuts 27 = .ok (.if_icmp .ge 4, 3) := by decide +kernel
theorem dX12_cuts_30 : decode cX12_cuts 30 = .ok (.return_, 1) := by decide +kernel
theorem dX12_cuts_31 : decode cX12_cuts 31 = .ok (.sipush 300, 3) := by decide +kernel
theorem dX12_cuts_34 : decode cX12_cuts 34 = .ok (.iload_n 1, 1) := by decide +kernel
theorem dX12_cuts_35 : decode cX12_cuts 35 = .ok (.aload_n 0, 1) := by decide +kernel
theorem dX12_cuts_36 : decode cX12_cuts 36 = .ok (.getfield 348, 3) := by decide +kernel
theorem dX12_cuts_39 : decode cX12_cuts 39 = .ok (.iadd, 1) := by decide +kernel
theorem dX12_cuts_40 : decode cX12_cuts 40 = .ok (.imul, 1) := by decide +kernel
theorem dX12_cuts_41 : decode cX12_cuts 41 = .ok (.istore 4, 2) := by decide +kernel
theorem dX12_cuts_43 : decode cX12_cuts 43 = .ok (.aload_n 0, 1) := by decide +kernel
theorem dX12_cuts_44 : decode cX12_cuts 44 = .ok (.getfield 346, 3) := by decide +kernel
theorem dX12_cuts_47 : decode cX12_cuts 47 = .ok (.istore 5, 2) := by decide +kernel
theorem dX12_cuts_49 : decode cX12_cuts 49 = .ok (.iload 5, 2) := by decide +kernel
theorem dX12_cuts_51 : decode cX12_cuts 51 = .ok (.sipush 300, 3) := by decide +kernel
theorem dX12_cuts_54 : decode cX12_cuts 54 = .ok (.if_icmp .ge 47, 3) := by decide +kernel
theorem dX12_cuts_57 : decode cX12_cuts 57 = .ok (.iload 5, 2) := by decide +kernel
theorem dX12_cuts_59 : decode cX12_cuts 59 = .ok (.iload_n 3, 1) := by decide +kernel
theorem dX12_cuts_60 : decode cX12_cuts 60 = .ok (.iadd, 1) := by decide +kernel
theorem dX12_cuts_61 : decode cX12_cuts 61 = .ok (.sipush 300, 3) := by decide +kernel
theorem dX12_cuts_64 : decode cX12_cuts 64 = .ok (.if_icmp .ge 22, 3) := by decide +kernel
theorem dX12_cuts_67 : decode cX12_cuts 67 = .ok (.aload_n 0, 1) := by decide +kernel
theorem dX12_cuts_68 : decode cX12_cuts 68 = .ok (.iload 4, 2) := by decide +kernel
theorem dX12_cuts_70 : decode cX12_cuts 70 = .ok (.iload 5, 2) := by decide +kernel
theorem dX12_cuts_72 : decode cX12_cuts 72 = .ok (.iadd, 1) := by decide +kernel
theorem dX12_cuts_73 : decode cX12_cuts 73 = .ok (.iload_n 3, 1) := by decide +kernel
theorem dX12_cuts_74 : decode cX12_cuts 74 = .ok (.iadd, 1) := by decide +kernel
theorem dX12_cuts_75 : decode cX12_cuts 75 = .ok (.iload 4, 2) := by decide +kernel
theorem dX12_cuts_77 : decode cX12_cuts 77 = .ok (.iload 5, 2) := by decide +kernel
theorem dX12_cuts_79 : decode cX12_cuts 79 = .ok (.iadd, 1) := by decide +kernel
theorem dX12_cuts_80 : decode cX12_cuts 80 = .ok (.invokevirtual 354, 3) := by decide +kernel
theorem dX12_cuts_83 : decode cX12_cuts 83 = .ok (.goto 12, 3) := by decide +kernel
theorem dX12_cuts_86 : decode cX12_cuts 86 = .ok (.aload_n 0, 1) := by decide +kernel
theorem dX12_cuts_87 : decode cX12_cuts 87 = .ok (.iload 4, 2) := by decide +kernel
theorem dX12_cuts_89 : decode cX12_cuts 89 = .ok (.iload 5, 2) := by decide +kernel
theorem dX12_cuts_91 : decode cX12_cuts 91 = .ok (.iadd, 1) := by decide +kernel
theorem dX12_cuts_92 : decode cX12_cuts 92 = .ok (.invokevirtual 327, 3) := by decide +kernel
theorem dX12_cuts_95 : decode cX12_cuts 95 = .ok (.iinc 5 1, 3) := by decide +kernel
theorem dX12_cuts_98 : decode cX12_cuts 98 = .ok (.goto (-49), 3) := by decide +kernel
theorem dX12_cuts_101 : decode cX12_cuts 101 = .ok (.aload_n 0, 1) := by decide +kernel
theorem dX12_cuts_102 : decode cX12_cuts 102 = .ok (.getfield 114, 3) := by decide +kernel
theorem dX12_cuts_105 : decode cX12_cuts 105 = .ok (.iload 4, 2) := by decide +kernel
theorem dX12_cuts_107 : decode cX12_cuts 107 = .ok (.aload_n 0, 1) := by decide +kernel
theorem dX12_cuts_108 : decode cX12_cuts 108 = .ok (.getfield 346, 3) := by decide +kernel
theorem dX12_cuts_111 : decode cX12_cuts 111 = .ok (.iadd, 1) := by decide +kernel
theorem dX12_cuts_112 : decode cX12_cuts 112 = .ok (.iaload, 1) := by decide +kernel
theorem dX12_cuts_113 : decode cX12_cuts 113 = .ok (.ifCond .le 16, 3) := by decide +kernel
theorem dX12_cuts_116 : decode cX12_cuts 116 = .ok (.aload_n 0, 1) := by decide +kernel
theorem dX12_cuts_117 : decode cX12_cuts 117 = .ok (.getfield 120, 3) := by decide +kernel
theorem dX12_cuts_120 : decode cX12_cuts 120 = .ok (.iload 4, 2) := by decide +kernel
theorem dX12_cuts_122 : decode cX12_cuts 122 = .ok (.aload_n 0, 1) := by decide +kernel
theorem dX12_cuts_123 : decode cX12_cuts 123 = .ok (.getfield 346, 3) := by decide +kernel
theorem dX12_cuts_126 : decode cX12_cuts 126 = .ok (.iadd, 1) := by decide +kernel
theorem dX12_cuts_127 : decode cX12_cuts 127 = .ok (.iconst 1, 1) := by decide +kernel
theorem dX12_cuts_128 : decode cX12_cuts 128 = .ok (.iastore, 1) := by decide +kernel
theorem dX12_cuts_129 : decode cX12_cuts 129 = .ok (.return_, 1) := by decide +kernel
theorem dX12_runs_0 : decode cX12_runs 0 = .ok (.aload_n 0, 1) := by decide +kernel
theorem dX12_runs_1 : decode cX12_runs 1 = .ok (.iload_n 2, 1) := by decide +kernel
theorem dX12_runs_2 : decode cX12_runs 2 = .ok (.invokevirtual 138, 3) := by decide +kernel
theorem dX12_runs_5 : decode cX12_runs 5 = .ok (.aload_n 0, 1) := by decide +kernel
theorem dX12_runs_6 : decode cX12_runs 6 = .ok (.iload_n 2, 1) := by decide +kernel
theorem dX12_runs_7 : decode cX12_runs 7 = .ok (.iconst 1, 1) := by decide +kernel
theorem dX12_runs_8 : decode cX12_runs 8 = .ok (.iadd, 1) := by decide +kernel
theorem dX12_runs_9 : decode cX12_runs 9 = .ok (.invokevirtual 138, 3) := by decide +kernel
theorem dX12_runs_12 : decode cX12_runs 12 = .ok (.aload_n 0, 1) := by decide +kernel
theorem dX12_runs_13 : decode cX12_runs 13 = .ok (.iconst 0, 1) := by decide +kernel
theorem dX12_runs_14 : decode cX12_runs 14 = .ok (.putfield 330, 3) := by decide +kernel
theorem dX12_runs_17 : decode cX12_runs 17 = .ok (.aload_n 0, 1) := by decide +kernel
theorem dX12_runs_18 : decode cX12_runs 18 = .ok (.iconst 0, 1) := by decide +kernel
theorem dX12_runs_19 : decode cX12_runs 19 = .ok (.putfield 348, 3) := by decide +kernel
theorem dX12_runs_22 : decode cX12_runs 22 = .ok (.aload_n 0, 1) := by decide +kernel
theorem dX12_runs_23 : decode cX12_runs 23 = .ok (.iconst 0, 1) := by decide +kernel
theorem dX12_runs_24 : decode cX12_runs 24 = .ok (.putfield 346, 3) := by decide +kernel
theorem dX12_runs_27 : decode cX12_runs 27 = .ok (.aload_n 0, 1) := by decide +kernel
theorem dX12_runs_28 : decode cX12_runs 28 = .ok (.iconst 0, 1) := by decide +kernel
theorem dX12_runs_29 : decode cX12_runs 29 = .ok (.putfield 338, 3) := by decide +kernel
theorem dX12_runs_32 : decode cX12_runs 32 = .ok (.aload_n 0, 1) := by decide +kernel
theorem dX12_runs_33 : decode cX12_runs 33 = .ok (.iconst 0, 1) := by decide +kernel
theorem dX12_runs_34 : decode cX12_runs 34 = .ok (.putfield 333, 3) := by decide +kernel
theorem dX12_runs_37 : decode cX12_runs 37 = .ok (.aload_n 0, 1) := by decide +kernel
theorem dX12_runs_38 : decode cX12_runs 38 = .ok (.iconst 1, 1) := by decide +kernel
theorem dX12_runs_39 : decode cX12_runs 39 = .ok (.putfield 336, 3) := by decide +kernel
theorem dX12_runs_42 : decode cX12_runs 42 = .ok (.iconst 0, 1) := by decide +kernel
theorem dX12_runs_43 : decode cX12_runs 43 = .ok (.istore_n 3, 1) := by decide +kernel
theorem dX12_runs_44 : decode cX12_runs 44 = .ok (.iload_n 3, 1) := by decide +kernel
theorem dX12_runs_45 : decode cX12_runs 45 = .ok (.aload_n 0, 1) := by decide +kernel
theorem dX12_runs_46 : decode cX12_runs 46 = .ok (.getfield 48, 3) := by decide +kernel
theorem dX12_runs_49 : decode cX12_runs 49 = .ok (.iload_n 1, 1) := by decide +kernel
theorem dX12_runs_50 : decode cX12_runs 50 = .ok (.iaload, 1) := by decide +kernel
theorem dX12_runs_51 : decode cX12_runs 51 = .ok (.if_icmp .ge 193, 3) := by decide +kernel
theorem dX12_runs_54 : decode cX12_runs 54 = .ok (.aload_n 0, 1) := by decide +kernel
theorem dX12_runs_55 : decode cX12_runs 55 = .ok (.getfield 42, 3) := by decide +kernel
theorem dX12_runs_58 : decode cX12_runs 58 = .ok (.bipush 40, 2) := by decide +kernel
theorem dX12_runs_60 : decode cX12_runs 60 = .ok (.iload_n 1, 1) := by decide +kernel
theorem dX12_runs_61 : decode cX12_runs 61 = .ok (.imul, 1) := by decide +kernel
theorem dX12_runs_62 : decode cX12_runs 62 = .ok (.iload_n 3, 1) := by decide +kernel
theorem dX12_runs_63 : decode cX12_runs 63 = .ok (.iadd, 1) := by decide +kernel
theorem dX12_runs_64 : decode cX12_runs 64 = .ok (.iaload, 1) := by decide +kernel
theorem dX12_runs_65 : decode cX12_runs 65 = .ok (.istore 4, 2) := by decide +kernel
theorem dX12_runs_67 : decode cX12_runs 67 = .ok (.aload_n 0, 1) := by decide +kernel
theorem dX12_runs_68 : decode cX12_runs 68 = .ok (.getfield 39, 3) := by decide +kernel
theorem dX12_runs_71 : decode cX12_runs 71 = .ok (.bipush 40, 2) := by decide +kernel
theorem dX12_runs_73 : decode cX12_runs 73 = .ok (.iload_n 1, 1) := by decide +kernel
theorem dX12_runs_74 : decode cX12_runs 74 = .ok (.imul, 1) := by decide +kernel
theorem dX12_runs_75 : decode cX12_runs 75 = .ok (.iload_n 3, 1) := by decide +kernel
theorem dX12_runs_76 : decode cX12_runs 76 = .ok (.iadd, 1) := by decide +kernel
theorem dX12_runs_77 : decode cX12_runs 77 = .ok (.iaload, 1) := by decide +kernel
theorem dX12_runs_78 : decode cX12_runs 78 = .ok (.tableswitch 141 0 9 #[54, 63, 72, 81, 90, 99, 141, 141, 108, 131], 54) := by decide +kernel
theorem dX12_runs_132 : decode cX12_runs 132 = .ok (.aload_n 0, 1) := by decide +kernel
theorem dX12_runs_133 : decode cX12_runs 133 = .ok (.iload 4, 2) := by decide +kernel
theorem dX12_runs_135 : decode cX12_runs 135 = .ok (.putfield 330, 3) := by decide +kernel
theorem dX12_runs_138 : decode cX12_runs 138 = .ok (.goto 100, 3) := by decide +kernel
theorem dX12_runs_141 : decode cX12_runs 141 = .ok (.aload_n 0, 1) := by decide +kernel
theorem dX12_runs_142 : decode cX12_runs 142 = .ok (.iload 4, 2) := by decide +kernel
theorem dX12_runs_144 : decode cX12_runs 144 = .ok (.putfield 348, 3) := by decide +kernel
theorem dX12_runs_147 : decode cX12_runs 147 = .ok (.goto 91, 3) := by decide +kernel
theorem dX12_runs_150 : decode cX12_runs 150 = .ok (.aload_n 0, 1) := by decide +kernel
theorem dX12_runs_151 : decode cX12_runs 151 = .ok (.iload 4, 2) := by decide +kernel
theorem dX12_runs_153 : decode cX12_runs 153 = .ok (.putfield 346, 3) := by decide +kernel
theorem dX12_runs_156 : decode cX12_runs 156 = .ok (.goto 82, 3) := by decide +kernel
theorem dX12_runs_159 : decode cX12_runs 159 = .ok (.aload_n 0, 1) := by decide +kernel
theorem dX12_runs_160 : decode cX12_runs 160 = .ok (.iload 4, 2) := by decide +kernel
theorem dX12_runs_162 : decode cX12_runs 162 = .ok (.putfield 338, 3) := by decide +kernel
theorem dX12_runs_165 : decode cX12_runs 165 = .ok (.goto 73, 3) := by decide +kernel
theorem dX12_runs_168 : decode cX12_runs 168 = .ok (.aload_n 0, 1) := by decide +kernel
theorem dX12_runs_169 : decode cX12_runs 169 = .ok (.iload 4, 2) := by decide +kernel
theorem dX12_runs_171 : decode cX12_runs 171 = .ok (.putfield 333, 3) := by decide +kernel
theorem dX12_runs_174 : decode cX12_runs 174 = .ok (.goto 64, 3) := by decide +kernel
theorem dX12_runs_177 : decode cX12_runs 177 = .ok (.aload_n 0, 1) := by decide +kernel
theorem dX12_runs_178 : decode cX12_runs 178 = .ok (.iload 4, 2) := by decide +kernel
theorem dX12_runs_180 : decode cX12_runs 180 = .ok (.putfield 336, 3) := by decide +kernel
theorem dX12_runs_183 : decode cX12_runs 183 = .ok (.goto 55, 3) := by decide +kernel
theorem dX12_runs_186 : decode cX12_runs 186 = .ok (.aload_n 0, 1) := by decide +kernel
theorem dX12_runs_187 : decode cX12_runs 187 = .ok (.bipush 8, 2) := by decide +kernel
theorem dX12_runs_189 : decode cX12_runs 189 = .ok (.iload_n 2, 1) := by decide +kernel
theorem dX12_runs_190 : decode cX12_runs 190 = .ok (.iload 4, 2) := by decide +kernel
theorem dX12_runs_192 : decode cX12_runs 192 = .ok (.aload_n 0, 1) := by decide +kernel
theorem dX12_runs_193 : decode cX12_runs 193 = .ok (.getfield 45, 3) := by decide +kernel
theorem dX12_runs_196 : decode cX12_runs 196 = .ok (.bipush 40, 2) := by decide +kernel
theorem dX12_runs_198 : decode cX12_runs 198 = .ok (.iload_n 1, 1) := by decide +kernel
theorem dX12_runs_199 : decode cX12_runs 199 = .ok (.imul, 1) := by decide +kernel
theorem dX12_runs_200 : decode cX12_runs 200 = .ok (.iload_n 3, 1) := by decide +kernel
theorem dX12_runs_201 : decode cX12_runs 201 = .ok (.iadd, 1) := by decide +kernel
theorem dX12_runs_202 : decode cX12_runs 202 = .ok (.iaload, 1) := by decide +kernel
theorem dX12_runs_203 : decode cX12_runs 203 = .ok (.invokevirtual 357, 3) := by decide +kernel
theorem dX12_runs_206 : decode cX12_runs 206 = .ok (.goto 32, 3) := by decide +kernel
theorem dX12_runs_209 : decode cX12_runs 209 = .ok (.aload_n 0, 1) := by decide +kernel
theorem dX12_runs_210 : decode cX12_runs 210 = .ok (.iload_n 2, 1) := by decide +kernel
theorem dX12_runs_211 : decode cX12_runs 211 = .ok (.iload 4, 2) := by decide +kernel
theorem dX12_runs_213 : decode cX12_runs 213 = .ok (.invokevirtual 361, 3) := by decide +kernel
theorem dX12_runs_216 : decode cX12_runs 216 = .ok (.goto 22, 3) := by decide +kernel
theorem dX12_runs_219 : decode cX12_runs 219 = .ok (.aload_n 0, 1) := by decide +kernel
theorem dX12_runs_220 : decode cX12_runs 220 = .ok (.aload_n 0, 1) := by decide +kernel
theorem dX12_runs_221 : decode cX12_runs 221 = .ok (.getfield 39, 3) := by decide +kernel
theorem dX12_runs_224 : decode cX12_runs 224 = .ok (.bipush 40, 2) := by decide +kernel
theorem dX12_runs_226 : decode cX12_runs 226 = .ok (.iload_n 1, 1) := by decide +kernel
theorem dX12_runs_227 : decode cX12_runs 227 = .ok (.imul, 1) := by decide +kernel
theorem dX12_runs_228 : decode cX12_runs 228 = .ok (.iload_n 3, 1) := by decide +kernel
theorem dX12_runs_229 : decode cX12_runs 229 = .ok (.iadd, 1) := by decide +kernel
theorem dX12_runs_230 : decode cX12_runs 230 = .ok (.iaload, 1) := by decide +kernel
theorem dX12_runs_231 : decode cX12_runs 231 = .ok (.iload_n 2, 1) := by decide +kernel
theorem dX12_runs_232 : decode cX12_runs 232 = .ok (.iconst 0, 1) := by decide +kernel
theorem dX12_runs_233 : decode cX12_runs 233 = .ok (.iload 4, 2) := by decide +kernel
theorem dX12_runs_235 : decode cX12_runs 235 = .ok (.invokevirtual 357, 3) := by decide +kernel
theorem dX12_runs_238 : decode cX12_runs 238 = .ok (.iinc 3 1, 3) := by decide +kernel
theorem dX12_runs_241 : decode cX12_runs 241 = .ok (.goto (-197), 3) := by decide +kernel
theorem dX12_runs_244 : decode cX12_runs 244 = .ok (.return_, 1) := by decide +kernel
theorem dX12_notBlank_0 : decode cX12_notBlank 0 = .ok (.iconst 0, 1) := by decide +kernel
theorem dX12_notBlank_1 : decode cX12_notBlank 1 = .ok (.istore_n 2, 1) := by decide +kernel
theorem dX12_notBlank_2 : decode cX12_notBlank 2 = .ok (.iconst 0, 1) := by decide +kernel
theorem dX12_notBlank_3 : decode cX12_notBlank 3 = .ok (.istore_n 3, 1) := by decide +kernel
theorem dX12_notBlank_4 : decode cX12_notBlank 4 = .ok (.iload_n 3, 1) := by decide +kernel
theorem dX12_notBlank_5 : decode cX12_notBlank 5 = .ok (.sipush 300, 3) := by decide +kernel
theorem dX12_notBlank_8 : decode cX12_notBlank 8 = .ok (.if_icmp .ge 32, 3) := by decide +kernel
theorem dX12_notBlank_11 : decode cX12_notBlank 11 = .ok (.iload_n 2, 1) := by decide +kernel
theorem dX12_notBlank_12 : decode cX12_notBlank 12 = .ok (.aload_n 0, 1) := by decide +kernel
theorem dX12_notBlank_13 : decode cX12_notBlank 13 = .ok (.getfield 114, 3) := by decide +kernel
theorem dX12_notBlank_16 : decode cX12_notBlank 16 = .ok (.sipush 300, 3) := by decide +kernel
theorem dX12_notBlank_19 : decode cX12_notBlank 19 = .ok (.iload_n 1, 1) := by decide +kernel
theorem dX12_notBlank_20 : decode cX12_notBlank 20 = .ok (.imul, 1) := by decide +kernel
theorem dX12_notBlank_21 : decode cX12_notBlank 21 = .ok (.iload_n 3, 1) := by decide +kernel
theorem dX12_notBlank_22 : decode cX12_notBlank 22 = .ok (.iadd, 1) := by decide +kernel
theorem dX12_notBlank_23 : decode cX12_notBlank 23 = .ok (.iaload, 1) := by decide +kernel
theorem dX12_notBlank_24 : decode cX12_notBlank 24 = .ok (.ifCond .le 7, 3) := by decide +kernel
theorem dX12_notBlank_27 : decode cX12_notBlank 27 = .ok (.iconst 1, 1) := by decide +kernel
theorem dX12_notBlank_28 : decode cX12_notBlank 28 = .ok (.goto 4, 3) := by decide +kernel
theorem dX12_notBlank_31 : decode cX12_notBlank 31 = .ok (.iconst 0, 1) := by decide +kernel
theorem dX12_notBlank_32 : decode cX12_notBlank 32 = .ok (.iadd, 1) := by decide +kernel
theorem dX12_notBlank_33 : decode cX12_notBlank 33 = .ok (.istore_n 2, 1) := by decide +kernel
theorem dX12_notBlank_34 : decode cX12_notBlank 34 = .ok (.iinc 3 1, 3) := by decide +kernel
theorem dX12_notBlank_37 : decode cX12_notBlank 37 = .ok (.goto (-33), 3) := by decide +kernel
theorem dX12_notBlank_40 : decode cX12_notBlank 40 = .ok (.iload_n 2, 1) := by decide +kernel
theorem dX12_notBlank_41 : decode cX12_notBlank 41 = .ok (.ireturn, 1) := by decide +kernel
theorem dX12_run_0 : decode cX12_run 0 = .ok (.iload_n 1, 1) := by decide +kernel
theorem dX12_run_1 : decode cX12_run 1 = .ok (.iconst 0, 1) := by decide +kernel
theorem dX12_run_2 : decode cX12_run 2 = .ok (.iconst 5, 1) := by decide +kernel
theorem dX12_run_3 : decode cX12_run 3 = .ok (.invokestatic 9, 3) := by decide +kernel
theorem dX12_run_6 : decode cX12_run 6 = .ok (.ifCond .ne 5, 3) := by decide +kernel
theorem dX12_run_9 : decode cX12_run 9 = .ok (.iconst (-1), 1) := by decide +kernel
theorem dX12_run_10 : decode cX12_run 10 = .ok (.ireturn, 1) := by decide +kernel
theorem dX12_run_11 : decode cX12_run 11 = .ok (.aload_n 0, 1) := by decide +kernel
theorem dX12_run_12 : decode cX12_run 12 = .ok (.iload_n 1, 1) := by decide +kernel
theorem dX12_run_13 : decode cX12_run 13 = .ok (.iconst 0, 1) := by decide +kernel
theorem dX12_run_14 : decode cX12_run 14 = .ok (.invokevirtual 364, 3) := by decide +kernel
theorem dX12_run_17 : decode cX12_run 17 = .ok (.aload_n 0, 1) := by decide +kernel
theorem dX12_run_18 : decode cX12_run 18 = .ok (.iload_n 1, 1) := by decide +kernel
theorem dX12_run_19 : decode cX12_run 19 = .ok (.putfield 123, 3) := by decide +kernel
theorem dX12_run_22 : decode cX12_run 22 = .ok (.aload_n 0, 1) := by decide +kernel
theorem dX12_run_23 : decode cX12_run 23 = .ok (.iconst 0, 1) := by decide +kernel
theorem dX12_run_24 : decode cX12_run 24 = .ok (.invokevirtual 367, 3) := by decide +kernel
theorem dX12_run_27 : decode cX12_run 27 = .ok (.aload_n 0, 1) := by decide +kernel
theorem dX12_run_28 : decode cX12_run 28 = .ok (.iconst 1, 1) := by decide +kernel
theorem dX12_run_29 : decode cX12_run 29 = .ok (.invokevirtual 367, 3) := by decide +kernel
theorem dX12_run_32 : decode cX12_run 32 = .ok (.iadd, 1) := by decide +kernel
theorem dX12_run_33 : decode cX12_run 33 = .ok (.ireturn, 1) := by decide +kernel
theorem dX12_isPlace_0 : decode cX12_isPlace 0 = .ok (.iload_n 0, 1) := by decide +kernel
theorem dX12_isPlace_1 : decode cX12_isPlace 1 = .ok (.iconst 0, 1) := by decide +kernel
theorem dX12_isPlace_2 : decode cX12_isPlace 2 = .ok (.iconst 1, 1) := by decide +kernel
theorem dX12_isPlace_3 : decode cX12_isPlace 3 = .ok (.invokestatic 9, 3) := by decide +kernel
theorem dX12_isPlace_6 : decode cX12_isPlace 6 = .ok (.ifCond .eq 18, 3) := by decide +kernel
theorem dX12_isPlace_9 : decode cX12_isPlace 9 = .ok (.iload_n 1, 1) := by decide +kernel
theorem dX12_isPlace_10 : decode cX12_isPlace 10 = .ok (.iconst 0, 1) := by decide +kernel
theorem dX12_isPlace_11 : decode cX12_isPlace 11 = .ok (.sipush 299, 3) := by decide +kernel
theorem dX12_isPlace_14 : decode cX12_isPlace 14 = .ok (.invokestatic 9, 3) := by decide +kernel
theorem dX12_isPlace_17 : decode cX12_isPlace 17 = .ok (.ifCond .eq 7, 3) := by decide +kernel
theorem dX12_isPlace_20 : decode cX12_isPlace 20 = .ok (.iconst 1, 1) := by decide +kernel
theorem dX12_isPlace_21 : decode cX12_isPlace 21 = .ok (.goto 4, 3) := by decide +kernel
theorem dX12_isPlace_24 : decode cX12_isPlace 24 = .ok (.iconst 0, 1) := by decide +kernel
theorem dX12_isPlace_25 : decode cX12_isPlace 25 = .ok (.ireturn, 1) := by decide +kernel
theorem dX12_at_0 : decode cX12_at 0 = .ok (.iload_n 1, 1) := by decide +kernel
theorem dX12_at_1 : decode cX12_at 1 = .ok (.iload_n 2, 1) := by decide +kernel
theorem dX12_at_2 : decode cX12_at 2 = .ok (.invokestatic 370, 3) := by decide +kernel
theorem dX12_at_5 : decode cX12_at 5 = .ok (.ifCond .ne 6, 3) := by decide +kernel
theorem dX12_at_8 : decode cX12_at 8 = .ok (.bipush (-2), 2) := by decide +kernel
theorem dX12_at_10 : decode cX12_at 10 = .ok (.ireturn, 1) := by decide +kernel
theorem dX12_at_11 : decode cX12_at 11 = .ok (.sipush 300, 3) := by decide +kernel
theorem dX12_at_14 : decode cX12_at 14 = .ok (.iload_n 1, 1) := by decide +kernel
theorem dX12_at_15 : decode cX12_at 15 = .ok (.imul, 1) := by decide +kernel
theorem dX12_at_16 : decode cX12_at 16 = .ok (.iload_n 2, 1) := by decide +kernel
theorem dX12_at_17 : decode cX12_at 17 = .ok (.iadd, 1) := by decide +kernel
theorem dX12_at_18 : decode cX12_at 18 = .ok (.istore 4, 2) := by decide +kernel
theorem dX12_at_20 : decode cX12_at 20 = .ok (.iload_n 3, 1) := by decide +kernel
theorem dX12_at_21 : decode cX12_at 21 = .ok (.tableswitch 135 0 9 #[55, 63, 71, 79, 87, 95, 103, 111, 119, 127], 55) := by decide +kernel
theorem dX12_at_76 : decode cX12_at 76 = .ok (.aload_n 0, 1) := by decide +kernel
theorem dX12_at_77 : decode cX12_at 77 = .ok (.getfield 93, 3) := by decide +kernel
theorem dX12_at_80 : decode cX12_at 80 = .ok (.iload 4, 2) := by decide +kernel
theorem dX12_at_82 : decode cX12_at 82 = .ok (.iaload, 1) := by decide +kernel
theorem dX12_at_83 : decode cX12_at 83 = .ok (.ireturn, 1) := by decide +kernel
theorem dX12_at_84 : decode cX12_at 84 = .ok (.aload_n 0, 1) := by decide +kernel
theorem dX12_at_85 : decode cX12_at 85 = .ok (.getfield 96, 3) := by decide +kernel
theorem dX12_at_88 : decode cX12_at 88 = .ok (.iload 4, 2) := by decide +kernel
theorem dX12_at_90 : decode cX12_at 90 = .ok (.iaload, 1) := by decide +kernel
theorem dX12_at_91 : decode cX12_at 91 = .ok (.ireturn, 1) := by decide +kernel
theorem dX12_at_92 : decode cX12_at 92 = .ok (.aload_n 0, 1) := by decide +kernel
theorem dX12_at_93 : decode cX12_at 93 = .ok (.getfield 99, 3) := by decide +kernel
theorem dX12_at_96 : decode cX12_at 96 = .ok (.iload 4, 2) := by decide +kernel
theorem dX12_at_98 : decode cX12_at 98 = .ok (.iaload, 1) := by decide +kernel
theorem dX12_at_99 : decode cX12_at 99 = .ok (.ireturn, 1) := by decide +kernel
theorem dX12_at_100 : decode cX12_at 100 = .ok (.aload_n 0, 1) := by decide +kernel
theorem dX12_at_101 : decode cX12_at 101 = .ok (.getfield 102, 3) := by decide +kernel
theorem dX12_at_104 : decode cX12_at 104 = .ok (.iload 4, 2) := by decide +kernel
theorem dX12_at_106 : decode cX12_at 106 = .ok (.iaload, 1) := by decide +kernel
theorem dX12_at_107 : decode cX12_at 107 = .ok (.ireturn, 1) := by decide +kernel
theorem dX12_at_108 : decode cX12_at 108 = .ok (.aload_n 0, 1) := by decide +kernel
theorem dX12_at_109 : decode cX12_at 109 = .ok (.getfield 105, 3) := by decide +kernel
theorem dX12_at_112 : decode cX12_at 112 = .ok (.iload 4, 2) := by decide +kernel
theorem dX12_at_114 : decode cX12_at 114 = .ok (.iaload, 1) := by decide +kernel
theorem dX12_at_115 : decode cX12_at 115 = .ok (.ireturn, 1) := by decide +kernel
theorem dX12_at_116 : decode cX12_at 116 = .ok (.aload_n 0, 1) := by decide +kernel
theorem dX12_at_117 : decode cX12_at 117 = .ok (.getfield 108, 3) := by decide +kernel
theorem dX12_at_120 : decode cX12_at 120 = .ok (.iload 4, 2) := by decide +kernel
theorem dX12_at_122 : decode cX12_at 122 = .ok (.iaload, 1) := by decide +kernel
theorem dX12_at_123 : decode cX12_at 123 = .ok (.ireturn, 1) := by decide +kernel
theorem dX12_at_124 : decode cX12_at 124 = .ok (.aload_n 0, 1) := by decide +kernel
theorem dX12_at_125 : decode cX12_at 125 = .ok (.getfield 111, 3) := by decide +kernel
theorem dX12_at_128 : decode cX12_at 128 = .ok (.iload 4, 2) := by decide +kernel
theorem dX12_at_130 : decode cX12_at 130 = .ok (.iaload, 1) := by decide +kernel
theorem dX12_at_131 : decode cX12_at 131 = .ok (.ireturn, 1) := by decide +kernel
theorem dX12_at_132 : decode cX12_at 132 = .ok (.aload_n 0, 1) := by decide +kernel
theorem dX12_at_133 : decode cX12_at 133 = .ok (.getfield 114, 3) := by decide +kernel
theorem dX12_at_136 : decode cX12_at 136 = .ok (.iload 4, 2) := by decide +kernel
theorem dX12_at_138 : decode cX12_at 138 = .ok (.iaload, 1) := by decide +kernel
theorem dX12_at_139 : decode cX12_at 139 = .ok (.ireturn, 1) := by decide +kernel
theorem dX12_at_140 : decode cX12_at 140 = .ok (.aload_n 0, 1) := by decide +kernel
theorem dX12_at_141 : decode cX12_at 141 = .ok (.getfield 117, 3) := by decide +kernel
theorem dX12_at_144 : decode cX12_at 144 = .ok (.iload 4, 2) := by decide +kernel
theorem dX12_at_146 : decode cX12_at 146 = .ok (.iaload, 1) := by decide +kernel
theorem dX12_at_147 : decode cX12_at 147 = .ok (.ireturn, 1) := by decide +kernel
theorem dX12_at_148 : decode cX12_at 148 = .ok (.aload_n 0, 1) := by decide +kernel
theorem dX12_at_149 : decode cX12_at 149 = .ok (.getfield 120, 3) := by decide +kernel
theorem dX12_at_152 : decode cX12_at 152 = .ok (.iload 4, 2) := by decide +kernel
theorem dX12_at_154 : decode cX12_at 154 = .ok (.iaload, 1) := by decide +kernel
theorem dX12_at_155 : decode cX12_at 155 = .ok (.ireturn, 1) := by decide +kernel
theorem dX12_at_156 : decode cX12_at 156 = .ok (.bipush (-2), 2) := by decide +kernel
theorem dX12_at_158 : decode cX12_at 158 = .ok (.ireturn, 1) := by decide +kernel
theorem dX12_heard_0 : decode cX12_heard 0 = .ok (.iload_n 1, 1) := by decide +kernel
theorem dX12_heard_1 : decode cX12_heard 1 = .ok (.iload_n 2, 1) := by decide +kernel
theorem dX12_heard_2 : decode cX12_heard 2 = .ok (.invokestatic 370, 3) := by decide +kernel
theorem dX12_heard_5 : decode cX12_heard 5 = .ok (.ifCond .eq 13, 3) := by decide +kernel
theorem dX12_heard_8 : decode cX12_heard 8 = .ok (.iload_n 3, 1) := by decide +kernel
theorem dX12_heard_9 : decode cX12_heard 9 = .ok (.iconst 0, 1) := by decide +kernel
theorem dX12_heard_10 : decode cX12_heard 10 = .ok (.bipush 6, 2) := by decide +kernel
theorem dX12_heard_12 : decode cX12_heard 12 = .ok (.invokestatic 9, 3) := by decide +kernel
theorem dX12_heard_15 : decode cX12_heard 15 = .ok (.ifCond .ne 5, 3) := by decide +kernel
theorem dX12_heard_18 : decode cX12_heard 18 = .ok (.iconst 0, 1) := by decide +kernel
theorem dX12_heard_19 : decode cX12_heard 19 = .ok (.ireturn, 1) := by decide +kernel
theorem dX12_heard_20 : decode cX12_heard 20 = .ok (.sipush 300, 3) := by decide +kernel
theorem dX12_heard_23 : decode cX12_heard 23 = .ok (.iload_n 1, 1) := by decide +kernel
theorem dX12_heard_24 : decode cX12_heard 24 = .ok (.imul, 1) := by decide +kernel
theorem dX12_heard_25 : decode cX12_heard 25 = .ok (.iload_n 2, 1) := by decide +kernel
theorem dX12_heard_26 : decode cX12_heard 26 = .ok (.iadd, 1) := by decide +kernel
theorem dX12_heard_27 : decode cX12_heard 27 = .ok (.istore 5, 2) := by decide +kernel
theorem dX12_heard_29 : decode cX12_heard 29 = .ok (.iload_n 3, 1) := by decide +kernel
theorem dX12_heard_30 : decode cX12_heard 30 = .ok (.iconst 1, 1) := by decide +kernel
theorem dX12_heard_31 : decode cX12_heard 31 = .ok (.if_icmp .ne 8, 3) := by decide +kernel
theorem dX12_heard_34 : decode cX12_heard 34 = .ok (.bipush 9, 2) := by decide +kernel
theorem dX12_heard_36 : decode cX12_heard 36 = .ok (.goto 20, 3) := by decide +kernel
theorem dX12_heard_39 : decode cX12_heard 39 = .ok (.iload_n 3, 1) := by decide +kernel
theorem dX12_heard_40 : decode cX12_heard 40 = .ok (.iconst 2, 1) := by decide +kernel
theorem dX12_heard_41 : decode cX12_heard 41 = .ok (.if_icmp .eq 8, 3) := by decide +kernel
theorem dX12_heard_44 : decode cX12_heard 44 = .ok (.iload_n 3, 1) := by decide +kernel
theorem dX12_heard_45 : decode cX12_heard 45 = .ok (.iconst 3, 1) := by decide +kernel
theorem dX12_heard_46 : decode cX12_heard 46 = .ok (.if_icmp .ne 8, 3) := by decide +kernel
theorem dX12_heard_49 : decode cX12_heard 49 = .ok (.bipush 63, 2) := by decide +kernel
theorem dX12_heard_51 : decode cX12_heard 51 = .ok (.goto 5, 3) := by decide +kernel
theorem dX12_heard_54 : decode cX12_heard 54 = .ok (.bipush 99, 2) := by decide +kernel
theorem dX12_heard_56 : decode cX12_heard 56 = .ok (.istore 6, 2) := by decide +kernel
theorem dX12_heard_58 : decode cX12_heard 58 = .ok (.aload_n 0, 1) := by decide +kernel
theorem dX12_heard_59 : decode cX12_heard 59 = .ok (.getfield 114, 3) := by decide +kernel
theorem dX12_heard_62 : decode cX12_heard 62 = .ok (.iload 5, 2) := by decide +kernel
theorem dX12_heard_64 : decode cX12_heard 64 = .ok (.iaload, 1) := by decide +kernel
theorem dX12_heard_65 : decode cX12_heard 65 = .ok (.ifCond .eq 27, 3) := by decide +kernel
theorem dX12_heard_68 : decode cX12_heard 68 = .ok (.iload 4, 2) := by decide +kernel
theorem dX12_heard_70 : decode cX12_heard 70 = .ok (.iload_n 3, 1) := by decide +kernel
theorem dX12_heard_71 : decode cX12_heard 71 = .ok (.iconst 1, 1) := by decide +kernel
theorem dX12_heard_72 : decode cX12_heard 72 = .ok (.iconst 3, 1) := by decide +kernel
theorem dX12_heard_73 : decode cX12_heard 73 = .ok (.invokestatic 9, 3) := by decide +kernel
theorem dX12_heard_76 : decode cX12_heard 76 = .ok (.ifCond .eq 7, 3) := by decide +kernel
theorem dX12_heard_79 : decode cX12_heard 79 = .ok (.iconst (-1), 1) := by decide +kernel
theorem dX12_heard_80 : decode cX12_heard 80 = .ok (.goto 4, 3) := by decide +kernel
theorem dX12_heard_83 : decode cX12_heard 83 = .ok (.iconst 0, 1) := by decide +kernel
theorem dX12_heard_84 : decode cX12_heard 84 = .ok (.iload 6, 2) := by decide +kernel
theorem dX12_heard_86 : decode cX12_heard 86 = .ok (.invokestatic 9, 3) := by decide +kernel
theorem dX12_heard_89 : decode cX12_heard 89 = .ok (.ifCond .ne 5, 3) := by decide +kernel
theorem dX12_heard_92 : decode cX12_heard 92 = .ok (.iconst 0, 1) := by decide +kernel
theorem dX12_heard_93 : decode cX12_heard 93 = .ok (.ireturn, 1) := by decide +kernel
theorem dX12_heard_94 : decode cX12_heard 94 = .ok (.iload_n 3, 1) := by decide +kernel
theorem dX12_heard_95 : decode cX12_heard 95 = .ok (.iconst 2, 1) := by decide +kernel
theorem dX12_heard_96 : decode cX12_heard 96 = .ok (.if_icmp .ne 20, 3) := by decide +kernel
theorem dX12_heard_99 : decode cX12_heard 99 = .ok (.iload 4, 2) := by decide +kernel
theorem dX12_heard_101 : decode cX12_heard 101 = .ok (.iconst (-1), 1) := by decide +kernel
theorem dX12_heard_102 : decode cX12_heard 102 = .ok (.if_icmp .ne 14, 3) := by decide +kernel
theorem dX12_heard_105 : decode cX12_heard 105 = .ok (.aload_n 0, 1) := by decide +kernel
theorem dX12_heard_106 : decode cX12_heard 106 = .ok (.getfield 102, 3) := by decide +kernel
theorem dX12_heard_109 : decode cX12_heard 109 = .ok (.iload 5, 2) := by decide +kernel
theorem dX12_heard_111 : decode cX12_heard 111 = .ok (.iaload, 1) := by decide +kernel
theorem dX12_heard_112 : decode cX12_heard 112 = .ok (.iconst (-1), 1) := by decide +kernel
theorem dX12_heard_113 : decode cX12_heard 113 = .ok (.if_icmp .ne 25, 3) := by decide +kernel
theorem dX12_heard_116 : decode cX12_heard 116 = .ok (.iload_n 3, 1) := by decide +kernel
theorem dX12_heard_117 : decode cX12_heard 117 = .ok (.iconst 3, 1) := by decide +kernel
theorem dX12_heard_118 : decode cX12_heard 118 = .ok (.if_icmp .ne 22, 3) := by decide +kernel
theorem dX12_heard_121 : decode cX12_heard 121 = .ok (.iload 4, 2) := by decide +kernel
theorem dX12_heard_123 : decode cX12_heard 123 = .ok (.iconst (-1), 1) := by decide +kernel
theorem dX12_heard_124 : decode cX12_heard 124 = .ok (.if_icmp .eq 16, 3) := by decide +kernel
theorem dX12_heard_127 : decode cX12_heard 127 = .ok (.aload_n 0, 1) := by decide +kernel
theorem dX12_heard_128 : decode cX12_heard 128 = .ok (.getfield 99, 3) := by decide +kernel
theorem dX12_heard_131 : decode cX12_heard 131 = .ok (.iload 5, 2) := by decide +kernel
theorem dX12_heard_133 : decode cX12_heard 133 = .ok (.iaload, 1) := by decide +kernel
theorem dX12_heard_134 : decode cX12_heard 134 = .ok (.iconst (-1), 1) := by decide +kernel
theorem dX12_heard_135 : decode cX12_heard 135 = .ok (.if_icmp .ne 5, 3) := by decide +kernel
theorem dX12_heard_138 : decode cX12_heard 138 = .ok (.iconst 0, 1) := by decide +kernel
theorem dX12_heard_139 : decode cX12_heard 139 = .ok (.ireturn, 1) := by decide +kernel
theorem dX12_heard_140 : decode cX12_heard 140 = .ok (.iload_n 3, 1) := by decide +kernel
theorem dX12_heard_141 : decode cX12_heard 141 = .ok (.tableswitch 111 0 5 #[39, 51, 63, 75, 87, 99], 39) := by decide +kernel
theorem dX12_heard_180 : decode cX12_heard 180 = .ok (.aload_n 0, 1) := by decide +kernel
theorem dX12_heard_181 : decode cX12_heard 181 = .ok (.getfield 93, 3) := by decide +kernel
theorem dX12_heard_184 : decode cX12_heard 184 = .ok (.iload 5, 2) := by decide +kernel
theorem dX12_heard_186 : decode cX12_heard 186 = .ok (.iload 4, 2) := by decide +kernel
theorem dX12_heard_188 : decode cX12_heard 188 = .ok (.iastore, 1) := by decide +kernel
theorem dX12_heard_189 : decode cX12_heard 189 = .ok (.goto 72, 3) := by decide +kernel
theorem dX12_heard_192 : decode cX12_heard 192 = .ok (.aload_n 0, 1) := by decide +kernel
theorem dX12_heard_193 : decode cX12_heard 193 = .ok (.getfield 96, 3) := by decide +kernel
theorem dX12_heard_196 : decode cX12_heard 196 = .ok (.iload 5, 2) := by decide +kernel
theorem dX12_heard_198 : decode cX12_heard 198 = .ok (.iload 4, 2) := by decide +kernel
theorem dX12_heard_200 : decode cX12_heard 200 = .ok (.iastore, 1) := by decide +kernel
theorem dX12_heard_201 : decode cX12_heard 201 = .ok (.goto 60, 3) := by decide +kernel
theorem dX12_heard_204 : decode cX12_heard 204 = .ok (.aload_n 0, 1) := by decide +kernel
theorem dX12_heard_205 : decode cX12_heard 205 = .ok (.getfield 99, 3) := by decide +kernel
theorem dX12_heard_208 : decode cX12_heard 208 = .ok (.iload 5, 2) := by decide +kernel
theorem dX12_heard_210 : decode cX12_heard 210 = .ok (.iload 4, 2) := by decide +kernel
theorem dX12_heard_212 : decode cX12_heard 212 = .ok (.iastore, 1) := by decide +kernel
theorem dX12_heard_213 : decode cX12_heard 213 = .ok (.goto 48, 3) := by decide +kernel
theorem dX12_heard_216 : decode cX12_heard 216 = .ok (.aload_n 0, 1) := by decide +kernel
theorem dX12_heard_217 : decode cX12_heard 217 = .ok (.getfield 102, 3) := by decide +kernel
theorem dX12_heard_220 : decode cX12_heard 220 = .ok (.iload 5, 2) := by decide +kernel
theorem dX12_heard_222 : decode cX12_heard 222 = .ok (.iload 4, 2) := by decide +kernel
theorem dX12_heard_224 : decode cX12_heard 224 = .ok (.iastore, 1) := by decide +kernel
theorem dX12_heard_225 : decode cX12_heard 225 = .ok (.goto 36, 3) := by decide +kernel
theorem dX12_heard_228 : decode cX12_heard 228 = .ok (.aload_n 0, 1) := by decide +kernel
theorem dX12_heard_229 : decode cX12_heard 229 = .ok (.getfield 105, 3) := by decide +kernel
theorem dX12_heard_232 : decode cX12_heard 232 = .ok (.iload 5, 2) := by decide +kernel
theorem dX12_heard_234 : decode cX12_heard 234 = .ok (.iload 4, 2) := by decide +kernel
theorem dX12_heard_236 : decode cX12_heard 236 = .ok (.iastore, 1) := by decide +kernel
theorem dX12_heard_237 : decode cX12_heard 237 = .ok (.goto 24, 3) := by decide +kernel
theorem dX12_heard_240 : decode cX12_heard 240 = .ok (.aload_n 0, 1) := by decide +kernel
theorem dX12_heard_241 : decode cX12_heard 241 = .ok (.getfield 108, 3) := by decide +kernel
theorem dX12_heard_244 : decode cX12_heard 244 = .ok (.iload 5, 2) := by decide +kernel
theorem dX12_heard_246 : decode cX12_heard 246 = .ok (.iload 4, 2) := by decide +kernel
theorem dX12_heard_248 : decode cX12_heard 248 = .ok (.iastore, 1) := by decide +kernel
theorem dX12_heard_249 : decode cX12_heard 249 = .ok (.goto 12, 3) := by decide +kernel
theorem dX12_heard_252 : decode cX12_heard 252 = .ok (.aload_n 0, 1) := by decide +kernel
theorem dX12_heard_253 : decode cX12_heard 253 = .ok (.getfield 111, 3) := by decide +kernel
theorem dX12_heard_256 : decode cX12_heard 256 = .ok (.iload 5, 2) := by decide +kernel
theorem dX12_heard_258 : decode cX12_heard 258 = .ok (.iload 4, 2) := by decide +kernel
theorem dX12_heard_260 : decode cX12_heard 260 = .ok (.iastore, 1) := by decide +kernel
theorem dX12_heard_261 : decode cX12_heard 261 = .ok (.iconst 1, 1) := by decide +kernel
theorem dX12_heard_262 : decode cX12_heard 262 = .ok (.ireturn, 1) := by decide +kernel
theorem dX12_lays_0 : decode cX12_lays 0 = .ok (.iload_n 1, 1) := by decide +kernel
theorem dX12_lays_1 : decode cX12_lays 1 = .ok (.iload_n 2, 1) := by decide +kernel
theorem dX12_lays_2 : decode cX12_lays 2 = .ok (.invokestatic 370, 3) := by decide +kernel
theorem dX12_lays_5 : decode cX12_lays 5 = .ok (.ifCond .eq 14, 3) := by decide +kernel
theorem dX12_lays_8 : decode cX12_lays 8 = .ok (.iload_n 3, 1) := by decide +kernel
theorem dX12_lays_9 : decode cX12_lays 9 = .ok (.iload_n 2, 1) := by decide +kernel
theorem dX12_lays_10 : decode cX12_lays 10 = .ok (.sipush 299, 3) := by decide +kernel
theorem dX12_lays_13 : decode cX12_lays 13 = .ok (.invokestatic 9, 3) := by decide +kernel
theorem dX12_lays_16 : decode cX12_lays 16 = .ok (.ifCond .ne 5, 3) := by decide +kernel
theorem dX12_lays_19 : decode cX12_lays 19 = .ok (.iconst 0, 1) := by decide +kernel
theorem dX12_lays_20 : decode cX12_lays 20 = .ok (.ireturn, 1) := by decide +kernel
theorem dX12_lays_21 : decode cX12_lays 21 = .ok (.aload_n 0, 1) := by decide +kernel
theorem dX12_lays_22 : decode cX12_lays 22 = .ok (.sipush 300, 3) := by decide +kernel
theorem dX12_lays_25 : decode cX12_lays 25 = .ok (.iload_n 1, 1) := by decide +kernel
theorem dX12_lays_26 : decode cX12_lays 26 = .ok (.imul, 1) := by decide +kernel
theorem dX12_lays_27 : decode cX12_lays 27 = .ok (.iload_n 2, 1) := by decide +kernel
theorem dX12_lays_28 : decode cX12_lays 28 = .ok (.iadd, 1) := by decide +kernel
theorem dX12_lays_29 : decode cX12_lays 29 = .ok (.putfield 373, 3) := by decide +kernel
theorem dX12_lays_32 : decode cX12_lays 32 = .ok (.aload_n 0, 1) := by decide +kernel
theorem dX12_lays_33 : decode cX12_lays 33 = .ok (.sipush 300, 3) := by decide +kernel
theorem dX12_lays_36 : decode cX12_lays 36 = .ok (.iload_n 1, 1) := by decide +kernel
theorem dX12_lays_37 : decode cX12_lays 37 = .ok (.imul, 1) := by decide +kernel
theorem dX12_lays_38 : decode cX12_lays 38 = .ok (.iload_n 3, 1) := by decide +kernel
theorem dX12_lays_39 : decode cX12_lays 39 = .ok (.iadd, 1) := by decide +kernel
theorem dX12_lays_40 : decode cX12_lays 40 = .ok (.putfield 376, 3) := by decide +kernel
theorem dX12_lays_43 : decode cX12_lays 43 = .ok (.iconst 1, 1) := by decide +kernel
theorem dX12_lays_44 : decode cX12_lays 44 = .ok (.ireturn, 1) := by decide +kernel
theorem dX12_marks_0 : decode cX12_marks 0 = .ok (.aload_n 0, 1) := by decide +kernel
theorem dX12_marks_1 : decode cX12_marks 1 = .ok (.iload_n 1, 1) := by decide +kernel
theorem dX12_marks_2 : decode cX12_marks 2 = .ok (.iload_n 2, 1) := by decide +kernel
theorem dX12_marks_3 : decode cX12_marks 3 = .ok (.iload_n 3, 1) := by decide +kernel
theorem dX12_marks_4 : decode cX12_marks 4 = .ok (.invokevirtual 379, 3) := by decide +kernel
theorem dX12_marks_7 : decode cX12_marks 7 = .ok (.ifCond .eq 8, 3) := by decide +kernel
theorem dX12_marks_10 : decode cX12_marks 10 = .ok (.iload 4, 2) := by decide +kernel
theorem dX12_marks_12 : decode cX12_marks 12 = .ok (.ifCond .ge 5, 3) := by decide +kernel
theorem dX12_marks_15 : decode cX12_marks 15 = .ok (.iconst (-1), 1) := by decide +kernel
theorem dX12_marks_16 : decode cX12_marks 16 = .ok (.ireturn, 1) := by decide +kernel
theorem dX12_marks_17 : decode cX12_marks 17 = .ok (.iconst 0, 1) := by decide +kernel
theorem dX12_marks_18 : decode cX12_marks 18 = .ok (.istore 5, 2) := by decide +kernel
theorem dX12_marks_20 : decode cX12_marks 20 = .ok (.aload_n 0, 1) := by decide +kernel
theorem dX12_marks_21 : decode cX12_marks 21 = .ok (.getfield 373, 3) := by decide +kernel
theorem dX12_marks_24 : decode cX12_marks 24 = .ok (.istore 6, 2) := by decide +kernel
theorem dX12_marks_26 : decode cX12_marks 26 = .ok (.iload 6, 2) := by decide +kernel
theorem dX12_marks_28 : decode cX12_marks 28 = .ok (.aload_n 0, 1) := by decide +kernel
theorem dX12_marks_29 : decode cX12_marks 29 = .ok (.getfield 376, 3) := by decide +kernel
theorem dX12_marks_32 : decode cX12_marks 32 = .ok (.if_icmp .gt 39, 3) := by decide +kernel
theorem dX12_marks_35 : decode cX12_marks 35 = .ok (.aload_n 0, 1) := by decide +kernel
theorem dX12_marks_36 : decode cX12_marks 36 = .ok (.getfield 108, 3) := by decide +kernel
theorem dX12_marks_39 : decode cX12_marks 39 = .ok (.iload 6, 2) := by decide +kernel
theorem dX12_marks_41 : decode cX12_marks 41 = .ok (.iaload, 1) := by decide +kernel
theorem dX12_marks_42 : decode cX12_marks 42 = .ok (.ifCond .ne 6, 3) := by decide +kernel
theorem dX12_marks_45 : decode cX12_marks 45 = .ok (.goto 20, 3) := by decide +kernel
theorem dX12_marks_48 : decode cX12_marks 48 = .ok (.iinc 5 1, 3) := by decide +kernel
theorem dX12_marks_51 : decode cX12_marks 51 = .ok (.iload 5, 2) := by decide +kernel
theorem dX12_marks_53 : decode cX12_marks 53 = .ok (.iload 4, 2) := by decide +kernel
theorem dX12_marks_55 : decode cX12_marks 55 = .ok (.if_icmp .ne 10, 3) := by decide +kernel
theorem dX12_marks_58 : decode cX12_marks 58 = .ok (.iload 6, 2) := by decide +kernel
theorem dX12_marks_60 : decode cX12_marks 60 = .ok (.sipush 300, 3) := by decide +kernel
theorem dX12_marks_63 : decode cX12_marks 63 = .ok (.irem, 1) := by decide +kernel
theorem dX12_marks_64 : decode cX12_marks 64 = .ok (.ireturn, 1) := by decide +kernel
theorem dX12_marks_65 : decode cX12_marks 65 = .ok (.iinc 6 1, 3) := by decide +kernel
theorem dX12_marks_68 : decode cX12_marks 68 = .ok (.goto (-42), 3) := by decide +kernel
theorem dX12_marks_71 : decode cX12_marks 71 = .ok (.iload 4, 2) := by decide +kernel
theorem dX12_marks_73 : decode cX12_marks 73 = .ok (.ifCond .ne 8, 3) := by decide +kernel
theorem dX12_marks_76 : decode cX12_marks 76 = .ok (.iload 5, 2) := by decide +kernel
theorem dX12_marks_78 : decode cX12_marks 78 = .ok (.goto 4, 3) := by decide +kernel
theorem dX12_marks_81 : decode cX12_marks 81 = .ok (.iconst (-1), 1) := by decide +kernel
theorem dX12_marks_82 : decode cX12_marks 82 = .ok (.ireturn, 1) := by decide +kernel
theorem dX12_colour_0 : decode cX12_colour 0 = .ok (.iconst 2, 1) := by decide +kernel
theorem dX12_colour_1 : decode cX12_colour 1 = .ok (.aload_n 0, 1) := by decide +kernel
theorem dX12_colour_2 : decode cX12_colour 2 = .ok (.getfield 114, 3) := by decide +kernel
theorem dX12_colour_5 : decode cX12_colour 5 = .ok (.iload_n 1, 1) := by decide +kernel
theorem dX12_colour_6 : decode cX12_colour 6 = .ok (.iaload, 1) := by decide +kernel
theorem dX12_colour_7 : decode cX12_colour 7 = .ok (.imul, 1) := by decide +kernel
theorem dX12_colour_8 : decode cX12_colour 8 = .ok (.aload_n 0, 1) := by decide +kernel
theorem dX12_colour_9 : decode cX12_colour 9 = .ok (.getfield 93, 3) := by decide +kernel
theorem dX12_colour_12 : decode cX12_colour 12 = .ok (.iload_n 1, 1) := by decide +kernel
theorem dX12_colour_13 : decode cX12_colour 13 = .ok (.iaload, 1) := by decide +kernel
theorem dX12_colour_14 : decode cX12_colour 14 = .ok (.ifCond .le 7, 3) := by decide +kernel
theorem dX12_colour_17 : decode cX12_colour 17 = .ok (.iconst 1, 1) := by decide +kernel
theorem dX12_colour_18 : decode cX12_colour 18 = .ok (.goto 4, 3) := by decide +kernel
theorem dX12_colour_21 : decode cX12_colour 21 = .ok (.iconst 0, 1) := by decide +kernel
theorem dX12_colour_22 : decode cX12_colour 22 = .ok (.iadd, 1) := by decide +kernel
theorem dX12_colour_23 : decode cX12_colour 23 = .ok (.ireturn, 1) := by decide +kernel
theorem dX12_settings_0 : decode cX12_settings 0 = .ok (.aload_n 0, 1) := by decide +kernel
theorem dX12_settings_1 : decode cX12_settings 1 = .ok (.iload_n 1, 1) := by decide +kernel
theorem dX12_settings_2 : decode cX12_settings 2 = .ok (.iload_n 2, 1) := by decide +kernel
theorem dX12_settings_3 : decode cX12_settings 3 = .ok (.iload_n 3, 1) := by decide +kernel
theorem dX12_settings_4 : decode cX12_settings 4 = .ok (.invokevirtual 379, 3) := by decide +kernel
theorem dX12_settings_7 : decode cX12_settings 7 = .ok (.ifCond .eq 11, 3) := by decide +kernel
theorem dX12_settings_10 : decode cX12_settings 10 = .ok (.iload_n 3, 1) := by decide +kernel
theorem dX12_settings_11 : decode cX12_settings 11 = .ok (.iload_n 2, 1) := by decide +kernel
theorem dX12_settings_12 : decode cX12_settings 12 = .ok (.isub, 1) := by decide +kernel
theorem dX12_settings_13 : decode cX12_settings 13 = .ok (.bipush 40, 2) := by decide +kernel
theorem dX12_settings_15 : decode cX12_settings 15 = .ok (.if_icmp .lt 5, 3) := by decide +kernel
theorem dX12_settings_18 : decode cX12_settings 18 = .ok (.iconst (-1), 1) := by decide +kernel
theorem dX12_settings_19 : decode cX12_settings 19 = .ok (.ireturn, 1) := by decide +kernel
theorem dX12_settings_20 : decode cX12_settings 20 = .ok (.iload_n 3, 1) := by decide +kernel
theorem dX12_settings_21 : decode cX12_settings 21 = .ok (.iload_n 2, 1) := by decide +kernel
theorem dX12_settings_22 : decode cX12_settings 22 = .ok (.isub, 1) := by decide +kernel
theorem dX12_settings_23 : decode cX12_settings 23 = .ok (.iconst 1, 1) := by decide +kernel
theorem dX12_settings_24 : decode cX12_settings 24 = .ok (.iadd, 1) := by decide +kernel
theorem dX12_settings_25 : decode cX12_settings 25 = .ok (.istore 4, 2) := by decide +kernel
theorem dX12_settings_27 : decode cX12_settings 27 = .ok (.aload_n 0, 1) := by decide +kernel
theorem dX12_settings_28 : decode cX12_settings 28 = .ok (.getfield 373, 3) := by decide +kernel
theorem dX12_settings_31 : decode cX12_settings 31 = .ok (.istore 5, 2) := by decide +kernel
theorem dX12_settings_33 : decode cX12_settings 33 = .ok (.iload 5, 2) := by decide +kernel
theorem dX12_settings_35 : decode cX12_settings 35 = .ok (.aload_n 0, 1) := by decide +kernel
theorem dX12_settings_36 : decode cX12_settings 36 = .ok (.getfield 376, 3) := by decide +kernel
theorem dX12_settings_39 : decode cX12_settings 39 = .ok (.if_icmp .gt 21, 3) := by decide +kernel
theorem dX12_settings_42 : decode cX12_settings 42 = .ok (.aload_n 0, 1) := by decide +kernel
theorem dX12_settings_43 : decode cX12_settings 43 = .ok (.getfield 114, 3) := by decide +kernel
theorem dX12_settings_46 : decode cX12_settings 46 = .ok (.iload 5, 2) := by decide +kernel
theorem dX12_settings_48 : decode cX12_settings 48 = .ok (.iaload, 1) := by decide +kernel
theorem dX12_settings_49 : decode cX12_settings 49 = .ok (.ifCond .ne 5, 3) := by decide +kernel
theorem dX12_settings_52 : decode cX12_settings 52 = .ok (.iconst (-1), 1) := by decide +kernel
theorem dX12_settings_53 : decode cX12_settings 53 = .ok (.ireturn, 1) := by decide +kernel
theorem dX12_settings_54 : decode cX12_settings 54 = .ok (.iinc 5 1, 3) := by decide +kernel
theorem dX12_settings_57 : decode cX12_settings 57 = .ok (.goto (-24), 3) := by decide +kernel
theorem dX12_settings_60 : decode cX12_settings 60 = .ok (.iload 4, 2) := by decide +kernel
theorem dX12_settings_62 : decode cX12_settings 62 = .ok (.iconst 1, 1) := by decide +kernel
theorem dX12_settings_63 : decode cX12_settings 63 = .ok (.isub, 1) := by decide +kernel
theorem dX12_settings_64 : decode cX12_settings 64 = .ok (.istore 5, 2) := by decide +kernel
theorem dX12_settings_66 : decode cX12_settings 66 = .ok (.iload 5, 2) := by decide +kernel
theorem dX12_settings_68 : decode cX12_settings 68 = .ok (.ifCond .lt 180, 3) := by decide +kernel
theorem dX12_settings_71 : decode cX12_settings 71 = .ok (.iload 5, 2) := by decide +kernel
theorem dX12_settings_73 : decode cX12_settings 73 = .ok (.istore 6, 2) := by decide +kernel
theorem dX12_settings_75 : decode cX12_settings 75 = .ok (.iload 6, 2) := by decide +kernel
theorem dX12_settings_77 : decode cX12_settings 77 = .ok (.iload 4, 2) := by decide +kernel
theorem dX12_settings_79 : decode cX12_settings 79 = .ok (.if_icmp .ge 163, 3) := by decide +kernel
theorem dX12_settings_82 : decode cX12_settings 82 = .ok (.iconst 1, 1) := by decide +kernel
theorem dX12_settings_83 : decode cX12_settings 83 = .ok (.iload 6, 2) := by decide +kernel
theorem dX12_settings_85 : decode cX12_settings 85 = .ok (.iload 5, 2) := by decide +kernel
theorem dX12_settings_87 : decode cX12_settings 87 = .ok (.if_icmp .le 21, 3) := by decide +kernel
theorem dX12_settings_90 : decode cX12_settings 90 = .ok (.aload_n 0, 1) := by decide +kernel
theorem dX12_settings_91 : decode cX12_settings 91 = .ok (.getfield 126, 3) := by decide +kernel
theorem dX12_settings_94 : decode cX12_settings 94 = .ok (.bipush 41, 2) := by decide +kernel
theorem dX12_settings_96 : decode cX12_settings 96 = .ok (.iload 5, 2) := by decide +kernel
theorem dX12_settings_98 : decode cX12_settings 98 = .ok (.iconst 1, 1) := by decide +kernel
theorem dX12_settings_99 : decode cX12_settings 99 = .ok (.iadd, 1) := by decide +kernel
theorem dX12_settings_100 : decode cX12_settings 100 = .ok (.imul, 1) := by decide +kernel
theorem dX12_settings_101 : decode cX12_settings 101 = .ok (.iload 6, 2) := by decide +kernel
theorem dX12_settings_103 : decode cX12_settings 103 = .ok (.iadd, 1) := by decide +kernel
theorem dX12_settings_104 : decode cX12_settings 104 = .ok (.iaload, 1) := by decide +kernel
theorem dX12_settings_105 : decode cX12_settings 105 = .ok (.goto 4, 3) := by decide +kernel
theorem dX12_settings_108 : decode cX12_settings 108 = .ok (.iconst 0, 1) := by decide +kernel
theorem dX12_settings_109 : decode cX12_settings 109 = .ok (.iadd, 1) := by decide +kernel
theorem dX12_settings_110 : decode cX12_settings 110 = .ok (.istore 7, 2) := by decide +kernel
theorem dX12_settings_112 : decode cX12_settings 112 = .ok (.iload 5, 2) := by decide +kernel
theorem dX12_settings_114 : decode cX12_settings 114 = .ok (.iconst 1, 1) := by decide +kernel
theorem dX12_settings_115 : decode cX12_settings 115 = .ok (.iadd, 1) := by decide +kernel
theorem dX12_settings_116 : decode cX12_settings 116 = .ok (.istore 8, 2) := by decide +kernel
theorem dX12_settings_118 : decode cX12_settings 118 = .ok (.iload 8, 2) := by decide +kernel
theorem dX12_settings_120 : decode cX12_settings 120 = .ok (.iload 6, 2) := by decide +kernel
theorem dX12_settings_122 : decode cX12_settings 122 = .ok (.if_icmp .gt 99, 3) := by decide +kernel
theorem dX12_settings_125 : decode cX12_settings 125 = .ok (.aload_n 0, 1) := by decide +kernel
theorem dX12_settings_126 : decode cX12_settings 126 = .ok (.aload_n 0, 1) := by decide +kernel
theorem dX12_settings_127 : decode cX12_settings 127 = .ok (.getfield 373, 3) := by decide +kernel
theorem dX12_settings_130 : decode cX12_settings 130 = .ok (.iload 8, 2) := by decide +kernel
theorem dX12_settings_132 : decode cX12_settings 132 = .ok (.iadd, 1) := by decide +kernel
theorem dX12_settings_133 : decode cX12_settings 133 = .ok (.invokevirtual 382, 3) := by decide +kernel
theorem dX12_settings_136 : decode cX12_settings 136 = .ok (.aload_n 0, 1) := by decide +kernel
theorem dX12_settings_137 : decode cX12_settings 137 = .ok (.aload_n 0, 1) := by decide +kernel
theorem dX12_settings_138 : decode cX12_settings 138 = .ok (.getfield 373, 3) := by decide +kernel
theorem dX12_settings_141 : decode cX12_settings 141 = .ok (.iload 5, 2) := by decide +kernel
theorem dX12_settings_143 : decode cX12_settings 143 = .ok (.iadd, 1) := by decide +kernel
theorem dX12_settings_144 : decode cX12_settings 144 = .ok (.invokevirtual 382, 3) := by decide +kernel
theorem dX12_settings_147 : decode cX12_settings 147 = .ok (.if_icmp .eq 6, 3) := by decide +kernel
theorem dX12_settings_150 : decode cX12_settings 150 = .ok (.goto 65, 3) := by decide +kernel
theorem dX12_settings_153 : decode cX12_settings 153 = .ok (.iload 8, 2) := by decide +kernel
theorem dX12_settings_155 : decode cX12_settings 155 = .ok (.iload 5, 2) := by decide +kernel
theorem dX12_settings_157 : decode cX12_settings 157 = .ok (.iconst 1, 1) := by decide +kernel
theorem dX12_settings_158 : decode cX12_settings 158 = .ok (.iadd, 1) := by decide +kernel
theorem dX12_settings_159 : decode cX12_settings 159 = .ok (.if_icmp .le 23, 3) := by decide +kernel
theorem dX12_settings_162 : decode cX12_settings 162 = .ok (.aload_n 0, 1) := by decide +kernel
theorem dX12_settings_163 : decode cX12_settings 163 = .ok (.getfield 126, 3) := by decide +kernel
theorem dX12_settings_166 : decode cX12_settings 166 = .ok (.bipush 41, 2) := by decide +kernel
theorem dX12_settings_168 : decode cX12_settings 168 = .ok (.iload 5, 2) := by decide +kernel
theorem dX12_settings_170 : decode cX12_settings 170 = .ok (.iconst 1, 1) := by decide +kernel
theorem dX12_settings_171 : decode cX12_settings 171 = .ok (.iadd, 1) := by decide +kernel
theorem dX12_settings_172 : decode cX12_settings 172 = .ok (.imul, 1) := by decide +kernel
theorem dX12_settings_173 : decode cX12_settings 173 = .ok (.iload 8, 2) := by decide +kernel
theorem dX12_settings_175 : decode cX12_settings 175 = .ok (.iadd, 1) := by decide +kernel
theorem dX12_settings_176 : decode cX12_settings 176 = .ok (.iconst 1, 1) := by decide +kernel
theorem dX12_settings_177 : decode cX12_settings 177 = .ok (.isub, 1) := by decide +kernel
theorem dX12_settings_178 : decode cX12_settings 178 = .ok (.iaload, 1) := by decide +kernel
theorem dX12_settings_179 : decode cX12_settings 179 = .ok (.goto 4, 3) := by decide +kernel
theorem dX12_settings_182 : decode cX12_settings 182 = .ok (.iconst 0, 1) := by decide +kernel
theorem dX12_settings_183 : decode cX12_settings 183 = .ok (.aload_n 0, 1) := by decide +kernel
theorem dX12_settings_184 : decode cX12_settings 184 = .ok (.getfield 126, 3) := by decide +kernel
theorem dX12_settings_187 : decode cX12_settings 187 = .ok (.bipush 41, 2) := by decide +kernel
theorem dX12_settings_189 : decode cX12_settings 189 = .ok (.iload 8, 2) := by decide +kernel
theorem dX12_settings_191 : decode cX12_settings 191 = .ok (.imul, 1) := by decide +kernel
theorem dX12_settings_192 : decode cX12_settings 192 = .ok (.iload 6, 2) := by decide +kernel
theorem dX12_settings_194 : decode cX12_settings 194 = .ok (.iadd, 1) := by decide +kernel
theorem dX12_settings_195 : decode cX12_settings 195 = .ok (.iaload, 1) := by decide +kernel
theorem dX12_settings_196 : decode cX12_settings 196 = .ok (.iadd, 1) := by decide +kernel
theorem dX12_settings_197 : decode cX12_settings 197 = .ok (.istore 9, 2) := by decide +kernel
theorem dX12_settings_199 : decode cX12_settings 199 = .ok (.iload 9, 2) := by decide +kernel
theorem dX12_settings_201 : decode cX12_settings 201 = .ok (.iload 7, 2) := by decide +kernel
theorem dX12_settings_203 : decode cX12_settings 203 = .ok (.if_icmp .ge 8, 3) := by decide +kernel
theorem dX12_settings_206 : decode cX12_settings 206 = .ok (.iload 9, 2) := by decide +kernel
theorem dX12_settings_208 : decode cX12_settings 208 = .ok (.goto 5, 3) := by decide +kernel
theorem dX12_settings_211 : decode cX12_settings 211 = .ok (.iload 7, 2) := by decide +kernel
theorem dX12_settings_213 : decode cX12_settings 213 = .ok (.istore 7, 2) := by decide +kernel
theorem dX12_settings_215 : decode cX12_settings 215 = .ok (.iinc 8 1, 3) := by decide +kernel
theorem dX12_settings_218 : decode cX12_settings 218 = .ok (.goto (-100), 3) := by decide +kernel
theorem dX12_settings_221 : decode cX12_settings 221 = .ok (.aload_n 0, 1) := by decide +kernel
theorem dX12_settings_222 : decode cX12_settings 222 = .ok (.getfield 126, 3) := by decide +kernel
theorem dX12_settings_225 : decode cX12_settings 225 = .ok (.bipush 41, 2) := by decide +kernel
theorem dX12_settings_227 : decode cX12_settings 227 = .ok (.iload 5, 2) := by decide +kernel
theorem dX12_settings_229 : decode cX12_settings 229 = .ok (.imul, 1) := by decide +kernel
theorem dX12_settings_230 : decode cX12_settings 230 = .ok (.iload 6, 2) := by decide +kernel
theorem dX12_settings_232 : decode cX12_settings 232 = .ok (.iadd, 1) := by decide +kernel
theorem dX12_settings_233 : decode cX12_settings 233 = .ok (.iload 7, 2) := by decide +kernel
theorem dX12_settings_235 : decode cX12_settings 235 = .ok (.iastore, 1) := by decide +kernel
theorem dX12_settings_236 : decode cX12_settings 236 = .ok (.iinc 6 1, 3) := by decide +kernel
theorem dX12_settings_239 : decode cX12_settings 239 = .ok (.goto (-164), 3) := by decide +kernel
theorem dX12_settings_242 : decode cX12_settings 242 = .ok (.iinc 5 (-1), 3) := by decide +kernel
theorem dX12_settings_245 : decode cX12_settings 245 = .ok (.goto (-179), 3) := by decide +kernel
theorem dX12_settings_248 : decode cX12_settings 248 = .ok (.aload_n 0, 1) := by decide +kernel
theorem dX12_settings_249 : decode cX12_settings 249 = .ok (.getfield 126, 3) := by decide +kernel
theorem dX12_settings_252 : decode cX12_settings 252 = .ok (.iload 4, 2) := by decide +kernel
theorem dX12_settings_254 : decode cX12_settings 254 = .ok (.iconst 1, 1) := by decide +kernel
theorem dX12_settings_255 : decode cX12_settings 255 = .ok (.isub, 1) := by decide +kernel
theorem dX12_settings_256 : decode cX12_settings 256 = .ok (.iaload, 1) := by decide +kernel
theorem dX12_settings_257 : decode cX12_settings 257 = .ok (.ireturn, 1) := by decide +kernel
theorem dX12_leaves_0 : decode cX12_leaves 0 = .ok (.iconst 0, 1) := by decide +kernel
theorem dX12_leaves_1 : decode cX12_leaves 1 = .ok (.istore_n 3, 1) := by decide +kernel
theorem dX12_leaves_2 : decode cX12_leaves 2 = .ok (.iload_n 3, 1) := by decide +kernel
theorem dX12_leaves_3 : decode cX12_leaves 3 = .ok (.iconst 4, 1) := by decide +kernel
theorem dX12_leaves_4 : decode cX12_leaves 4 = .ok (.if_icmp .ge 26, 3) := by decide +kernel
theorem dX12_leaves_7 : decode cX12_leaves 7 = .ok (.aload_n 0, 1) := by decide +kernel
theorem dX12_leaves_8 : decode cX12_leaves 8 = .ok (.getfield 30, 3) := by decide +kernel
theorem dX12_leaves_11 : decode cX12_leaves 11 = .ok (.bipush 8, 2) := by decide +kernel
theorem dX12_leaves_13 : decode cX12_leaves 13 = .ok (.iload_n 1, 1) := by decide +kernel
theorem dX12_leaves_14 : decode cX12_leaves 14 = .ok (.imul, 1) := by decide +kernel
theorem dX12_leaves_15 : decode cX12_leaves 15 = .ok (.iload_n 3, 1) := by decide +kernel
theorem dX12_leaves_16 : decode cX12_leaves 16 = .ok (.iadd, 1) := by decide +kernel
theorem dX12_leaves_17 : decode cX12_leaves 17 = .ok (.iaload, 1) := by decide +kernel
theorem dX12_leaves_18 : decode cX12_leaves 18 = .ok (.iload_n 2, 1) := by decide +kernel
theorem dX12_leaves_19 : decode cX12_leaves 19 = .ok (.if_icmp .ne 5, 3) := by decide +kernel
theorem dX12_leaves_22 : decode cX12_leaves 22 = .ok (.iconst 1, 1) := by decide +kernel
theorem dX12_leaves_23 : decode cX12_leaves 23 = .ok (.ireturn, 1) := by decide +kernel
theorem dX12_leaves_24 : decode cX12_leaves 24 = .ok (.iinc 3 1, 3) := by decide +kernel
theorem dX12_leaves_27 : decode cX12_leaves 27 = .ok (.goto (-25), 3) := by decide +kernel
theorem dX12_leaves_30 : decode cX12_leaves 30 = .ok (.iconst 0, 1) := by decide +kernel
theorem dX12_leaves_31 : decode cX12_leaves 31 = .ok (.ireturn, 1) := by decide +kernel
theorem dX12_weight_0 : decode cX12_weight 0 = .ok (.iconst 1, 1) := by decide +kernel
theorem dX12_weight_1 : decode cX12_weight 1 = .ok (.istore_n 2, 1) := by decide +kernel
theorem dX12_weight_2 : decode cX12_weight 2 = .ok (.iconst 0, 1) := by decide +kernel
theorem dX12_weight_3 : decode cX12_weight 3 = .ok (.istore_n 3, 1) := by decide +kernel
theorem dX12_weight_4 : decode cX12_weight 4 = .ok (.aload_n 0, 1) := by decide +kernel
theorem dX12_weight_5 : decode cX12_weight 5 = .ok (.getfield 373, 3) := by decide +kernel
theorem dX12_weight_8 : decode cX12_weight 8 = .ok (.istore 4, 2) := by decide +kernel
theorem dX12_weight_10 : decode cX12_weight 10 = .ok (.iload 4, 2) := by decide +kernel
theorem dX12_weight_12 : decode cX12_weight 12 = .ok (.aload_n 0, 1) := by decide +kernel
theorem dX12_weight_13 : decode cX12_weight 13 = .ok (.getfield 376, 3) := by decide +kernel
theorem dX12_weight_16 : decode cX12_weight 16 = .ok (.if_icmp .gt 54, 3) := by decide +kernel
theorem dX12_weight_19 : decode cX12_weight 19 = .ok (.iload_n 3, 1) := by decide +kernel
theorem dX12_weight_20 : decode cX12_weight 20 = .ok (.bipush 8, 2) := by decide +kernel
theorem dX12_weight_22 : decode cX12_weight 22 = .ok (.if_icmp .ge 48, 3) := by decide +kernel
theorem dX12_weight_25 : decode cX12_weight 25 = .ok (.aload_n 0, 1) := by decide +kernel
theorem dX12_weight_26 : decode cX12_weight 26 = .ok (.getfield 108, 3) := by decide +kernel
theorem dX12_weight_29 : decode cX12_weight 29 = .ok (.iload 4, 2) := by decide +kernel
theorem dX12_weight_31 : decode cX12_weight 31 = .ok (.iaload, 1) := by decide +kernel
theorem dX12_weight_32 : decode cX12_weight 32 = .ok (.ifCond .ne 6, 3) := by decide +kernel
theorem dX12_weight_35 : decode cX12_weight 35 = .ok (.goto 29, 3) := by decide +kernel
