theorem dX12_isIn_0 : decode cX12_isIn 0 = .ok (.iload_n 0, 1) := by decide +kernel
theorem dX12_isIn_1 : decode cX12_isIn 1 = .ok (.iload_n 1, 1) := by decide +kernel
theorem dX12_isIn_2 : decode cX12_isIn 2 = .ok (.if_icmp .lt 12, 3) := by decide +kernel
theorem dX12_isIn_5 : decode cX12_isIn 5 = .ok (.iload_n 0, 1) := by decide +kernel
theorem dX12_isIn_6 : decode cX12_isIn 6 = .ok (.iload_n 2, 1) := by decide +kernel
theorem dX12_isIn_7 : decode cX12_isIn 7 = .ok (.if_icmp .gt 7, 3) := by decide +kernel
theorem dX12_isIn_10 : decode cX12_isIn 10 = .ok (.iconst 1, 1) := by decide +kernel
theorem dX12_isIn_11 : decode cX12_isIn 11 = .ok (.goto 4, 3) := by decide +kernel
theorem dX12_isIn_14 : decode cX12_isIn 14 = .ok (.iconst 0, 1) := by decide +kernel
theorem dX12_isIn_15 : decode cX12_isIn 15 = .ok (.ireturn, 1) := by decide +kernel
theorem dX12_apart_0 : decode cX12_apart 0 = .ok (.iload_n 0, 1) := by decide +kernel
theorem dX12_apart_1 : decode cX12_apart 1 = .ok (.iload_n 1, 1) := by decide +kernel
theorem dX12_apart_2 : decode cX12_apart 2 = .ok (.if_icmp .le 9, 3) := by decide +kernel
theorem dX12_apart_5 : decode cX12_apart 5 = .ok (.iload_n 0, 1) := by decide +kernel
theorem dX12_apart_6 : decode cX12_apart 6 = .ok (.iload_n 1, 1) := by decide +kernel
theorem dX12_apart_7 : decode cX12_apart 7 = .ok (.isub, 1) := by decide +kernel
theorem dX12_apart_8 : decode cX12_apart 8 = .ok (.goto 6, 3) := by decide +kernel
theorem dX12_apart_11 : decode cX12_apart 11 = .ok (.iload_n 1, 1) := by decide +kernel
theorem dX12_apart_12 : decode cX12_apart 12 = .ok (.iload_n 0, 1) := by decide +kernel
theorem dX12_apart_13 : decode cX12_apart 13 = .ok (.isub, 1) := by decide +kernel
theorem dX12_apart_14 : decode cX12_apart 14 = .ok (.ireturn, 1) := by decide +kernel
theorem dX12_state_0 : decode cX12_state 0 = .ok (.aload_n 0, 1) := by decide +kernel
theorem dX12_state_1 : decode cX12_state 1 = .ok (.getfield 1, 3) := by decide +kernel
theorem dX12_state_4 : decode cX12_state 4 = .ok (.istore_n 2, 1) := by decide +kernel
theorem dX12_state_5 : decode cX12_state 5 = .ok (.aload_n 0, 1) := by decide +kernel
theorem dX12_state_6 : decode cX12_state 6 = .ok (.iload_n 1, 1) := by decide +kernel
theorem dX12_state_7 : decode cX12_state 7 = .ok (.putfield 1, 3) := by decide +kernel
theorem dX12_state_10 : decode cX12_state 10 = .ok (.iload_n 2, 1) := by decide +kernel
theorem dX12_state_11 : decode cX12_state 11 = .ok (.ireturn, 1) := by decide +kernel
theorem dX12_draw_0 : decode cX12_draw 0 = .ok (.aload_n 0, 1) := by decide +kernel
theorem dX12_draw_1 : decode cX12_draw 1 = .ok (.ldc 7, 2) := by decide +kernel
theorem dX12_draw_3 : decode cX12_draw 3 = .ok (.aload_n 0, 1) := by decide +kernel
theorem dX12_draw_4 : decode cX12_draw 4 = .ok (.getfield 1, 3) := by decide +kernel
theorem dX12_draw_7 : decode cX12_draw 7 = .ok (.imul, 1) := by decide +kernel
theorem dX12_draw_8 : decode cX12_draw 8 = .ok (.ldc 8, 2) := by decide +kernel
theorem dX12_draw_10 : decode cX12_draw 10 = .ok (.iadd, 1) := by decide +kernel
theorem dX12_draw_11 : decode cX12_draw 11 = .ok (.putfield 1, 3) := by decide +kernel
theorem dX12_draw_14 : decode cX12_draw 14 = .ok (.aload_n 0, 1) := by decide +kernel
theorem dX12_draw_15 : decode cX12_draw 15 = .ok (.getfield 1, 3) := by decide +kernel
theorem dX12_draw_18 : decode cX12_draw 18 = .ok (.bipush 8, 2) := by decide +kernel
theorem dX12_draw_20 : decode cX12_draw 20 = .ok (.iushr, 1) := by decide +kernel
theorem dX12_draw_21 : decode cX12_draw 21 = .ok (.iload_n 1, 1) := by decide +kernel
theorem dX12_draw_22 : decode cX12_draw 22 = .ok (.irem, 1) := by decide +kernel
theorem dX12_draw_23 : decode cX12_draw 23 = .ok (.ireturn, 1) := by decide +kernel
theorem dX12_beats_0 : decode cX12_beats 0 = .ok (.iload_n 2, 1) := by decide +kernel
theorem dX12_beats_1 : decode cX12_beats 1 = .ok (.iconst 1, 1) := by decide +kernel
theorem dX12_beats_2 : decode cX12_beats 2 = .ok (.iconst 4, 1) := by decide +kernel
theorem dX12_beats_3 : decode cX12_beats 3 = .ok (.invokestatic 9, 3) := by decide +kernel
theorem dX12_beats_6 : decode cX12_beats 6 = .ok (.ifCond .eq 15, 3) := by decide +kernel
theorem dX12_beats_9 : decode cX12_beats 9 = .ok (.aload_n 0, 1) := by decide +kernel
theorem dX12_beats_10 : decode cX12_beats 10 = .ok (.getfield 13, 3) := by decide +kernel
theorem dX12_beats_13 : decode cX12_beats 13 = .ok (.iload_n 2, 1) := by decide +kernel
theorem dX12_beats_14 : decode cX12_beats 14 = .ok (.iadd, 1) := by decide +kernel
theorem dX12_beats_15 : decode cX12_beats 15 = .ok (.sipush 2000, 3) := by decide +kernel
theorem dX12_beats_18 : decode cX12_beats 18 = .ok (.if_icmp .le 5, 3) := by decide +kernel
theorem dX12_beats_21 : decode cX12_beats 21 = .ok (.iconst (-1), 1) := by decide +kernel
theorem dX12_beats_22 : decode cX12_beats 22 = .ok (.ireturn, 1) := by decide +kernel
theorem dX12_beats_23 : decode cX12_beats 23 = .ok (.iconst 0, 1) := by decide +kernel
theorem dX12_beats_24 : decode cX12_beats 24 = .ok (.istore_n 3, 1) := by decide +kernel
theorem dX12_beats_25 : decode cX12_beats 25 = .ok (.iload_n 3, 1) := by decide +kernel
theorem dX12_beats_26 : decode cX12_beats 26 = .ok (.iload_n 2, 1) := by decide +kernel
theorem dX12_beats_27 : decode cX12_beats 27 = .ok (.if_icmp .ge 40, 3) := by decide +kernel
theorem dX12_beats_30 : decode cX12_beats 30 = .ok (.aload_n 0, 1) := by decide +kernel
theorem dX12_beats_31 : decode cX12_beats 31 = .ok (.getfield 16, 3) := by decide +kernel
theorem dX12_beats_34 : decode cX12_beats 34 = .ok (.aload_n 0, 1) := by decide +kernel
theorem dX12_beats_35 : decode cX12_beats 35 = .ok (.getfield 13, 3) := by decide +kernel
theorem dX12_beats_38 : decode cX12_beats 38 = .ok (.iload_n 1, 1) := by decide +kernel
theorem dX12_beats_39 : decode cX12_beats 39 = .ok (.bipush 24, 2) := by decide +kernel
theorem dX12_beats_41 : decode cX12_beats 41 = .ok (.bipush 8, 2) := by decide +kernel
theorem dX12_beats_43 : decode cX12_beats 43 = .ok (.iload_n 3, 1) := by decide +kernel
theorem dX12_beats_44 : decode cX12_beats 44 = .ok (.imul, 1) := by decide +kernel
theorem dX12_beats_45 : decode cX12_beats 45 = .ok (.isub, 1) := by decide +kernel
theorem dX12_beats_46 : decode cX12_beats 46 = .ok (.ishr, 1) := by decide +kernel
theorem dX12_beats_47 : decode cX12_beats 47 = .ok (.bipush 63, 2) := by decide +kernel
theorem dX12_beats_49 : decode cX12_beats 49 = .ok (.iand, 1) := by decide +kernel
theorem dX12_beats_50 : decode cX12_beats 50 = .ok (.iastore, 1) := by decide +kernel
theorem dX12_beats_51 : decode cX12_beats 51 = .ok (.aload_n 0, 1) := by decide +kernel
theorem dX12_beats_52 : decode cX12_beats 52 = .ok (.dup, 1) := by decide +kernel
theorem dX12_beats_53 : decode cX12_beats 53 = .ok (.getfield 13, 3) := by decide +kernel
theorem dX12_beats_56 : decode cX12_beats 56 = .ok (.iconst 1, 1) := by decide +kernel
theorem dX12_beats_57 : decode cX12_beats 57 = .ok (.iadd, 1) := by decide +kernel
theorem dX12_beats_58 : decode cX12_beats 58 = .ok (.putfield 13, 3) := by decide +kernel
theorem dX12_beats_61 : decode cX12_beats 61 = .ok (.iinc 3 1, 3) := by decide +kernel
theorem dX12_beats_64 : decode cX12_beats 64 = .ok (.goto (-39), 3) := by decide +kernel
theorem dX12_beats_67 : decode cX12_beats 67 = .ok (.aload_n 0, 1) := by decide +kernel
theorem dX12_beats_68 : decode cX12_beats 68 = .ok (.getfield 13, 3) := by decide +kernel
theorem dX12_beats_71 : decode cX12_beats 71 = .ok (.ireturn, 1) := by decide +kernel
theorem dX12_drawn_0 : decode cX12_drawn 0 = .ok (.iload_n 1, 1) := by decide +kernel
theorem dX12_drawn_1 : decode cX12_drawn 1 = .ok (.iconst 1, 1) := by decide +kernel
theorem dX12_drawn_2 : decode cX12_drawn 2 = .ok (.sipush 500, 3) := by decide +kernel
theorem dX12_drawn_5 : decode cX12_drawn 5 = .ok (.invokestatic 9, 3) := by decide +kernel
theorem dX12_drawn_8 : decode cX12_drawn 8 = .ok (.ifCond .eq 15, 3) := by decide +kernel
theorem dX12_drawn_11 : decode cX12_drawn 11 = .ok (.aload_n 0, 1) := by decide +kernel
theorem dX12_drawn_12 : decode cX12_drawn 12 = .ok (.getfield 13, 3) := by decide +kernel
theorem dX12_drawn_15 : decode cX12_drawn 15 = .ok (.iload_n 1, 1) := by decide +kernel
theorem dX12_drawn_16 : decode cX12_drawn 16 = .ok (.iadd, 1) := by decide +kernel
theorem dX12_drawn_17 : decode cX12_drawn 17 = .ok (.sipush 2000, 3) := by decide +kernel
theorem dX12_drawn_20 : decode cX12_drawn 20 = .ok (.if_icmp .le 5, 3) := by decide +kernel
theorem dX12_drawn_23 : decode cX12_drawn 23 = .ok (.iconst (-1), 1) := by decide +kernel
theorem dX12_drawn_24 : decode cX12_drawn 24 = .ok (.ireturn, 1) := by decide +kernel
theorem dX12_drawn_25 : decode cX12_drawn 25 = .ok (.iconst 0, 1) := by decide +kernel
theorem dX12_drawn_26 : decode cX12_drawn 26 = .ok (.istore_n 2, 1) := by decide +kernel
theorem dX12_drawn_27 : decode cX12_drawn 27 = .ok (.iload_n 2, 1) := by decide +kernel
theorem dX12_drawn_28 : decode cX12_drawn 28 = .ok (.iload_n 1, 1) := by decide +kernel
theorem dX12_drawn_29 : decode cX12_drawn 29 = .ok (.if_icmp .ge 80, 3) := by decide +kernel
theorem dX12_drawn_32 : decode cX12_drawn 32 = .ok (.aload_n 0, 1) := by decide +kernel
theorem dX12_drawn_33 : decode cX12_drawn 33 = .ok (.getfield 13, 3) := by decide +kernel
theorem dX12_drawn_36 : decode cX12_drawn 36 = .ok (.ifCond .ne 8, 3) := by decide +kernel
theorem dX12_drawn_39 : decode cX12_drawn 39 = .ok (.bipush 32, 2) := by decide +kernel
theorem dX12_drawn_41 : decode cX12_drawn 41 = .ok (.goto 14, 3) := by decide +kernel
theorem dX12_drawn_44 : decode cX12_drawn 44 = .ok (.aload_n 0, 1) := by decide +kernel
theorem dX12_drawn_45 : decode cX12_drawn 45 = .ok (.getfield 16, 3) := by decide +kernel
theorem dX12_drawn_48 : decode cX12_drawn 48 = .ok (.aload_n 0, 1) := by decide +kernel
theorem dX12_drawn_49 : decode cX12_drawn 49 = .ok (.getfield 13, 3) := by decide +kernel
theorem dX12_drawn_52 : decode cX12_drawn 52 = .ok (.iconst 1, 1) := by decide +kernel
theorem dX12_drawn_53 : decode cX12_drawn 53 = .ok (.isub, 1) := by decide +kernel
theorem dX12_drawn_54 : decode cX12_drawn 54 = .ok (.iaload, 1) := by decide +kernel
theorem dX12_drawn_55 : decode cX12_drawn 55 = .ok (.aload_n 0, 1) := by decide +kernel
theorem dX12_drawn_56 : decode cX12_drawn 56 = .ok (.iconst 3, 1) := by decide +kernel
theorem dX12_drawn_57 : decode cX12_drawn 57 = .ok (.invokevirtual 20, 3) := by decide +kernel
theorem dX12_drawn_60 : decode cX12_drawn 60 = .ok (.iadd, 1) := by decide +kernel
theorem dX12_drawn_61 : decode cX12_drawn 61 = .ok (.iconst 1, 1) := by decide +kernel
theorem dX12_drawn_62 : decode cX12_drawn 62 = .ok (.isub, 1) := by decide +kernel
theorem dX12_drawn_63 : decode cX12_drawn 63 = .ok (.istore_n 3, 1) := by decide +kernel
theorem dX12_drawn_64 : decode cX12_drawn 64 = .ok (.aload_n 0, 1) := by decide +kernel
theorem dX12_drawn_65 : decode cX12_drawn 65 = .ok (.getfield 16, 3) := by decide +kernel
theorem dX12_drawn_68 : decode cX12_drawn 68 = .ok (.aload_n 0, 1) := by decide +kernel
theorem dX12_drawn_69 : decode cX12_drawn 69 = .ok (.getfield 13, 3) := by decide +kernel
theorem dX12_drawn_72 : decode cX12_drawn 72 = .ok (.iload_n 3, 1) := by decide +kernel
theorem dX12_drawn_73 : decode cX12_drawn 73 = .ok (.ifCond .ge 7, 3) := by decide +kernel
theorem dX12_drawn_76 : decode cX12_drawn 76 = .ok (.iconst 0, 1) := by decide +kernel
theorem dX12_drawn_77 : decode cX12_drawn 77 = .ok (.goto 15, 3) := by decide +kernel
theorem dX12_drawn_80 : decode cX12_drawn 80 = .ok (.iload_n 3, 1) := by decide +kernel
theorem dX12_drawn_81 : decode cX12_drawn 81 = .ok (.bipush 63, 2) := by decide +kernel
theorem dX12_drawn_83 : decode cX12_drawn 83 = .ok (.if_icmp .le 8, 3) := by decide +kernel
theorem dX12_drawn_86 : decode cX12_drawn 86 = .ok (.bipush 63, 2) := by decide +kernel
theorem dX12_drawn_88 : decode cX12_drawn 88 = .ok (.goto 4, 3) := by decide +kernel
theorem dX12_drawn_91 : decode cX12_drawn 91 = .ok (.iload_n 3, 1) := by decide +kernel
theorem dX12_drawn_92 : decode cX12_drawn 92 = .ok (.iastore, 1) := by decide +kernel
theorem dX12_drawn_93 : decode cX12_drawn 93 = .ok (.aload_n 0, 1) := by decide +kernel
theorem dX12_drawn_94 : decode cX12_drawn 94 = .ok (.dup, 1) := by decide +kernel
theorem dX12_drawn_95 : decode cX12_drawn 95 = .ok (.getfield 13, 3) := by decide +kernel
theorem dX12_drawn_98 : decode cX12_drawn 98 = .ok (.iconst 1, 1) := by decide +kernel
theorem dX12_drawn_99 : decode cX12_drawn 99 = .ok (.iadd, 1) := by decide +kernel
theorem dX12_drawn_100 : decode cX12_drawn 100 = .ok (.putfield 13, 3) := by decide +kernel
theorem dX12_drawn_103 : decode cX12_drawn 103 = .ok (.iinc 2 1, 3) := by decide +kernel
theorem dX12_drawn_106 : decode cX12_drawn 106 = .ok (.goto (-79), 3) := by decide +kernel
theorem dX12_drawn_109 : decode cX12_drawn 109 = .ok (.aload_n 0, 1) := by decide +kernel
theorem dX12_drawn_110 : decode cX12_drawn 110 = .ok (.getfield 13, 3) := by decide +kernel
theorem dX12_drawn_113 : decode cX12_drawn 113 = .ok (.ireturn, 1) := by decide +kernel
theorem dX12_hum_0 : decode cX12_hum 0 = .ok (.iload_n 1, 1) := by decide +kernel
theorem dX12_hum_1 : decode cX12_hum 1 = .ok (.iconst 0, 1) := by decide +kernel
theorem dX12_hum_2 : decode cX12_hum 2 = .ok (.aload_n 0, 1) := by decide +kernel
theorem dX12_hum_3 : decode cX12_hum 3 = .ok (.getfield 13, 3) := by decide +kernel
theorem dX12_hum_6 : decode cX12_hum 6 = .ok (.iconst 1, 1) := by decide +kernel
theorem dX12_hum_7 : decode cX12_hum 7 = .ok (.isub, 1) := by decide +kernel
theorem dX12_hum_8 : decode cX12_hum 8 = .ok (.invokestatic 9, 3) := by decide +kernel
theorem dX12_hum_11 : decode cX12_hum 11 = .ok (.ifCond .eq 12, 3) := by decide +kernel
theorem dX12_hum_14 : decode cX12_hum 14 = .ok (.aload_n 0, 1) := by decide +kernel
theorem dX12_hum_15 : decode cX12_hum 15 = .ok (.getfield 16, 3) := by decide +kernel
theorem dX12_hum_18 : decode cX12_hum 18 = .ok (.iload_n 1, 1) := by decide +kernel
theorem dX12_hum_19 : decode cX12_hum 19 = .ok (.iaload, 1) := by decide +kernel
theorem dX12_hum_20 : decode cX12_hum 20 = .ok (.goto 4, 3) := by decide +kernel
theorem dX12_hum_23 : decode cX12_hum 23 = .ok (.iconst (-1), 1) := by decide +kernel
theorem dX12_hum_24 : decode cX12_hum 24 = .ok (.ireturn, 1) := by decide +kernel
theorem dX12_init_0 : decode cX12_init 0 = .ok (.aload_n 0, 1) := by decide +kernel
theorem dX12_init_1 : decode cX12_init 1 = .ok (.invokespecial 24, 3) := by decide +kernel
theorem dX12_init_4 : decode cX12_init 4 = .ok (.aload_n 0, 1) := by decide +kernel
theorem dX12_init_5 : decode cX12_init 5 = .ok (.sipush 2000, 3) := by decide +kernel
theorem dX12_init_8 : decode cX12_init 8 = .ok (.newarray .int, 2) := by decide +kernel
theorem dX12_init_10 : decode cX12_init 10 = .ok (.putfield 16, 3) := by decide +kernel
theorem dX12_init_13 : decode cX12_init 13 = .ok (.aload_n 0, 1) := by decide +kernel
theorem dX12_init_14 : decode cX12_init 14 = .ok (.bipush 48, 2) := by decide +kernel
theorem dX12_init_16 : decode cX12_init 16 = .ok (.newarray .int, 2) := by decide +kernel
theorem dX12_init_18 : decode cX12_init 18 = .ok (.putfield 30, 3) := by decide +kernel
theorem dX12_init_21 : decode cX12_init 21 = .ok (.aload_n 0, 1) := by decide +kernel
theorem dX12_init_22 : decode cX12_init 22 = .ok (.bipush 8, 2) := by decide +kernel
theorem dX12_init_24 : decode cX12_init 24 = .ok (.newarray .int, 2) := by decide +kernel
theorem dX12_init_26 : decode cX12_init 26 = .ok (.putfield 33, 3) := by decide +kernel
theorem dX12_init_29 : decode cX12_init 29 = .ok (.aload_n 0, 1) := by decide +kernel
theorem dX12_init_30 : decode cX12_init 30 = .ok (.bipush 8, 2) := by decide +kernel
theorem dX12_init_32 : decode cX12_init 32 = .ok (.newarray .int, 2) := by decide +kernel
theorem dX12_init_34 : decode cX12_init 34 = .ok (.putfield 36, 3) := by decide +kernel
theorem dX12_init_37 : decode cX12_init 37 = .ok (.aload_n 0, 1) := by decide +kernel
theorem dX12_init_38 : decode cX12_init 38 = .ok (.sipush 240, 3) := by decide +kernel
theorem dX12_init_41 : decode cX12_init 41 = .ok (.newarray .int, 2) := by decide +kernel
theorem dX12_init_43 : decode cX12_init 43 = .ok (.putfield 39, 3) := by decide +kernel
theorem dX12_init_46 : decode cX12_init 46 = .ok (.aload_n 0, 1) := by decide +kernel
theorem dX12_init_47 : decode cX12_init 47 = .ok (.sipush 240, 3) := by decide +kernel
theorem dX12_init_50 : decode cX12_init 50 = .ok (.newarray .int, 2) := by decide +kernel
theorem dX12_init_52 : decode cX12_init 52 = .ok (.putfield 42, 3) := by decide +kernel
theorem dX12_init_55 : decode cX12_init 55 = .ok (.aload_n 0, 1) := by decide +kernel
theorem dX12_init_56 : decode cX12_init 56 = .ok (.sipush 240, 3) := by decide +kernel
theorem dX12_init_59 : decode cX12_init 59 = .ok (.newarray .int, 2) := by decide +kernel
theorem dX12_init_61 : decode cX12_init 61 = .ok (.putfield 45, 3) := by decide +kernel
theorem dX12_init_64 : decode cX12_init 64 = .ok (.aload_n 0, 1) := by decide +kernel
theorem dX12_init_65 : decode cX12_init 65 = .ok (.bipush 6, 2) := by decide +kernel
theorem dX12_init_67 : decode cX12_init 67 = .ok (.newarray .int, 2) := by decide +kernel
theorem dX12_init_69 : decode cX12_init 69 = .ok (.putfield 48, 3) := by decide +kernel
theorem dX12_init_72 : decode cX12_init 72 = .ok (.aload_n 0, 1) := by decide +kernel
theorem dX12_init_73 : decode cX12_init 73 = .ok (.bipush 40, 2) := by decide +kernel
theorem dX12_init_75 : decode cX12_init 75 = .ok (.newarray .int, 2) := by decide +kernel
theorem dX12_init_77 : decode cX12_init 77 = .ok (.putfield 51, 3) := by decide +kernel
theorem dX12_init_80 : decode cX12_init 80 = .ok (.aload_n 0, 1) := by decide +kernel
theorem dX12_init_81 : decode cX12_init 81 = .ok (.bipush 40, 2) := by decide +kernel
theorem dX12_init_83 : decode cX12_init 83 = .ok (.newarray .int, 2) := by decide +kernel
theorem dX12_init_85 : decode cX12_init 85 = .ok (.putfield 54, 3) := by decide +kernel
theorem dX12_init_88 : decode cX12_init 88 = .ok (.aload_n 0, 1) := by decide +kernel
theorem dX12_init_89 : decode cX12_init 89 = .ok (.bipush 40, 2) := by decide +kernel
theorem dX12_init_91 : decode cX12_init 91 = .ok (.newarray .int, 2) := by decide +kernel
theorem dX12_init_93 : decode cX12_init 93 = .ok (.putfield 57, 3) := by decide +kernel
theorem dX12_init_96 : decode cX12_init 96 = .ok (.aload_n 0, 1) := by decide +kernel
theorem dX12_init_97 : decode cX12_init 97 = .ok (.iconst 4, 1) := by decide +kernel
theorem dX12_init_98 : decode cX12_init 98 = .ok (.newarray .int, 2) := by decide +kernel
theorem dX12_init_100 : decode cX12_init 100 = .ok (.putfield 60, 3) := by decide +kernel
theorem dX12_init_103 : decode cX12_init 103 = .ok (.aload_n 0, 1) := by decide +kernel
theorem dX12_init_104 : decode cX12_init 104 = .ok (.bipush 48, 2) := by decide +kernel
theorem dX12_init_106 : decode cX12_init 106 = .ok (.newarray .int, 2) := by decide +kernel
theorem dX12_init_108 : decode cX12_init 108 = .ok (.putfield 63, 3) := by decide +kernel
theorem dX12_init_111 : decode cX12_init 111 = .ok (.aload_n 0, 1) := by decide +kernel
theorem dX12_init_112 : decode cX12_init 112 = .ok (.bipush 52, 2) := by decide +kernel
theorem dX12_init_114 : decode cX12_init 114 = .ok (.newarray .int, 2) := by decide +kernel
theorem dX12_init_116 : decode cX12_init 116 = .ok (.putfield 66, 3) := by decide +kernel
theorem dX12_init_119 : decode cX12_init 119 = .ok (.aload_n 0, 1) := by decide +kernel
theorem dX12_init_120 : decode cX12_init 120 = .ok (.sipush 4880, 3) := by decide +kernel
theorem dX12_init_123 : decode cX12_init 123 = .ok (.newarray .int, 2) := by decide +kernel
theorem dX12_init_125 : decode cX12_init 125 = .ok (.putfield 69, 3) := by decide +kernel
theorem dX12_init_128 : decode cX12_init 128 = .ok (.aload_n 0, 1) := by decide +kernel
theorem dX12_init_129 : decode cX12_init 129 = .ok (.bipush 12, 2) := by decide +kernel
theorem dX12_init_131 : decode cX12_init 131 = .ok (.newarray .int, 2) := by decide +kernel
theorem dX12_init_133 : decode cX12_init 133 = .ok (.putfield 72, 3) := by decide +kernel
theorem dX12_init_136 : decode cX12_init 136 = .ok (.aload_n 0, 1) := by decide +kernel
theorem dX12_init_137 : decode cX12_init 137 = .ok (.bipush 13, 2) := by decide +kernel
theorem dX12_init_139 : decode cX12_init 139 = .ok (.newarray .int, 2) := by decide +kernel
theorem dX12_init_141 : decode cX12_init 141 = .ok (.putfield 75, 3) := by decide +kernel
theorem dX12_init_144 : decode cX12_init 144 = .ok (.aload_n 0, 1) := by decide +kernel
theorem dX12_init_145 : decode cX12_init 145 = .ok (.sipush 1220, 3) := by decide +kernel
theorem dX12_init_148 : decode cX12_init 148 = .ok (.newarray .int, 2) := by decide +kernel
theorem dX12_init_150 : decode cX12_init 150 = .ok (.putfield 78, 3) := by decide +kernel
theorem dX12_init_153 : decode cX12_init 153 = .ok (.aload_n 0, 1) := by decide +kernel
theorem dX12_init_154 : decode cX12_init 154 = .ok (.sipush 600, 3) := by decide +kernel
theorem dX12_init_157 : decode cX12_init 157 = .ok (.newarray .int, 2) := by decide +kernel
theorem dX12_init_159 : decode cX12_init 159 = .ok (.putfield 81, 3) := by decide +kernel
theorem dX12_init_162 : decode cX12_init 162 = .ok (.aload_n 0, 1) := by decide +kernel
theorem dX12_init_163 : decode cX12_init 163 = .ok (.sipush 620, 3) := by decide +kernel
theorem dX12_init_166 : decode cX12_init 166 = .ok (.newarray .int, 2) := by decide +kernel
theorem dX12_init_168 : decode cX12_init 168 = .ok (.putfield 84, 3) := by decide +kernel
theorem dX12_init_171 : decode cX12_init 171 = .ok (.aload_n 0, 1) := by decide +kernel
theorem dX12_init_172 : decode cX12_init 172 = .ok (.bipush 10, 2) := by decide +kernel
theorem dX12_init_174 : decode cX12_init 174 = .ok (.newarray .int, 2) := by decide +kernel
theorem dX12_init_176 : decode cX12_init 176 = .ok (.putfield 87, 3) := by decide +kernel
theorem dX12_init_179 : decode cX12_init 179 = .ok (.aload_n 0, 1) := by decide +kernel
theorem dX12_init_180 : decode cX12_init 180 = .ok (.iconst (-1), 1) := by decide +kernel
theorem dX12_init_181 : decode cX12_init 181 = .ok (.putfield 90, 3) := by decide +kernel
theorem dX12_init_184 : decode cX12_init 184 = .ok (.aload_n 0, 1) := by decide +kernel
theorem dX12_init_185 : decode cX12_init 185 = .ok (.sipush 1200, 3) := by decide +kernel
theorem dX12_init_188 : decode cX12_init 188 = .ok (.newarray .int, 2) := by decide +kernel
theorem dX12_init_190 : decode cX12_init 190 = .ok (.putfield 93, 3) := by decide +kernel
theorem dX12_init_193 : decode cX12_init 193 = .ok (.aload_n 0, 1) := by decide +kernel
theorem dX12_init_194 : decode cX12_init 194 = .ok (.sipush 1200, 3) := by decide +kernel
theorem dX12_init_197 : decode cX12_init 197 = .ok (.newarray .int, 2) := by decide +kernel
theorem dX12_init_199 : decode cX12_init 199 = .ok (.putfield 96, 3) := by decide +kernel
theorem dX12_init_202 : decode cX12_init 202 = .ok (.aload_n 0, 1) := by decide +kernel
theorem dX12_init_203 : decode cX12_init 203 = .ok (.sipush 1200, 3) := by decide +kernel
theorem dX12_init_206 : decode cX12_init 206 = .ok (.newarray .int, 2) := by decide +kernel
theorem dX12_init_208 : decode cX12_init 208 = .ok (.putfield 99, 3) := by decide +kernel
theorem dX12_init_211 : decode cX12_init 211 = .ok (.aload_n 0, 1) := by decide +kernel
theorem dX12_init_212 : decode cX12_init 212 = .ok (.sipush 1200, 3) := by decide +kernel
theorem dX12_init_215 : decode cX12_init 215 = .ok (.newarray .int, 2) := by decide +kernel
theorem dX12_init_217 : decode cX12_init 217 = .ok (.putfield 102, 3) := by decide +kernel
theorem dX12_init_220 : decode cX12_init 220 = .ok (.aload_n 0, 1) := by decide +kernel
theorem dX12_init_221 : decode cX12_init 221 = .ok (.sipush 1200, 3) := by decide +kernel
theorem dX12_init_224 : decode cX12_init 224 = .ok (.newarray .int, 2) := by decide +kernel
theorem dX12_init_226 : decode cX12_init 226 = .ok (.putfield 105, 3) := by decide +kernel
theorem dX12_init_229 : decode cX12_init 229 = .ok (.aload_n 0, 1) := by decide +kernel
theorem dX12_init_230 : decode cX12_init 230 = .ok (.sipush 1200, 3) := by decide +kernel
theorem dX12_init_233 : decode cX12_init 233 = .ok (.newarray .int, 2) := by decide +kernel
theorem dX12_init_235 : decode cX12_init 235 = .ok (.putfield 108, 3) := by decide +kernel
theorem dX12_init_238 : decode cX12_init 238 = .ok (.aload_n 0, 1) := by decide +kernel
theorem dX12_init_239 : decode cX12_init 239 = .ok (.sipush 1200, 3) := by decide +kernel
theorem dX12_init_242 : decode cX12_init 242 = .ok (.newarray .int, 2) := by decide +kernel
theorem dX12_init_244 : decode cX12_init 244 = .ok (.putfield 111, 3) := by decide +kernel
theorem dX12_init_247 : decode cX12_init 247 = .ok (.aload_n 0, 1) := by decide +kernel
theorem dX12_init_248 : decode cX12_init 248 = .ok (.sipush 1200, 3) := by decide +kernel
theorem dX12_init_251 : decode cX12_init 251 = .ok (.newarray .int, 2) := by decide +kernel
theorem dX12_init_253 : decode cX12_init 253 = .ok (.putfield 114, 3) := by decide +kernel
theorem dX12_init_256 : decode cX12_init 256 = .ok (.aload_n 0, 1) := by decide +kernel
theorem dX12_init_257 : decode cX12_init 257 = .ok (.sipush 1200, 3) := by decide +kernel
theorem dX12_init_260 : decode cX12_init 260 = .ok (.newarray .int, 2) := by decide +kernel
theorem dX12_init_262 : decode cX12_init 262 = .ok (.putfield 117, 3) := by decide +kernel
theorem dX12_init_265 : decode cX12_init 265 = .ok (.aload_n 0, 1) := by decide +kernel
theorem dX12_init_266 : decode cX12_init 266 = .ok (.sipush 1200, 3) := by decide +kernel
theorem dX12_init_269 : decode cX12_init 269 = .ok (.newarray .int, 2) := by decide +kernel
theorem dX12_init_271 : decode cX12_init 271 = .ok (.putfield 120, 3) := by decide +kernel
theorem dX12_init_274 : decode cX12_init 274 = .ok (.aload_n 0, 1) := by decide +kernel
theorem dX12_init_275 : decode cX12_init 275 = .ok (.iconst (-1), 1) := by decide +kernel
theorem dX12_init_276 : decode cX12_init 276 = .ok (.putfield 123, 3) := by decide +kernel
theorem dX12_init_279 : decode cX12_init 279 = .ok (.aload_n 0, 1) := by decide +kernel
theorem dX12_init_280 : decode cX12_init 280 = .ok (.sipush 1681, 3) := by decide +kernel
theorem dX12_init_283 : decode cX12_init 283 = .ok (.newarray .int, 2) := by decide +kernel
theorem dX12_init_285 : decode cX12_init 285 = .ok (.putfield 126, 3) := by decide +kernel
theorem dX12_init_288 : decode cX12_init 288 = .ok (.aload_n 0, 1) := by decide +kernel
theorem dX12_init_289 : decode cX12_init 289 = .ok (.sipush 2000, 3) := by decide +kernel
theorem dX12_init_292 : decode cX12_init 292 = .ok (.newarray .int, 2) := by decide +kernel
theorem dX12_init_294 : decode cX12_init 294 = .ok (.putfield 129, 3) := by decide +kernel
theorem dX12_init_297 : decode cX12_init 297 = .ok (.aload_n 0, 1) := by decide +kernel
theorem dX12_init_298 : decode cX12_init 298 = .ok (.bipush 8, 2) := by decide +kernel
theorem dX12_init_300 : decode cX12_init 300 = .ok (.newarray .int, 2) := by decide +kernel
theorem dX12_init_302 : decode cX12_init 302 = .ok (.putfield 132, 3) := by decide +kernel
theorem dX12_init_305 : decode cX12_init 305 = .ok (.aload_n 0, 1) := by decide +kernel
theorem dX12_init_306 : decode cX12_init 306 = .ok (.sipush 300, 3) := by decide +kernel
theorem dX12_init_309 : decode cX12_init 309 = .ok (.putfield 135, 3) := by decide +kernel
theorem dX12_init_312 : decode cX12_init 312 = .ok (.iconst 0, 1) := by decide +kernel
theorem dX12_init_313 : decode cX12_init 313 = .ok (.istore_n 1, 1) := by decide +kernel
theorem dX12_init_314 : decode cX12_init 314 = .ok (.iload_n 1, 1) := by decide +kernel
theorem dX12_init_315 : decode cX12_init 315 = .ok (.bipush 6, 2) := by decide +kernel
theorem dX12_init_317 : decode cX12_init 317 = .ok (.if_icmp .ge 35, 3) := by decide +kernel
theorem dX12_init_320 : decode cX12_init 320 = .ok (.aload_n 0, 1) := by decide +kernel
theorem dX12_init_321 : decode cX12_init 321 = .ok (.getfield 30, 3) := by decide +kernel
theorem dX12_init_324 : decode cX12_init 324 = .ok (.bipush 8, 2) := by decide +kernel
theorem dX12_init_326 : decode cX12_init 326 = .ok (.iload_n 1, 1) := by decide +kernel
theorem dX12_init_327 : decode cX12_init 327 = .ok (.imul, 1) := by decide +kernel
theorem dX12_init_328 : decode cX12_init 328 = .ok (.iconst 4, 1) := by decide +kernel
theorem dX12_init_329 : decode cX12_init 329 = .ok (.iadd, 1) := by decide +kernel
theorem dX12_init_330 : decode cX12_init 330 = .ok (.iconst 5, 1) := by decide +kernel
theorem dX12_init_331 : decode cX12_init 331 = .ok (.iastore, 1) := by decide +kernel
theorem dX12_init_332 : decode cX12_init 332 = .ok (.aload_n 0, 1) := by decide +kernel
theorem dX12_init_333 : decode cX12_init 333 = .ok (.getfield 30, 3) := by decide +kernel
theorem dX12_init_336 : decode cX12_init 336 = .ok (.bipush 8, 2) := by decide +kernel
theorem dX12_init_338 : decode cX12_init 338 = .ok (.iload_n 1, 1) := by decide +kernel
theorem dX12_init_339 : decode cX12_init 339 = .ok (.imul, 1) := by decide +kernel
theorem dX12_init_340 : decode cX12_init 340 = .ok (.bipush 7, 2) := by decide +kernel
theorem dX12_init_342 : decode cX12_init 342 = .ok (.iadd, 1) := by decide +kernel
theorem dX12_init_343 : decode cX12_init 343 = .ok (.bipush 100, 2) := by decide +kernel
theorem dX12_init_345 : decode cX12_init 345 = .ok (.iastore, 1) := by decide +kernel
theorem dX12_init_346 : decode cX12_init 346 = .ok (.iinc 1 1, 3) := by decide +kernel
theorem dX12_init_349 : decode cX12_init 349 = .ok (.goto (-35), 3) := by decide +kernel
theorem dX12_init_352 : decode cX12_init 352 = .ok (.iconst 0, 1) := by decide +kernel
theorem dX12_init_353 : decode cX12_init 353 = .ok (.istore_n 1, 1) := by decide +kernel
theorem dX12_init_354 : decode cX12_init 354 = .ok (.iload_n 1, 1) := by decide +kernel
theorem dX12_init_355 : decode cX12_init 355 = .ok (.iconst 4, 1) := by decide +kernel
theorem dX12_init_356 : decode cX12_init 356 = .ok (.if_icmp .ge 14, 3) := by decide +kernel
theorem dX12_init_359 : decode cX12_init 359 = .ok (.aload_n 0, 1) := by decide +kernel
theorem dX12_init_360 : decode cX12_init 360 = .ok (.iload_n 1, 1) := by decide +kernel
theorem dX12_init_361 : decode cX12_init 361 = .ok (.invokevirtual 138, 3) := by decide +kernel
theorem dX12_init_364 : decode cX12_init 364 = .ok (.iinc 1 1, 3) := by decide +kernel
theorem dX12_init_367 : decode cX12_init 367 = .ok (.goto (-13), 3) := by decide +kernel
theorem dX12_init_370 : decode cX12_init 370 = .ok (.return_, 1) := by decide +kernel
theorem dX12_feed_0 : decode cX12_feed 0 = .ok (.aload_n 0, 1) := by decide +kernel
theorem dX12_feed_1 : decode cX12_feed 1 = .ok (.getfield 142, 3) := by decide +kernel
theorem dX12_feed_4 : decode cX12_feed 4 = .ok (.bipush 20, 2) := by decide +kernel
theorem dX12_feed_6 : decode cX12_feed 6 = .ok (.iadd, 1) := by decide +kernel
theorem dX12_feed_7 : decode cX12_feed 7 = .ok (.sipush 600, 3) := by decide +kernel
theorem dX12_feed_10 : decode cX12_feed 10 = .ok (.if_icmp .le 5, 3) := by decide +kernel
theorem dX12_feed_13 : decode cX12_feed 13 = .ok (.iconst (-1), 1) := by decide +kernel
theorem dX12_feed_14 : decode cX12_feed 14 = .ok (.ireturn, 1) := by decide +kernel
theorem dX12_feed_15 : decode cX12_feed 15 = .ok (.iconst 0, 1) := by decide +kernel
theorem dX12_feed_16 : decode cX12_feed 16 = .ok (.istore 6, 2) := by decide +kernel
theorem dX12_feed_18 : decode cX12_feed 18 = .ok (.iload 6, 2) := by decide +kernel
theorem dX12_feed_20 : decode cX12_feed 20 = .ok (.bipush 20, 2) := by decide +kernel
theorem dX12_feed_22 : decode cX12_feed 22 = .ok (.if_icmp .ge 93, 3) := by decide +kernel
theorem dX12_feed_25 : decode cX12_feed 25 = .ok (.iload 6, 2) := by decide +kernel
theorem dX12_feed_27 : decode cX12_feed 27 = .ok (.iconst 4, 1) := by decide +kernel
theorem dX12_feed_28 : decode cX12_feed 28 = .ok (.if_icmp .ge 7, 3) := by decide +kernel
theorem dX12_feed_31 : decode cX12_feed 31 = .ok (.iload_n 1, 1) := by decide +kernel
theorem dX12_feed_32 : decode cX12_feed 32 = .ok (.goto 39, 3) := by decide +kernel
theorem dX12_feed_35 : decode cX12_feed 35 = .ok (.iload 6, 2) := by decide +kernel
theorem dX12_feed_37 : decode cX12_feed 37 = .ok (.bipush 8, 2) := by decide +kernel
theorem dX12_feed_39 : decode cX12_feed 39 = .ok (.if_icmp .ge 7, 3) := by decide +kernel
theorem dX12_feed_42 : decode cX12_feed 42 = .ok (.iload_n 2, 1) := by decide +kernel
theorem dX12_feed_43 : decode cX12_feed 43 = .ok (.goto 28, 3) := by decide +kernel
theorem dX12_feed_46 : decode cX12_feed 46 = .ok (.iload 6, 2) := by decide +kernel
theorem dX12_feed_48 : decode cX12_feed 48 = .ok (.bipush 12, 2) := by decide +kernel
theorem dX12_feed_50 : decode cX12_feed 50 = .ok (.if_icmp .ge 7, 3) := by decide +kernel
theorem dX12_feed_53 : decode cX12_feed 53 = .ok (.iload_n 3, 1) := by decide +kernel
theorem dX12_feed_54 : decode cX12_feed 54 = .ok (.goto 17, 3) := by decide +kernel
theorem dX12_feed_57 : decode cX12_feed 57 = .ok (.iload 6, 2) := by decide +kernel
theorem dX12_feed_59 : decode cX12_feed 59 = .ok (.bipush 16, 2) := by decide +kernel
theorem dX12_feed_61 : decode cX12_feed 61 = .ok (.if_icmp .ge 8, 3) := by decide +kernel
theorem dX12_feed_64 : decode cX12_feed 64 = .ok (.iload 4, 2) := by decide +kernel
theorem dX12_feed_66 : decode cX12_feed 66 = .ok (.goto 5, 3) := by decide +kernel
theorem dX12_feed_69 : decode cX12_feed 69 = .ok (.iload 5, 2) := by decide +kernel
theorem dX12_feed_71 : decode cX12_feed 71 = .ok (.istore 7, 2) := by decide +kernel
theorem dX12_feed_73 : decode cX12_feed 73 = .ok (.aload_n 0, 1) := by decide +kernel
theorem dX12_feed_74 : decode cX12_feed 74 = .ok (.getfield 81, 3) := by decide +kernel
theorem dX12_feed_77 : decode cX12_feed 77 = .ok (.aload_n 0, 1) := by decide +kernel
theorem dX12_feed_78 : decode cX12_feed 78 = .ok (.getfield 142, 3) := by decide +kernel
theorem dX12_feed_81 : decode cX12_feed 81 = .ok (.iload 7, 2) := by decide +kernel
theorem dX12_feed_83 : decode cX12_feed 83 = .ok (.bipush 24, 2) := by decide +kernel
theorem dX12_feed_85 : decode cX12_feed 85 = .ok (.bipush 8, 2) := by decide +kernel
theorem dX12_feed_87 : decode cX12_feed 87 = .ok (.iload 6, 2) := by decide +kernel
theorem dX12_feed_89 : decode cX12_feed 89 = .ok (.iconst 4, 1) := by decide +kernel
theorem dX12_feed_90 : decode cX12_feed 90 = .ok (.irem, 1) := by decide +kernel
theorem dX12_feed_91 : decode cX12_feed 91 = .ok (.imul, 1) := by decide +kernel
theorem dX12_feed_92 : decode cX12_feed 92 = .ok (.isub, 1) := by decide +kernel
theorem dX12_feed_93 : decode cX12_feed 93 = .ok (.ishr, 1) := by decide +kernel
theorem dX12_feed_94 : decode cX12_feed 94 = .ok (.sipush 255, 3) := by decide +kernel
theorem dX12_feed_97 : decode cX12_feed 97 = .ok (.iand, 1) := by decide +kernel
theorem dX12_feed_98 : decode cX12_feed 98 = .ok (.iastore, 1) := by decide +kernel
theorem dX12_feed_99 : decode cX12_feed 99 = .ok (.aload_n 0, 1) := by decide +kernel
theorem dX12_feed_100 : decode cX12_feed 100 = .ok (.dup, 1) := by decide +kernel
theorem dX12_feed_101 : decode cX12_feed 101 = .ok (.getfield 142, 3) := by decide +kernel
theorem dX12_feed_104 : decode cX12_feed 104 = .ok (.iconst 1, 1) := by decide +kernel
theorem dX12_feed_105 : decode cX12_feed 105 = .ok (.iadd, 1) := by decide +kernel
theorem dX12_feed_106 : decode cX12_feed 106 = .ok (.putfield 142, 3) := by decide +kernel
theorem dX12_feed_109 : decode cX12_feed 109 = .ok (.iinc 6 1, 3) := by decide +kernel
theorem dX12_feed_112 : decode cX12_feed 112 = .ok (.goto (-94), 3) := by decide +kernel
theorem dX12_feed_115 : decode cX12_feed 115 = .ok (.aload_n 0, 1) := by decide +kernel
theorem dX12_feed_116 : decode cX12_feed 116 = .ok (.getfield 142, 3) := by decide +kernel
theorem dX12_feed_119 : decode cX12_feed 119 = .ok (.ireturn, 1) := by decide +kernel
theorem dX12_end_0 : decode cX12_end 0 = .ok (.iload_n 1, 1) := by decide +kernel
theorem dX12_end_1 : decode cX12_end 1 = .ok (.iconst 0, 1) := by decide +kernel
theorem dX12_end_2 : decode cX12_end 2 = .ok (.aload_n 0, 1) := by decide +kernel
theorem dX12_end_3 : decode cX12_end 3 = .ok (.getfield 142, 3) := by decide +kernel
theorem dX12_end_6 : decode cX12_end 6 = .ok (.invokestatic 9, 3) := by decide +kernel
theorem dX12_end_9 : decode cX12_end 9 = .ok (.ifCond .ne 5, 3) := by decide +kernel
theorem dX12_end_12 : decode cX12_end 12 = .ok (.iconst 0, 1) := by decide +kernel
theorem dX12_end_13 : decode cX12_end 13 = .ok (.ireturn, 1) := by decide +kernel
theorem dX12_end_14 : decode cX12_end 14 = .ok (.aload_n 0, 1) := by decide +kernel
theorem dX12_end_15 : decode cX12_end 15 = .ok (.iload_n 1, 1) := by decide +kernel
theorem dX12_end_16 : decode cX12_end 16 = .ok (.putfield 142, 3) := by decide +kernel
theorem dX12_end_19 : decode cX12_end 19 = .ok (.iconst 1, 1) := by decide +kernel
theorem dX12_end_20 : decode cX12_end 20 = .ok (.ireturn, 1) := by decide +kernel
theorem dX12_see_0 : decode cX12_see 0 = .ok (.iload_n 1, 1) := by decide +kernel
theorem dX12_see_1 : decode cX12_see 1 = .ok (.aload_n 0, 1) := by decide +kernel
theorem dX12_see_2 : decode cX12_see 2 = .ok (.getfield 142, 3) := by decide +kernel
theorem dX12_see_5 : decode cX12_see 5 = .ok (.if_icmp .ge 12, 3) := by decide +kernel
theorem dX12_see_8 : decode cX12_see 8 = .ok (.aload_n 0, 1) := by decide +kernel
theorem dX12_see_9 : decode cX12_see 9 = .ok (.getfield 81, 3) := by decide +kernel
theorem dX12_see_12 : decode cX12_see 12 = .ok (.iload_n 1, 1) := by decide +kernel
theorem dX12_see_13 : decode cX12_see 13 = .ok (.iaload, 1) := by decide +kernel
theorem dX12_see_14 : decode cX12_see 14 = .ok (.goto 4, 3) := by decide +kernel
theorem dX12_see_17 : decode cX12_see 17 = .ok (.iconst (-1), 1) := by decide +kernel
theorem dX12_see_18 : decode cX12_see 18 = .ok (.ireturn, 1) := by decide +kernel
theorem dX12_isLetter_0 : decode cX12_isLetter 0 = .ok (.iload_n 0, 1) := by decide +kernel
theorem dX12_isLetter_1 : decode cX12_isLetter 1 = .ok (.bipush 97, 2) := by decide +kernel
theorem dX12_isLetter_3 : decode cX12_isLetter 3 = .ok (.bipush 122, 2) := by decide +kernel
theorem dX12_isLetter_5 : decode cX12_isLetter 5 = .ok (.invokestatic 9, 3) := by decide +kernel
theorem dX12_isLetter_8 : decode cX12_isLetter 8 = .ok (.ifCond .ne 14, 3) := by decide +kernel
theorem dX12_isLetter_11 : decode cX12_isLetter 11 = .ok (.iload_n 0, 1) := by decide +kernel
theorem dX12_isLetter_12 : decode cX12_isLetter 12 = .ok (.bipush 65, 2) := by decide +kernel
theorem dX12_isLetter_14 : decode cX12_isLetter 14 = .ok (.bipush 90, 2) := by decide +kernel
theorem dX12_isLetter_16 : decode cX12_isLetter 16 = .ok (.invokestatic 9, 3) := by decide +kernel
theorem dX12_isLetter_19 : decode cX12_isLetter 19 = .ok (.ifCond .eq 7, 3) := by decide +kernel
theorem dX12_isLetter_22 : decode cX12_isLetter 22 = .ok (.iconst 1, 1) := by decide +kernel
theorem dX12_isLetter_23 : decode cX12_isLetter 23 = .ok (.goto 4, 3) := by decide +kernel
theorem dX12_isLetter_26 : decode cX12_isLetter 26 = .ok (.iconst 0, 1) := by decide +kernel
theorem dX12_isLetter_27 : decode cX12_isLetter 27 = .ok (.ireturn, 1) := by decide +kernel
theorem dX12_isDigit_0 : decode cX12_isDigit 0 = .ok (.iload_n 0, 1) := by decide +kernel
theorem dX12_isDigit_1 : decode cX12_isDigit 1 = .ok (.bipush 48, 2) := by decide +kernel
theorem dX12_isDigit_3 : decode cX12_isDigit 3 = .ok (.bipush 57, 2) := by decide +kernel
theorem dX12_isDigit_5 : decode cX12_isDigit 5 = .ok (.invokestatic 9, 3) := by decide +kernel
theorem dX12_isDigit_8 : decode cX12_isDigit 8 = .ok (.ireturn, 1) := by decide +kernel
theorem dX12_is_0 : decode cX12_is 0 = .ok (.aload_n 0, 1) := by decide +kernel
theorem dX12_is_1 : decode cX12_is 1 = .ok (.getfield 145, 3) := by decide +kernel
theorem dX12_is_4 : decode cX12_is 4 = .ok (.aload_n 0, 1) := by decide +kernel
theorem dX12_is_5 : decode cX12_is 5 = .ok (.getfield 148, 3) := by decide +kernel
theorem dX12_is_8 : decode cX12_is 8 = .ok (.isub, 1) := by decide +kernel
theorem dX12_is_9 : decode cX12_is 9 = .ok (.aload_n 1, 1) := by decide +kernel
theorem dX12_is_10 : decode cX12_is 10 = .ok (.invokevirtual 151, 3) := by decide +kernel
theorem dX12_is_13 : decode cX12_is 13 = .ok (.if_icmp .ne 7, 3) := by decide +kernel
theorem dX12_is_16 : decode cX12_is 16 = .ok (.iconst 1, 1) := by decide +kernel
theorem dX12_is_17 : decode cX12_is 17 = .ok (.goto 4, 3) := by decide +kernel
theorem dX12_is_20 : decode cX12_is 20 = .ok (.iconst 0, 1) := by decide +kernel
theorem dX12_is_21 : decode cX12_is 21 = .ok (.istore_n 2, 1) := by decide +kernel
theorem dX12_is_22 : decode cX12_is 22 = .ok (.iconst 0, 1) := by decide +kernel
theorem dX12_is_23 : decode cX12_is 23 = .ok (.istore_n 3, 1) := by decide +kernel
theorem dX12_is_24 : decode cX12_is 24 = .ok (.iload_n 3, 1) := by decide +kernel
theorem dX12_is_25 : decode cX12_is 25 = .ok (.aload_n 1, 1) := by decide +kernel
theorem dX12_is_26 : decode cX12_is 26 = .ok (.invokevirtual 151, 3) := by decide +kernel
theorem dX12_is_29 : decode cX12_is 29 = .ok (.if_icmp .ge 38, 3) := by decide +kernel
theorem dX12_is_32 : decode cX12_is 32 = .ok (.iload_n 2, 1) := by decide +kernel
theorem dX12_is_33 : decode cX12_is 33 = .ok (.ifCond .eq 34, 3) := by decide +kernel
theorem dX12_is_36 : decode cX12_is 36 = .ok (.aload_n 0, 1) := by decide +kernel
theorem dX12_is_37 : decode cX12_is 37 = .ok (.getfield 81, 3) := by decide +kernel
theorem dX12_is_40 : decode cX12_is 40 = .ok (.aload_n 0, 1) := by decide +kernel
theorem dX12_is_41 : decode cX12_is 41 = .ok (.getfield 148, 3) := by decide +kernel
theorem dX12_is_44 : decode cX12_is 44 = .ok (.iload_n 3, 1) := by decide +kernel
theorem dX12_is_45 : decode cX12_is 45 = .ok (.iadd, 1) := by decide +kernel
theorem dX12_is_46 : decode cX12_is 46 = .ok (.iaload, 1) := by decide +kernel
theorem dX12_is_47 : decode cX12_is 47 = .ok (.aload_n 1, 1) := by decide +kernel
theorem dX12_is_48 : decode cX12_is 48 = .ok (.iload_n 3, 1) := by decide +kernel
theorem dX12_is_49 : decode cX12_is 49 = .ok (.invokevirtual 157, 3) := by decide +kernel
theorem dX12_is_52 : decode cX12_is 52 = .ok (.if_icmp .ne 7, 3) := by decide +kernel
theorem dX12_is_55 : decode cX12_is 55 = .ok (.iconst 1, 1) := by decide +kernel
theorem dX12_is_56 : decode cX12_is 56 = .ok (.goto 4, 3) := by decide +kernel
theorem dX12_is_59 : decode cX12_is 59 = .ok (.iconst 0, 1) := by decide +kernel
theorem dX12_is_60 : decode cX12_is 60 = .ok (.istore_n 2, 1) := by decide +kernel
theorem dX12_is_61 : decode cX12_is 61 = .ok (.iinc 3 1, 3) := by decide +kernel
theorem dX12_is_64 : decode cX12_is 64 = .ok (.goto (-40), 3) := by decide +kernel
theorem dX12_is_67 : decode cX12_is 67 = .ok (.iload_n 2, 1) := by decide +kernel
theorem dX12_is_68 : decode cX12_is 68 = .ok (.ireturn, 1) := by decide +kernel
theorem dX12_machineWord_0 : decode cX12_machineWord 0 = .ok (.aload_n 0, 1) := by decide +kernel
theorem dX12_machineWord_1 : decode cX12_machineWord 1 = .ok (.ldc 161, 2) := by decide +kernel
theorem dX12_machineWord_3 : decode cX12_machineWord 3 = .ok (.invokevirtual 163, 3) := by decide +kernel
theorem dX12_machineWord_6 : decode cX12_machineWord 6 = .ok (.ifCond .eq 8, 3) := by decide +kernel
theorem dX12_machineWord_9 : decode cX12_machineWord 9 = .ok (.bipush 20, 2) := by decide +kernel
theorem dX12_machineWord_11 : decode cX12_machineWord 11 = .ok (.goto 102, 3) := by decide +kernel
theorem dX12_machineWord_14 : decode cX12_machineWord 14 = .ok (.aload_n 0, 1) := by decide +kernel
theorem dX12_machineWord_15 : decode cX12_machineWord 15 = .ok (.ldc 167, 2) := by decide +kernel
theorem dX12_machineWord_17 : decode cX12_machineWord 17 = .ok (.invokevirtual 163, 3) := by decide +kernel
theorem dX12_machineWord_20 : decode cX12_machineWord 20 = .ok (.ifCond .eq 8, 3) := by decide +kernel
theorem dX12_machineWord_23 : decode cX12_machineWord 23 = .ok (.bipush 21, 2) := by decide +kernel
theorem dX12_machineWord_25 : decode cX12_machineWord 25 = .ok (.goto 88, 3) := by decide +kernel
theorem dX12_machineWord_28 : decode cX12_machineWord 28 = .ok (.aload_n 0, 1) := by decide +kernel
theorem dX12_machineWord_29 : decode cX12_machineWord 29 = .ok (.ldc 169, 2) := by decide +kernel
theorem dX12_machineWord_31 : decode cX12_machineWord 31 = .ok (.invokevirtual 163, 3) := by decide +kernel
theorem dX12_machineWord_34 : decode cX12_machineWord 34 = .ok (.ifCond .eq 8, 3) := by decide +kernel
theorem dX12_machineWord_37 : decode cX12_machineWord 37 = .ok (.bipush 22, 2) := by decide +kernel
theorem dX12_machineWord_39 : decode cX12_machineWord 39 = .ok (.goto 74, 3) := by decide +kernel
theorem dX12_machineWord_42 : decode cX12_machineWord 42 = .ok (.aload_n 0, 1) := by decide +kernel
theorem dX12_machineWord_43 : decode cX12_machineWord 43 = .ok (.ldc 171, 2) := by decide +kernel
theorem dX12_machineWord_45 : decode cX12_machineWord 45 = .ok (.invokevirtual 163, 3) := by decide +kernel
theorem dX12_machineWord_48 : decode cX12_machineWord 48 = .ok (.ifCond .eq 8, 3) := by decide +kernel
theorem dX12_machineWord_51 : decode cX12_machineWord 51 = .ok (.bipush 23, 2) := by decide +kernel
theorem dX12_machineWord_53 : decode cX12_machineWord 53 = .ok (.goto 60, 3) := by decide +kernel
theorem dX12_machineWord_56 : decode cX12_machineWord 56 = .ok (.aload_n 0, 1) := by decide +kernel
theorem dX12_machineWord_57 : decode cX12_machineWord 57 = .ok (.ldc 173, 2) := by decide +kernel
theorem dX12_machineWord_59 : decode cX12_machineWord 59 = .ok (.invokevirtual 163, 3) := by decide +kernel
theorem dX12_machineWord_62 : decode cX12_machineWord 62 = .ok (.ifCond .eq 8, 3) := by decide +kernel
theorem dX12_machineWord_65 : decode cX12_machineWord 65 = .ok (.bipush 24, 2) := by decide +kernel
theorem dX12_machineWord_67 : decode cX12_machineWord 67 = .ok (.goto 46, 3) := by decide +kernel
theorem dX12_machineWord_70 : decode cX12_machineWord 70 = .ok (.aload_n 0, 1) := by decide +kernel
theorem dX12_machineWord_71 : decode cX12_machineWord 71 = .ok (.ldc 174, 2) := by decide +kernel
theorem dX12_machineWord_73 : decode cX12_machineWord 73 = .ok (.invokevirtual 163, 3) := by decide +kernel
theorem dX12_machineWord_76 : decode cX12_machineWord 76 = .ok (.ifCond .eq 8, 3) := by decide +kernel
theorem dX12_machineWord_79 : decode cX12_machineWord 79 = .ok (.bipush 25, 2) := by decide +kernel
theorem dX12_machineWord_81 : decode cX12_machineWord 81 = .ok (.goto 32, 3) := by decide +kernel
theorem dX12_machineWord_84 : decode cX12_machineWord 84 = .ok (.aload_n 0, 1) := by decide +kernel
theorem dX12_machineWord_85 : decode cX12_machineWord 85 = .ok (.ldc 175, 2) := by decide +kernel
theorem dX12_machineWord_87 : decode cX12_machineWord 87 = .ok (.invokevirtual 163, 3) := by decide +kernel
theorem dX12_machineWord_90 : decode cX12_machineWord 90 = .ok (.ifCond .eq 8, 3) := by decide +kernel
theorem dX12_machineWord_93 : decode cX12_machineWord 93 = .ok (.bipush 26, 2) := by decide +kernel
theorem dX12_machineWord_95 : decode cX12_machineWord 95 = .ok (.goto 18, 3) := by decide +kernel
theorem dX12_machineWord_98 : decode cX12_machineWord 98 = .ok (.aload_n 0, 1) := by decide +kernel
theorem dX12_machineWord_99 : decode cX12_machineWord 99 = .ok (.ldc 176, 2) := by decide +kernel
theorem dX12_machineWord_101 : decode cX12_machineWord 101 = .ok (.invokevirtual 163, 3) := by decide +kernel
theorem dX12_machineWord_104 : decode cX12_machineWord 104 = .ok (.ifCond .eq 8, 3) := by decide +kernel
theorem dX12_machineWord_107 : decode cX12_machineWord 107 = .ok (.bipush 27, 2) := by decide +kernel
theorem dX12_machineWord_109 : decode cX12_machineWord 109 = .ok (.goto 4, 3) := by decide +kernel
theorem dX12_machineWord_112 : decode cX12_machineWord 112 = .ok (.iconst 1, 1) := by decide +kernel
theorem dX12_machineWord_113 : decode cX12_machineWord 113 = .ok (.ireturn, 1) := by decide +kernel
theorem dX12_storyWord_0 : decode cX12_storyWord 0 = .ok (.aload_n 0, 1) := by decide +kernel
theorem dX12_storyWord_1 : decode cX12_storyWord 1 = .ok (.ldc 178, 2) := by decide +kernel
theorem dX12_storyWord_3 : decode cX12_storyWord 3 = .ok (.invokevirtual 163, 3) := by decide +kernel
theorem dX12_storyWord_6 : decode cX12_storyWord 6 = .ok (.ifCond .eq 6, 3) := by decide +kernel
theorem dX12_storyWord_9 : decode cX12_storyWord 9 = .ok (.bipush 20, 2) := by decide +kernel
theorem dX12_storyWord_11 : decode cX12_storyWord 11 = .ok (.ireturn, 1) := by decide +kernel
theorem dX12_storyWord_12 : decode cX12_storyWord 12 = .ok (.aload_n 0, 1) := by decide +kernel
theorem dX12_storyWord_13 : decode cX12_storyWord 13 = .ok (.ldc 179, 2) := by decide +kernel
theorem dX12_storyWord_15 : decode cX12_storyWord 15 = .ok (.invokevirtual 163, 3) := by decide +kernel
theorem dX12_storyWord_18 : decode cX12_storyWord 18 = .ok (.ifCond .eq 6, 3) := by decide +kernel
theorem dX12_storyWord_21 : decode cX12_storyWord 21 = .ok (.bipush 21, 2) := by decide +kernel
theorem dX12_storyWord_23 : decode cX12_storyWord 23 = .ok (.ireturn, 1) := by decide +kernel
theorem dX12_storyWord_24 : decode cX12_storyWord 24 = .ok (.aload_n 0, 1) := by decide +kernel
theorem dX12_storyWord_25 : decode cX12_storyWord 25 = .ok (.ldc 180, 2) := by decide +kernel
theorem dX12_storyWord_27 : decode cX12_storyWord 27 = .ok (.invokevirtual 163, 3) := by decide +kernel
theorem dX12_storyWord_30 : decode cX12_storyWord 30 = .ok (.ifCond .eq 6, 3) := by decide +kernel
theorem dX12_storyWord_33 : decode cX12_storyWord 33 = .ok (.bipush 22, 2) := by decide +kernel
theorem dX12_storyWord_35 : decode cX12_storyWord 35 = .ok (.ireturn, 1) := by decide +kernel
theorem dX12_storyWord_36 : decode cX12_storyWord 36 = .ok (.aload_n 0, 1) := by decide +kernel
theorem dX12_storyWord_37 : decode cX12_storyWord 37 = .ok (.ldc 181, 2) := by decide +kernel
theorem dX12_storyWord_39 : decode cX12_storyWord 39 = .ok (.invokevirtual 163, 3) := by decide +kernel
theorem dX12_storyWord_42 : decode cX12_storyWord 42 = .ok (.ifCond .eq 6, 3) := by decide +kernel
theorem dX12_storyWord_45 : decode cX12_storyWord 45 = .ok (.bipush 23, 2) := by decide +kernel
theorem dX12_storyWord_47 : decode cX12_storyWord 47 = .ok (.ireturn, 1) := by decide +kernel
theorem dX12_storyWord_48 : decode cX12_storyWord 48 = .ok (.aload_n 0, 1) := by decide +kernel
theorem dX12_storyWord_49 : decode cX12_storyWord 49 = .ok (.ldc 183, 2) := by decide +kernel
theorem dX12_storyWord_51 : decode cX12_storyWord 51 = .ok (.invokevirtual 163, 3) := by decide +kernel
theorem dX12_storyWord_54 : decode cX12_storyWord 54 = .ok (.ifCond .eq 6, 3) := by decide +kernel
theorem dX12_storyWord_57 : decode cX12_storyWord 57 = .ok (.bipush 24, 2) := by decide +kernel
theorem dX12_storyWord_59 : decode cX12_storyWord 59 = .ok (.ireturn, 1) := by decide +kernel
theorem dX12_storyWord_60 : decode cX12_storyWord 60 = .ok (.aload_n 0, 1) := by decide +kernel
theorem dX12_storyWord_61 : decode cX12_storyWord 61 = .ok (.ldc 184, 2) := by decide +kernel
theorem dX12_storyWord_63 : decode cX12_storyWord 63 = .ok (.invokevirtual 163, 3) := by decide +kernel
theorem dX12_storyWord_66 : decode cX12_storyWord 66 = .ok (.ifCond .eq 6, 3) := by decide +kernel
theorem dX12_storyWord_69 : decode cX12_storyWord 69 = .ok (.bipush 25, 2) := by decide +kernel
theorem dX12_storyWord_71 : decode cX12_storyWord 71 = .ok (.ireturn, 1) := by decide +kernel
theorem dX12_storyWord_72 : decode cX12_storyWord 72 = .ok (.aload_n 0, 1) := by decide +kernel
theorem dX12_storyWord_73 : decode cX12_storyWord 73 = .ok (.ldc 186, 2) := by decide +kernel
theorem dX12_storyWord_75 : decode cX12_storyWord 75 = .ok (.invokevirtual 163, 3) := by decide +kernel
theorem dX12_storyWord_78 : decode cX12_storyWord 78 = .ok (.ifCond .eq 6, 3) := by decide +kernel
theorem dX12_storyWord_81 : decode cX12_storyWord 81 = .ok (.bipush 26, 2) := by decide +kernel
theorem dX12_storyWord_83 : decode cX12_storyWord 83 = .ok (.ireturn, 1) := by decide +kernel
theorem dX12_storyWord_84 : decode cX12_storyWord 84 = .ok (.aload_n 0, 1) := by decide +kernel
theorem dX12_storyWord_85 : decode cX12_storyWord 85 = .ok (.ldc 188, 2) := by decide +kernel
theorem dX12_storyWord_87 : decode cX12_storyWord 87 = .ok (.invokevirtual 163, 3) := by decide +kernel
theorem dX12_storyWord_90 : decode cX12_storyWord 90 = .ok (.ifCond .eq 6, 3) := by decide +kernel
theorem dX12_storyWord_93 : decode cX12_storyWord 93 = .ok (.bipush 27, 2) := by decide +kernel
theorem dX12_storyWord_95 : decode cX12_storyWord 95 = .ok (.ireturn, 1) := by decide +kernel
theorem dX12_storyWord_96 : decode cX12_storyWord 96 = .ok (.aload_n 0, 1) := by decide +kernel
theorem dX12_storyWord_97 : decode cX12_storyWord 97 = .ok (.ldc 190, 2) := by decide +kernel
theorem dX12_storyWord_99 : decode cX12_storyWord 99 = .ok (.invokevirtual 163, 3) := by decide +kernel
theorem dX12_storyWord_102 : decode cX12_storyWord 102 = .ok (.ifCond .eq 6, 3) := by decide +kernel
theorem dX12_storyWord_105 : decode cX12_storyWord 105 = .ok (.bipush 28, 2) := by decide +kernel
theorem dX12_storyWord_107 : decode cX12_storyWord 107 = .ok (.ireturn, 1) := by decide +kernel
theorem dX12_storyWord_108 : decode cX12_storyWord 108 = .ok (.aload_n 0, 1) := by decide +kernel
theorem dX12_storyWord_109 : decode cX12_storyWord 109 = .ok (.ldc 192, 2) := by decide +kernel
theorem dX12_storyWord_111 : decode cX12_storyWord 111 = .ok (.invokevirtual 163, 3) := by decide +kernel
theorem dX12_storyWord_114 : decode cX12_storyWord 114 = .ok (.ifCond .eq 8, 3) := by decide +kernel
theorem dX12_storyWord_117 : decode cX12_storyWord 117 = .ok (.bipush 29, 2) := by decide +kernel
theorem dX12_storyWord_119 : decode cX12_storyWord 119 = .ok (.goto 4, 3) := by decide +kernel
theorem dX12_storyWord_122 : decode cX12_storyWord 122 = .ok (.iconst 1, 1) := by decide +kernel
theorem dX12_storyWord_123 : decode cX12_storyWord 123 = .ok (.ireturn, 1) := by decide +kernel
theorem dX12_readerWord_0 : decode cX12_readerWord 0 = .ok (.aload_n 0, 1) := by decide +kernel
theorem dX12_readerWord_1 : decode cX12_readerWord 1 = .ok (.ldc 194, 2) := by decide +kernel
theorem dX12_readerWord_3 : decode cX12_readerWord 3 = .ok (.invokevirtual 163, 3) := by decide +kernel
theorem dX12_readerWord_6 : decode cX12_readerWord 6 = .ok (.ifCond .eq 6, 3) := by decide +kernel
theorem dX12_readerWord_9 : decode cX12_readerWord 9 = .ok (.bipush 21, 2) := by decide +kernel
theorem dX12_readerWord_11 : decode cX12_readerWord 11 = .ok (.ireturn, 1) := by decide +kernel
theorem dX12_readerWord_12 : decode cX12_readerWord 12 = .ok (.aload_n 0, 1) := by decide +kernel
theorem dX12_readerWord_13 : decode cX12_readerWord 13 = .ok (.ldc 196, 2) := by decide +kernel
theorem dX12_readerWord_15 : decode cX12_readerWord 15 = .ok (.invokevirtual 163, 3) := by decide +kernel
theorem dX12_readerWord_18 : decode cX12_readerWord 18 = .ok (.ifCond .eq 6, 3) := by decide +kernel
theorem dX12_readerWord_21 : decode cX12_readerWord 21 = .ok (.bipush 22, 2) := by decide +kernel
theorem dX12_readerWord_23 : decode cX12_readerWord 23 = .ok (.ireturn, 1) := by decide +kernel
theorem dX12_readerWord_24 : decode cX12_readerWord 24 = .ok (.aload_n 0, 1) := by decide +kernel
theorem dX12_readerWord_25 : decode cX12_readerWord 25 = .ok (.ldc 197, 2) := by decide +kernel
theorem dX12_readerWord_27 : decode cX12_readerWord 27 = .ok (.invokevirtual 163, 3) := by decide +kernel
theorem dX12_readerWord_30 : decode cX12_readerWord 30 = .ok (.ifCond .eq 6, 3) := by decide +kernel
theorem dX12_readerWord_33 : decode cX12_readerWord 33 = .ok (.bipush 23, 2) := by decide +kernel
theorem dX12_readerWord_35 : decode cX12_readerWord 35 = .ok (.ireturn, 1) := by decide +kernel
theorem dX12_readerWord_36 : decode cX12_readerWord 36 = .ok (.aload_n 0, 1) := by decide +kernel
theorem dX12_readerWord_37 : decode cX12_readerWord 37 = .ok (.ldc 199, 2) := by decide +kernel
theorem dX12_readerWord_39 : decode cX12_readerWord 39 = .ok (.invokevirtual 163, 3) := by decide +kernel
theorem dX12_readerWord_42 : decode cX12_readerWord 42 = .ok (.ifCond .eq 6, 3) := by decide +kernel
theorem dX12_readerWord_45 : decode cX12_readerWord 45 = .ok (.bipush 24, 2) := by decide +kernel
theorem dX12_readerWord_47 : decode cX12_readerWord 47 = .ok (.ireturn, 1) := by decide +kernel
theorem dX12_readerWord_48 : decode cX12_readerWord 48 = .ok (.aload_n 0, 1) := by decide +kernel
theorem dX12_readerWord_49 : decode cX12_readerWord 49 = .ok (.ldc 201, 2) := by decide +kernel
theorem dX12_readerWord_51 : decode cX12_readerWord 51 = .ok (.invokevirtual 163, 3) := by decide +kernel
theorem dX12_readerWord_54 : decode cX12_readerWord 54 = .ok (.ifCond .eq 5, 3) := by decide +kernel
theorem dX12_readerWord_57 : decode cX12_readerWord 57 = .ok (.iconst 3, 1) := by decide +kernel
theorem dX12_readerWord_58 : decode cX12_readerWord 58 = .ok (.ireturn, 1) := by decide +kernel
theorem dX12_readerWord_59 : decode cX12_readerWord 59 = .ok (.aload_n 0, 1) := by decide +kernel
theorem dX12_readerWord_60 : decode cX12_readerWord 60 = .ok (.ldc 203, 2) := by decide +kernel
theorem dX12_readerWord_62 : decode cX12_readerWord 62 = .ok (.invokevirtual 163, 3) := by decide +kernel
theorem dX12_readerWord_65 : decode cX12_readerWord 65 = .ok (.ifCond .eq 5, 3) := by decide +kernel
theorem dX12_readerWord_68 : decode cX12_readerWord 68 = .ok (.iconst 4, 1) := by decide +kernel
theorem dX12_readerWord_69 : decode cX12_readerWord 69 = .ok (.ireturn, 1) := by decide +kernel
theorem dX12_readerWord_70 : decode cX12_readerWord 70 = .ok (.aload_n 0, 1) := by decide +kernel
theorem dX12_readerWord_71 : decode cX12_readerWord 71 = .ok (.ldc 205, 2) := by decide +kernel
theorem dX12_readerWord_73 : decode cX12_readerWord 73 = .ok (.invokevirtual 163, 3) := by decide +kernel
theorem dX12_readerWord_76 : decode cX12_readerWord 76 = .ok (.ifCond .eq 5, 3) := by decide +kernel
theorem dX12_readerWord_79 : decode cX12_readerWord 79 = .ok (.iconst 5, 1) := by decide +kernel
theorem dX12_readerWord_80 : decode cX12_readerWord 80 = .ok (.ireturn, 1) := by decide +kernel
theorem dX12_readerWord_81 : decode cX12_readerWord 81 = .ok (.aload_n 0, 1) := by decide +kernel
theorem dX12_readerWord_82 : decode cX12_readerWord 82 = .ok (.ldc 207, 2) := by decide +kernel
theorem dX12_readerWord_84 : decode cX12_readerWord 84 = .ok (.invokevirtual 163, 3) := by decide +kernel
theorem dX12_readerWord_87 : decode cX12_readerWord 87 = .ok (.ifCond .eq 6, 3) := by decide +kernel
theorem dX12_readerWord_90 : decode cX12_readerWord 90 = .ok (.bipush 6, 2) := by decide +kernel
theorem dX12_readerWord_92 : decode cX12_readerWord 92 = .ok (.ireturn, 1) := by decide +kernel
theorem dX12_readerWord_93 : decode cX12_readerWord 93 = .ok (.aload_n 0, 1) := by decide +kernel
theorem dX12_readerWord_94 : decode cX12_readerWord 94 = .ok (.ldc 209, 2) := by decide +kernel
theorem dX12_readerWord_96 : decode cX12_readerWord 96 = .ok (.invokevirtual 163, 3) := by decide +kernel
theorem dX12_readerWord_99 : decode cX12_readerWord 99 = .ok (.ifCond .eq 6, 3) := by decide +kernel
theorem dX12_readerWord_102 : decode cX12_readerWord 102 = .ok (.bipush 61, 2) := by decide +kernel
theorem dX12_readerWord_104 : decode cX12_readerWord 104 = .ok (.ireturn, 1) := by decide +kernel
theorem dX12_readerWord_105 : decode cX12_readerWord 105 = .ok (.aload_n 0, 1) := by decide +kernel
theorem dX12_readerWord_106 : decode cX12_readerWord 106 = .ok (.ldc 210, 2) := by decide +kernel
theorem dX12_readerWord_108 : decode cX12_readerWord 108 = .ok (.invokevirtual 163, 3) := by decide +kernel
theorem dX12_readerWord_111 : decode cX12_readerWord 111 = .ok (.ifCond .eq 6, 3) := by decide +kernel
theorem dX12_readerWord_114 : decode cX12_readerWord 114 = .ok (.bipush 62, 2) := by decide +kernel
theorem dX12_readerWord_116 : decode cX12_readerWord 116 = .ok (.ireturn, 1) := by decide +kernel
theorem dX12_readerWord_117 : decode cX12_readerWord 117 = .ok (.aload_n 0, 1) := by decide +kernel
theorem dX12_readerWord_118 : decode cX12_readerWord 118 = .ok (.ldc 211, 2) := by decide +kernel
theorem dX12_readerWord_120 : decode cX12_readerWord 120 = .ok (.invokevirtual 163, 3) := by decide +kernel
theorem dX12_readerWord_123 : decode cX12_readerWord 123 = .ok (.ifCond .eq 6, 3) := by decide +kernel
theorem dX12_readerWord_126 : decode cX12_readerWord 126 = .ok (.bipush 63, 2) := by decide +kernel
theorem dX12_readerWord_128 : decode cX12_readerWord 128 = .ok (.ireturn, 1) := by decide +kernel
theorem dX12_readerWord_129 : decode cX12_readerWord 129 = .ok (.aload_n 0, 1) := by decide +kernel
theorem dX12_readerWord_130 : decode cX12_readerWord 130 = .ok (.ldc 174, 2) := by decide +kernel
theorem dX12_readerWord_132 : decode cX12_readerWord 132 = .ok (.invokevirtual 163, 3) := by decide +kernel
theorem dX12_readerWord_135 : decode cX12_readerWord 135 = .ok (.ifCond .eq 6, 3) := by decide +kernel
theorem dX12_readerWord_138 : decode cX12_readerWord 138 = .ok (.bipush 64, 2) := by decide +kernel
theorem dX12_readerWord_140 : decode cX12_readerWord 140 = .ok (.ireturn, 1) := by decide +kernel
theorem dX12_readerWord_141 : decode cX12_readerWord 141 = .ok (.aload_n 0, 1) := by decide +kernel
theorem dX12_readerWord_142 : decode cX12_readerWord 142 = .ok (.ldc 213, 2) := by decide +kernel
theorem dX12_readerWord_144 : decode cX12_readerWord 144 = .ok (.invokevirtual 163, 3) := by decide +kernel
theorem dX12_readerWord_147 : decode cX12_readerWord 147 = .ok (.ifCond .eq 6, 3) := by decide +kernel
theorem dX12_readerWord_150 : decode cX12_readerWord 150 = .ok (.bipush 65, 2) := by decide +kernel
theorem dX12_readerWord_152 : decode cX12_readerWord 152 = .ok (.ireturn, 1) := by decide +kernel
theorem dX12_readerWord_153 : decode cX12_readerWord 153 = .ok (.aload_n 0, 1) := by decide +kernel
theorem dX12_readerWord_154 : decode cX12_readerWord 154 = .ok (.ldc 215, 2) := by decide +kernel
theorem dX12_readerWord_156 : decode cX12_readerWord 156 = .ok (.invokevirtual 163, 3) := by decide +kernel
theorem dX12_readerWord_159 : decode cX12_readerWord 159 = .ok (.ifCond .eq 6, 3) := by decide +kernel
theorem dX12_readerWord_162 : decode cX12_readerWord 162 = .ok (.bipush 66, 2) := by decide +kernel
theorem dX12_readerWord_164 : decode cX12_readerWord 164 = .ok (.ireturn, 1) := by decide +kernel
theorem dX12_readerWord_165 : decode cX12_readerWord 165 = .ok (.aload_n 0, 1) := by decide +kernel
theorem dX12_readerWord_166 : decode cX12_readerWord 166 = .ok (.ldc 216, 2) := by decide +kernel
theorem dX12_readerWord_168 : decode cX12_readerWord 168 = .ok (.invokevirtual 163, 3) := by decide +kernel
theorem dX12_readerWord_171 : decode cX12_readerWord 171 = .ok (.ifCond .eq 6, 3) := by decide +kernel
theorem dX12_readerWord_174 : decode cX12_readerWord 174 = .ok (.bipush 67, 2) := by decide +kernel
theorem dX12_readerWord_176 : decode cX12_readerWord 176 = .ok (.ireturn, 1) := by decide +kernel
theorem dX12_readerWord_177 : decode cX12_readerWord 177 = .ok (.aload_n 0, 1) := by decide +kernel
theorem dX12_readerWord_178 : decode cX12_readerWord 178 = .ok (.ldc 217, 2) := by decide +kernel
theorem dX12_readerWord_180 : decode cX12_readerWord 180 = .ok (.invokevirtual 163, 3) := by decide +kernel
theorem dX12_readerWord_183 : decode cX12_readerWord 183 = .ok (.ifCond .eq 6, 3) := by decide +kernel
theorem dX12_readerWord_186 : decode cX12_readerWord 186 = .ok (.bipush 68, 2) := by decide +kernel
theorem dX12_readerWord_188 : decode cX12_readerWord 188 = .ok (.ireturn, 1) := by decide +kernel
theorem dX12_readerWord_189 : decode cX12_readerWord 189 = .ok (.aload_n 0, 1) := by decide +kernel
theorem dX12_readerWord_190 : decode cX12_readerWord 190 = .ok (.ldc 219, 2) := by decide +kernel
theorem dX12_readerWord_192 : decode cX12_readerWord 192 = .ok (.invokevirtual 163, 3) := by decide +kernel
theorem dX12_readerWord_195 : decode cX12_readerWord 195 = .ok (.ifCond .eq 8, 3) := by decide +kernel
theorem dX12_readerWord_198 : decode cX12_readerWord 198 = .ok (.bipush 69, 2) := by decide +kernel
theorem dX12_readerWord_200 : decode cX12_readerWord 200 = .ok (.goto 4, 3) := by decide +kernel
theorem dX12_readerWord_203 : decode cX12_readerWord 203 = .ok (.iconst 1, 1) := by decide +kernel
theorem dX12_readerWord_204 : decode cX12_readerWord 204 = .ok (.ireturn, 1) := by decide +kernel
theorem dX12_isSign_0 : decode cX12_isSign 0 = .ok (.iload_n 1, 1) := by decide +kernel
theorem dX12_isSign_1 : decode cX12_isSign 1 = .ok (.bipush 59, 2) := by decide +kernel
theorem dX12_isSign_3 : decode cX12_isSign 3 = .ok (.if_icmp .eq 65, 3) := by decide +kernel
theorem dX12_isSign_6 : decode cX12_isSign 6 = .ok (.aload_n 0, 1) := by decide +kernel
theorem dX12_isSign_7 : decode cX12_isSign 7 = .ok (.getfield 221, 3) := by decide +kernel
theorem dX12_isSign_10 : decode cX12_isSign 10 = .ok (.iconst 2, 1) := by decide +kernel
theorem dX12_isSign_11 : decode cX12_isSign 11 = .ok (.if_icmp .ne 61, 3) := by decide +kernel
theorem dX12_isSign_14 : decode cX12_isSign 14 = .ok (.iload_n 1, 1) := by decide +kernel
theorem dX12_isSign_15 : decode cX12_isSign 15 = .ok (.bipush 43, 2) := by decide +kernel
theorem dX12_isSign_17 : decode cX12_isSign 17 = .ok (.if_icmp .eq 51, 3) := by decide +kernel
theorem dX12_isSign_20 : decode cX12_isSign 20 = .ok (.iload_n 1, 1) := by decide +kernel
theorem dX12_isSign_21 : decode cX12_isSign 21 = .ok (.bipush 45, 2) := by decide +kernel
theorem dX12_isSign_23 : decode cX12_isSign 23 = .ok (.if_icmp .eq 45, 3) := by decide +kernel
theorem dX12_isSign_26 : decode cX12_isSign 26 = .ok (.iload_n 1, 1) := by decide +kernel
theorem dX12_isSign_27 : decode cX12_isSign 27 = .ok (.bipush 42, 2) := by decide +kernel
theorem dX12_isSign_29 : decode cX12_isSign 29 = .ok (.if_icmp .eq 39, 3) := by decide +kernel
theorem dX12_isSign_32 : decode cX12_isSign 32 = .ok (.iload_n 1, 1) := by decide +kernel
theorem dX12_isSign_33 : decode cX12_isSign 33 = .ok (.bipush 47, 2) := by decide +kernel
theorem dX12_isSign_35 : decode cX12_isSign 35 = .ok (.if_icmp .eq 33, 3) := by decide +kernel
theorem dX12_isSign_38 : decode cX12_isSign 38 = .ok (.iload_n 1, 1) := by decide +kernel
theorem dX12_isSign_39 : decode cX12_isSign 39 = .ok (.bipush 40, 2) := by decide +kernel
theorem dX12_isSign_41 : decode cX12_isSign 41 = .ok (.if_icmp .eq 27, 3) := by decide +kernel
theorem dX12_isSign_44 : decode cX12_isSign 44 = .ok (.iload_n 1, 1) := by decide +kernel
theorem dX12_isSign_45 : decode cX12_isSign 45 = .ok (.bipush 41, 2) := by decide +kernel
theorem dX12_isSign_47 : decode cX12_isSign 47 = .ok (.if_icmp .eq 21, 3) := by decide +kernel
theorem dX12_isSign_50 : decode cX12_isSign 50 = .ok (.iload_n 1, 1) := by decide +kernel
theorem dX12_isSign_51 : decode cX12_isSign 51 = .ok (.bipush 60, 2) := by decide +kernel
theorem dX12_isSign_53 : decode cX12_isSign 53 = .ok (.if_icmp .eq 15, 3) := by decide +kernel
theorem dX12_isSign_56 : decode cX12_isSign 56 = .ok (.iload_n 1, 1) := by decide +kernel
theorem dX12_isSign_57 : decode cX12_isSign 57 = .ok (.bipush 61, 2) := by decide +kernel
theorem dX12_isSign_59 : decode cX12_isSign 59 = .ok (.if_icmp .eq 9, 3) := by decide +kernel
theorem dX12_isSign_62 : decode cX12_isSign 62 = .ok (.iload_n 1, 1) := by decide +kernel
theorem dX12_isSign_63 : decode cX12_isSign 63 = .ok (.bipush 62, 2) := by decide +kernel
theorem dX12_isSign_65 : decode cX12_isSign 65 = .ok (.if_icmp .ne 7, 3) := by decide +kernel
theorem dX12_isSign_68 : decode cX12_isSign 68 = .ok (.iconst 1, 1) := by decide +kernel
theorem dX12_isSign_69 : decode cX12_isSign 69 = .ok (.goto 4, 3) := by decide +kernel
theorem dX12_isSign_72 : decode cX12_isSign 72 = .ok (.iconst 0, 1) := by decide +kernel
theorem dX12_isSign_73 : decode cX12_isSign 73 = .ok (.ireturn, 1) := by decide +kernel
theorem dX12_next0_0 : decode cX12_next0 0 = .ok (.aload_n 0, 1) := by decide +kernel
theorem dX12_next0_1 : decode cX12_next0 1 = .ok (.aload_n 0, 1) := by decide +kernel
theorem dX12_next0_2 : decode cX12_next0 2 = .ok (.getfield 145, 3) := by decide +kernel
theorem dX12_next0_5 : decode cX12_next0 5 = .ok (.invokevirtual 224, 3) := by decide +kernel
theorem dX12_next0_8 : decode cX12_next0 8 = .ok (.bipush 32, 2) := by decide +kernel
theorem dX12_next0_10 : decode cX12_next0 10 = .ok (.if_icmp .eq 16, 3) := by decide +kernel
theorem dX12_next0_13 : decode cX12_next0 13 = .ok (.aload_n 0, 1) := by decide +kernel
theorem dX12_next0_14 : decode cX12_next0 14 = .ok (.aload_n 0, 1) := by decide +kernel
theorem dX12_next0_15 : decode cX12_next0 15 = .ok (.getfield 145, 3) := by decide +kernel
theorem dX12_next0_18 : decode cX12_next0 18 = .ok (.invokevirtual 224, 3) := by decide +kernel
theorem dX12_next0_21 : decode cX12_next0 21 = .ok (.bipush 10, 2) := by decide +kernel
theorem dX12_next0_23 : decode cX12_next0 23 = .ok (.if_icmp .ne 16, 3) := by decide +kernel
theorem dX12_next0_26 : decode cX12_next0 26 = .ok (.aload_n 0, 1) := by decide +kernel
theorem dX12_next0_27 : decode cX12_next0 27 = .ok (.dup, 1) := by decide +kernel
theorem dX12_next0_28 : decode cX12_next0 28 = .ok (.getfield 145, 3) := by decide +kernel
theorem dX12_next0_31 : decode cX12_next0 31 = .ok (.iconst 1, 1) := by decide +kernel
theorem dX12_next0_32 : decode cX12_next0 32 = .ok (.iadd, 1) := by decide +kernel
theorem dX12_next0_33 : decode cX12_next0 33 = .ok (.putfield 145, 3) := by decide +kernel
theorem dX12_next0_36 : decode cX12_next0 36 = .ok (.goto (-36), 3) := by decide +kernel
theorem dX12_next0_39 : decode cX12_next0 39 = .ok (.aload_n 0, 1) := by decide +kernel
theorem dX12_next0_40 : decode cX12_next0 40 = .ok (.aload_n 0, 1) := by decide +kernel
theorem dX12_next0_41 : decode cX12_next0 41 = .ok (.getfield 145, 3) := by decide +kernel
theorem dX12_next0_44 : decode cX12_next0 44 = .ok (.putfield 148, 3) := by decide +kernel
theorem dX12_next0_47 : decode cX12_next0 47 = .ok (.aload_n 0, 1) := by decide +kernel
theorem dX12_next0_48 : decode cX12_next0 48 = .ok (.aload_n 0, 1) := by decide +kernel
theorem dX12_next0_49 : decode cX12_next0 49 = .ok (.getfield 145, 3) := by decide +kernel
theorem dX12_next0_52 : decode cX12_next0 52 = .ok (.invokevirtual 224, 3) := by decide +kernel
theorem dX12_next0_55 : decode cX12_next0 55 = .ok (.istore_n 1, 1) := by decide +kernel
theorem dX12_next0_56 : decode cX12_next0 56 = .ok (.iload_n 1, 1) := by decide +kernel
theorem dX12_next0_57 : decode cX12_next0 57 = .ok (.iconst (-1), 1) := by decide +kernel
theorem dX12_next0_58 : decode cX12_next0 58 = .ok (.if_icmp .ne 11, 3) := by decide +kernel
theorem dX12_next0_61 : decode cX12_next0 61 = .ok (.aload_n 0, 1) := by decide +kernel
theorem dX12_next0_62 : decode cX12_next0 62 = .ok (.iconst 0, 1) := by decide +kernel
theorem dX12_next0_63 : decode cX12_next0 63 = .ok (.putfield 227, 3) := by decide +kernel
theorem dX12_next0_66 : decode cX12_next0 66 = .ok (.goto 207, 3) := by decide +kernel
theorem dX12_next0_69 : decode cX12_next0 69 = .ok (.iload_n 1, 1) := by decide +kernel
theorem dX12_next0_70 : decode cX12_next0 70 = .ok (.invokestatic 230, 3) := by decide +kernel
theorem dX12_next0_73 : decode cX12_next0 73 = .ok (.ifCond .eq 70, 3) := by decide +kernel
theorem dX12_next0_76 : decode cX12_next0 76 = .ok (.aload_n 0, 1) := by decide +kernel
theorem dX12_next0_77 : decode cX12_next0 77 = .ok (.aload_n 0, 1) := by decide +kernel
theorem dX12_next0_78 : decode cX12_next0 78 = .ok (.getfield 145, 3) := by decide +kernel
theorem dX12_next0_81 : decode cX12_next0 81 = .ok (.invokevirtual 224, 3) := by decide +kernel
theorem dX12_next0_84 : decode cX12_next0 84 = .ok (.invokestatic 230, 3) := by decide +kernel
theorem dX12_next0_87 : decode cX12_next0 87 = .ok (.ifCond .eq 16, 3) := by decide +kernel
theorem dX12_next0_90 : decode cX12_next0 90 = .ok (.aload_n 0, 1) := by decide +kernel
theorem dX12_next0_91 : decode cX12_next0 91 = .ok (.dup, 1) := by decide +kernel
theorem dX12_next0_92 : decode cX12_next0 92 = .ok (.getfield 145, 3) := by decide +kernel
theorem dX12_next0_95 : decode cX12_next0 95 = .ok (.iconst 1, 1) := by decide +kernel
theorem dX12_next0_96 : decode cX12_next0 96 = .ok (.iadd, 1) := by decide +kernel
theorem dX12_next0_97 : decode cX12_next0 97 = .ok (.putfield 145, 3) := by decide +kernel
theorem dX12_next0_100 : decode cX12_next0 100 = .ok (.goto (-24), 3) := by decide +kernel
theorem dX12_next0_103 : decode cX12_next0 103 = .ok (.aload_n 0, 1) := by decide +kernel
theorem dX12_next0_104 : decode cX12_next0 104 = .ok (.aload_n 0, 1) := by decide +kernel
theorem dX12_next0_105 : decode cX12_next0 105 = .ok (.getfield 221, 3) := by decide +kernel
theorem dX12_next0_108 : decode cX12_next0 108 = .ok (.ifCond .ne 10, 3) := by decide +kernel
theorem dX12_next0_111 : decode cX12_next0 111 = .ok (.aload_n 0, 1) := by decide +kernel
theorem dX12_next0_112 : decode cX12_next0 112 = .ok (.invokevirtual 234, 3) := by decide +kernel
theorem dX12_next0_115 : decode cX12_next0 115 = .ok (.goto 22, 3) := by decide +kernel
theorem dX12_next0_118 : decode cX12_next0 118 = .ok (.aload_n 0, 1) := by decide +kernel
theorem dX12_next0_119 : decode cX12_next0 119 = .ok (.getfield 221, 3) := by decide +kernel
theorem dX12_next0_122 : decode cX12_next0 122 = .ok (.iconst 1, 1) := by decide +kernel
theorem dX12_next0_123 : decode cX12_next0 123 = .ok (.if_icmp .ne 10, 3) := by decide +kernel
theorem dX12_next0_126 : decode cX12_next0 126 = .ok (.aload_n 0, 1) := by decide +kernel
theorem dX12_next0_127 : decode cX12_next0 127 = .ok (.invokevirtual 237, 3) := by decide +kernel
theorem dX12_next0_130 : decode cX12_next0 130 = .ok (.goto 7, 3) := by decide +kernel
theorem dX12_next0_133 : decode cX12_next0 133 = .ok (.aload_n 0, 1) := by decide +kernel
theorem dX12_next0_134 : decode cX12_next0 134 = .ok (.invokevirtual 240, 3) := by decide +kernel
theorem dX12_next0_137 : decode cX12_next0 137 = .ok (.putfield 227, 3) := by decide +kernel
theorem dX12_next0_140 : decode cX12_next0 140 = .ok (.goto 133, 3) := by decide +kernel
theorem dX12_next0_143 : decode cX12_next0 143 = .ok (.iload_n 1, 1) := by decide +kernel
theorem dX12_next0_144 : decode cX12_next0 144 = .ok (.invokestatic 243, 3) := by decide +kernel
theorem dX12_next0_147 : decode cX12_next0 147 = .ok (.ifCond .eq 96, 3) := by decide +kernel
theorem dX12_next0_150 : decode cX12_next0 150 = .ok (.aload_n 0, 1) := by decide +kernel
theorem dX12_next0_151 : decode cX12_next0 151 = .ok (.iconst 0, 1) := by decide +kernel
theorem dX12_next0_152 : decode cX12_next0 152 = .ok (.putfield 246, 3) := by decide +kernel
theorem dX12_next0_155 : decode cX12_next0 155 = .ok (.aload_n 0, 1) := by decide +kernel
theorem dX12_next0_156 : decode cX12_next0 156 = .ok (.aload_n 0, 1) := by decide +kernel
theorem dX12_next0_157 : decode cX12_next0 157 = .ok (.getfield 145, 3) := by decide +kernel
theorem dX12_next0_160 : decode cX12_next0 160 = .ok (.invokevirtual 224, 3) := by decide +kernel
theorem dX12_next0_163 : decode cX12_next0 163 = .ok (.invokestatic 243, 3) := by decide +kernel
theorem dX12_next0_166 : decode cX12_next0 166 = .ok (.ifCond .eq 52, 3) := by decide +kernel
theorem dX12_next0_169 : decode cX12_next0 169 = .ok (.aload_n 0, 1) := by decide +kernel
theorem dX12_next0_170 : decode cX12_next0 170 = .ok (.getfield 145, 3) := by decide +kernel
theorem dX12_next0_173 : decode cX12_next0 173 = .ok (.aload_n 0, 1) := by decide +kernel
theorem dX12_next0_174 : decode cX12_next0 174 = .ok (.getfield 148, 3) := by decide +kernel
theorem dX12_next0_177 : decode cX12_next0 177 = .ok (.iconst 4, 1) := by decide +kernel
theorem dX12_next0_178 : decode cX12_next0 178 = .ok (.iadd, 1) := by decide +kernel
theorem dX12_next0_179 : decode cX12_next0 179 = .ok (.if_icmp .ge 26, 3) := by decide +kernel
theorem dX12_next0_182 : decode cX12_next0 182 = .ok (.aload_n 0, 1) := by decide +kernel
theorem dX12_next0_183 : decode cX12_next0 183 = .ok (.bipush 10, 2) := by decide +kernel
theorem dX12_next0_185 : decode cX12_next0 185 = .ok (.aload_n 0, 1) := by decide +kernel
theorem dX12_next0_186 : decode cX12_next0 186 = .ok (.getfield 246, 3) := by decide +kernel
theorem dX12_next0_189 : decode cX12_next0 189 = .ok (.imul, 1) := by decide +kernel
theorem dX12_next0_190 : decode cX12_next0 190 = .ok (.aload_n 0, 1) := by decide +kernel
theorem dX12_next0_191 : decode cX12_next0 191 = .ok (.aload_n 0, 1) := by decide +kernel
theorem dX12_next0_192 : decode cX12_next0 192 = .ok (.getfield 145, 3) := by decide +kernel
theorem dX12_next0_195 : decode cX12_next0 195 = .ok (.invokevirtual 224, 3) := by decide +kernel
theorem dX12_next0_198 : decode cX12_next0 198 = .ok (.iadd, 1) := by decide +kernel
theorem dX12_next0_199 : decode cX12_next0 199 = .ok (.bipush 48, 2) := by decide +kernel
theorem dX12_next0_201 : decode cX12_next0 201 = .ok (.isub, 1) := by decide +kernel
theorem dX12_next0_202 : decode cX12_next0 202 = .ok (.putfield 246, 3) := by decide +kernel
theorem dX12_next0_205 : decode cX12_next0 205 = .ok (.aload_n 0, 1) := by decide +kernel
theorem dX12_next0_206 : decode cX12_next0 206 = .ok (.dup, 1) := by decide +kernel
theorem dX12_next0_207 : decode cX12_next0 207 = .ok (.getfield 145, 3) := by decide +kernel
theorem dX12_next0_210 : decode cX12_next0 210 = .ok (.iconst 1, 1) := by decide +kernel
theorem dX12_next0_211 : decode cX12_next0 211 = .ok (.iadd, 1) := by decide +kernel
theorem dX12_next0_212 : decode cX12_next0 212 = .ok (.putfield 145, 3) := by decide +kernel
theorem dX12_next0_215 : decode cX12_next0 215 = .ok (.goto (-60), 3) := by decide +kernel
theorem dX12_next0_218 : decode cX12_next0 218 = .ok (.aload_n 0, 1) := by decide +kernel
theorem dX12_next0_219 : decode cX12_next0 219 = .ok (.aload_n 0, 1) := by decide +kernel
theorem dX12_next0_220 : decode cX12_next0 220 = .ok (.getfield 145, 3) := by decide +kernel
theorem dX12_next0_223 : decode cX12_next0 223 = .ok (.aload_n 0, 1) := by decide +kernel
theorem dX12_next0_224 : decode cX12_next0 224 = .ok (.getfield 148, 3) := by decide +kernel
theorem dX12_next0_227 : decode cX12_next0 227 = .ok (.isub, 1) := by decide +kernel
theorem dX12_next0_228 : decode cX12_next0 228 = .ok (.iconst 5, 1) := by decide +kernel
theorem dX12_next0_229 : decode cX12_next0 229 = .ok (.if_icmp .ge 7, 3) := by decide +kernel
theorem dX12_next0_232 : decode cX12_next0 232 = .ok (.iconst 2, 1) := by decide +kernel
theorem dX12_next0_233 : decode cX12_next0 233 = .ok (.goto 4, 3) := by decide +kernel
theorem dX12_next0_236 : decode cX12_next0 236 = .ok (.iconst 1, 1) := by decide +kernel
theorem dX12_next0_237 : decode cX12_next0 237 = .ok (.putfield 227, 3) := by decide +kernel
theorem dX12_next0_240 : decode cX12_next0 240 = .ok (.goto 33, 3) := by decide +kernel
theorem dX12_next0_243 : decode cX12_next0 243 = .ok (.aload_n 0, 1) := by decide +kernel
theorem dX12_next0_244 : decode cX12_next0 244 = .ok (.dup, 1) := by decide +kernel
theorem dX12_next0_245 : decode cX12_next0 245 = .ok (.getfield 145, 3) := by decide +kernel
theorem dX12_next0_248 : decode cX12_next0 248 = .ok (.iconst 1, 1) := by decide +kernel
theorem dX12_next0_249 : decode cX12_next0 249 = .ok (.iadd, 1) := by decide +kernel
theorem dX12_next0_250 : decode cX12_next0 250 = .ok (.putfield 145, 3) := by decide +kernel
theorem dX12_next0_253 : decode cX12_next0 253 = .ok (.aload_n 0, 1) := by decide +kernel
theorem dX12_next0_254 : decode cX12_next0 254 = .ok (.aload_n 0, 1) := by decide +kernel
theorem dX12_next0_255 : decode cX12_next0 255 = .ok (.iload_n 1, 1) := by decide +kernel
theorem dX12_next0_256 : decode cX12_next0 256 = .ok (.invokevirtual 249, 3) := by decide +kernel
theorem dX12_next0_259 : decode cX12_next0 259 = .ok (.ifCond .eq 10, 3) := by decide +kernel
theorem dX12_next0_262 : decode cX12_next0 262 = .ok (.bipush 100, 2) := by decide +kernel
theorem dX12_next0_264 : decode cX12_next0 264 = .ok (.iload_n 1, 1) := by decide +kernel
theorem dX12_next0_265 : decode cX12_next0 265 = .ok (.iadd, 1) := by decide +kernel
theorem dX12_next0_266 : decode cX12_next0 266 = .ok (.goto 4, 3) := by decide +kernel
theorem dX12_next0_269 : decode cX12_next0 269 = .ok (.iconst 1, 1) := by decide +kernel
theorem dX12_next0_270 : decode cX12_next0 270 = .ok (.putfield 227, 3) := by decide +kernel
theorem dX12_next0_273 : decode cX12_next0 273 = .ok (.return_, 1) := by decide +kernel
theorem dX12_bad_0 : decode cX12_bad 0 = .ok (.aload_n 0, 1) := by decide +kernel
theorem dX12_bad_1 : decode cX12_bad 1 = .ok (.iload_n 1, 1) := by decide +kernel
theorem dX12_bad_2 : decode cX12_bad 2 = .ok (.putfield 252, 3) := by decide +kernel
theorem dX12_bad_5 : decode cX12_bad 5 = .ok (.aload_n 0, 1) := by decide +kernel
theorem dX12_bad_6 : decode cX12_bad 6 = .ok (.aload_n 0, 1) := by decide +kernel
theorem dX12_bad_7 : decode cX12_bad 7 = .ok (.getfield 148, 3) := by decide +kernel
theorem dX12_bad_10 : decode cX12_bad 10 = .ok (.putfield 255, 3) := by decide +kernel
theorem dX12_bad_13 : decode cX12_bad 13 = .ok (.iconst 0, 1) := by decide +kernel
theorem dX12_bad_14 : decode cX12_bad 14 = .ok (.ireturn, 1) := by decide +kernel
theorem dX12_need_0 : decode cX12_need 0 = .ok (.aload_n 0, 1) := by decide +kernel
theorem dX12_need_1 : decode cX12_need 1 = .ok (.getfield 227, 3) := by decide +kernel
theorem dX12_need_4 : decode cX12_need 4 = .ok (.iload_n 1, 1) := by decide +kernel
theorem dX12_need_5 : decode cX12_need 5 = .ok (.if_icmp .eq 9, 3) := by decide +kernel
theorem dX12_need_8 : decode cX12_need 8 = .ok (.aload_n 0, 1) := by decide +kernel
theorem dX12_need_9 : decode cX12_need 9 = .ok (.iconst 1, 1) := by decide +kernel
theorem dX12_need_10 : decode cX12_need 10 = .ok (.invokevirtual 258, 3) := by decide +kernel
theorem dX12_need_13 : decode cX12_need 13 = .ok (.ireturn, 1) := by decide +kernel
theorem dX12_need_14 : decode cX12_need 14 = .ok (.aload_n 0, 1) := by decide +kernel
theorem dX12_need_15 : decode cX12_need 15 = .ok (.invokevirtual 261, 3) := by decide +kernel
theorem dX12_need_18 : decode cX12_need 18 = .ok (.iconst 1, 1) := by decide +kernel
theorem dX12_need_19 : decode cX12_need 19 = .ok (.ireturn, 1) := by decide +kernel
theorem dX12_number_0 : decode cX12_number 0 = .ok (.aload_n 0, 1) := by decide +kernel
theorem dX12_number_1 : decode cX12_number 1 = .ok (.getfield 227, 3) := by decide +kernel
theorem dX12_number_4 : decode cX12_number 4 = .ok (.iconst 2, 1) := by decide +kernel
theorem dX12_number_5 : decode cX12_number 5 = .ok (.if_icmp .eq 9, 3) := by decide +kernel
theorem dX12_number_8 : decode cX12_number 8 = .ok (.aload_n 0, 1) := by decide +kernel
theorem dX12_number_9 : decode cX12_number 9 = .ok (.iconst 1, 1) := by decide +kernel
theorem dX12_number_10 : decode cX12_number 10 = .ok (.invokevirtual 258, 3) := by decide +kernel
theorem dX12_number_13 : decode cX12_number 13 = .ok (.ireturn, 1) := by decide +kernel
theorem dX12_number_14 : decode cX12_number 14 = .ok (.aload_n 0, 1) := by decide +kernel
theorem dX12_number_15 : decode cX12_number 15 = .ok (.getfield 246, 3) := by decide +kernel
theorem dX12_number_18 : decode cX12_number 18 = .ok (.iload_n 1, 1) := by decide +kernel
theorem dX12_number_19 : decode cX12_number 19 = .ok (.iload_n 2, 1) := by decide +kernel
theorem dX12_number_20 : decode cX12_number 20 = .ok (.invokestatic 9, 3) := by decide +kernel
theorem dX12_number_23 : decode cX12_number 23 = .ok (.ifCond .ne 9, 3) := by decide +kernel
theorem dX12_number_26 : decode cX12_number 26 = .ok (.aload_n 0, 1) := by decide +kernel
theorem dX12_number_27 : decode cX12_number 27 = .ok (.iconst 2, 1) := by decide +kernel
theorem dX12_number_28 : decode cX12_number 28 = .ok (.invokevirtual 258, 3) := by decide +kernel
theorem dX12_number_31 : decode cX12_number 31 = .ok (.ireturn, 1) := by decide +kernel
theorem dX12_number_32 : decode cX12_number 32 = .ok (.aload_n 0, 1) := by decide +kernel
theorem dX12_number_33 : decode cX12_number 33 = .ok (.invokevirtual 261, 3) := by decide +kernel
theorem dX12_number_36 : decode cX12_number 36 = .ok (.iconst 1, 1) := by decide +kernel
theorem dX12_number_37 : decode cX12_number 37 = .ok (.ireturn, 1) := by decide +kernel
theorem dX12_machineLine_0 : decode cX12_machineLine 0 = .ok (.aload_n 0, 1) := by decide +kernel
theorem dX12_machineLine_1 : decode cX12_machineLine 1 = .ok (.getfield 227, 3) := by decide +kernel
theorem dX12_machineLine_4 : decode cX12_machineLine 4 = .ok (.bipush 20, 2) := by decide +kernel
theorem dX12_machineLine_6 : decode cX12_machineLine 6 = .ok (.bipush 27, 2) := by decide +kernel
theorem dX12_machineLine_8 : decode cX12_machineLine 8 = .ok (.invokestatic 9, 3) := by decide +kernel
theorem dX12_machineLine_11 : decode cX12_machineLine 11 = .ok (.ifCond .ne 9, 3) := by decide +kernel
theorem dX12_machineLine_14 : decode cX12_machineLine 14 = .ok (.aload_n 0, 1) := by decide +kernel
theorem dX12_machineLine_15 : decode cX12_machineLine 15 = .ok (.iconst 1, 1) := by decide +kernel
theorem dX12_machineLine_16 : decode cX12_machineLine 16 = .ok (.invokevirtual 258, 3) := by decide +kernel
theorem dX12_machineLine_19 : decode cX12_machineLine 19 = .ok (.ireturn, 1) := by decide +kernel
theorem dX12_machineLine_20 : decode cX12_machineLine 20 = .ok (.aload_n 0, 1) := by decide +kernel
theorem dX12_machineLine_21 : decode cX12_machineLine 21 = .ok (.getfield 227, 3) := by decide +kernel
theorem dX12_machineLine_24 : decode cX12_machineLine 24 = .ok (.bipush 20, 2) := by decide +kernel
theorem dX12_machineLine_26 : decode cX12_machineLine 26 = .ok (.isub, 1) := by decide +kernel
theorem dX12_machineLine_27 : decode cX12_machineLine 27 = .ok (.istore_n 1, 1) := by decide +kernel
theorem dX12_machineLine_28 : decode cX12_machineLine 28 = .ok (.aload_n 0, 1) := by decide +kernel
theorem dX12_machineLine_29 : decode cX12_machineLine 29 = .ok (.getfield 36, 3) := by decide +kernel
theorem dX12_machineLine_32 : decode cX12_machineLine 32 = .ok (.iload_n 1, 1) := by decide +kernel
theorem dX12_machineLine_33 : decode cX12_machineLine 33 = .ok (.iaload, 1) := by decide +kernel
theorem dX12_machineLine_34 : decode cX12_machineLine 34 = .ok (.iconst 1, 1) := by decide +kernel
theorem dX12_machineLine_35 : decode cX12_machineLine 35 = .ok (.if_icmp .ne 9, 3) := by decide +kernel
theorem dX12_machineLine_38 : decode cX12_machineLine 38 = .ok (.aload_n 0, 1) := by decide +kernel
theorem dX12_machineLine_39 : decode cX12_machineLine 39 = .ok (.iconst 3, 1) := by decide +kernel
theorem dX12_machineLine_40 : decode cX12_machineLine 40 = .ok (.invokevirtual 258, 3) := by decide +kernel
theorem dX12_machineLine_43 : decode cX12_machineLine 43 = .ok (.ireturn, 1) := by decide +kernel
theorem dX12_machineLine_44 : decode cX12_machineLine 44 = .ok (.aload_n 0, 1) := by decide +kernel
theorem dX12_machineLine_45 : decode cX12_machineLine 45 = .ok (.getfield 36, 3) := by decide +kernel
theorem dX12_machineLine_48 : decode cX12_machineLine 48 = .ok (.iload_n 1, 1) := by decide +kernel
theorem dX12_machineLine_49 : decode cX12_machineLine 49 = .ok (.iconst 1, 1) := by decide +kernel
theorem dX12_machineLine_50 : decode cX12_machineLine 50 = .ok (.iastore, 1) := by decide +kernel
theorem dX12_machineLine_51 : decode cX12_machineLine 51 = .ok (.aload_n 0, 1) := by decide +kernel
theorem dX12_machineLine_52 : decode cX12_machineLine 52 = .ok (.invokevirtual 261, 3) := by decide +kernel
theorem dX12_machineLine_55 : decode cX12_machineLine 55 = .ok (.aload_n 0, 1) := by decide +kernel
theorem dX12_machineLine_56 : decode cX12_machineLine 56 = .ok (.getfield 33, 3) := by decide +kernel
theorem dX12_machineLine_59 : decode cX12_machineLine 59 = .ok (.iload_n 1, 1) := by decide +kernel
theorem dX12_machineLine_60 : decode cX12_machineLine 60 = .ok (.aload_n 0, 1) := by decide +kernel
theorem dX12_machineLine_61 : decode cX12_machineLine 61 = .ok (.getfield 246, 3) := by decide +kernel
theorem dX12_machineLine_64 : decode cX12_machineLine 64 = .ok (.iastore, 1) := by decide +kernel
theorem dX12_machineLine_65 : decode cX12_machineLine 65 = .ok (.iload_n 1, 1) := by decide +kernel
theorem dX12_machineLine_66 : decode cX12_machineLine 66 = .ok (.iconst 5, 1) := by decide +kernel
theorem dX12_machineLine_67 : decode cX12_machineLine 67 = .ok (.if_icmp .ge 7, 3) := by decide +kernel
theorem dX12_machineLine_70 : decode cX12_machineLine 70 = .ok (.iconst 1, 1) := by decide +kernel
theorem dX12_machineLine_71 : decode cX12_machineLine 71 = .ok (.goto 15, 3) := by decide +kernel
theorem dX12_machineLine_74 : decode cX12_machineLine 74 = .ok (.iload_n 1, 1) := by decide +kernel
theorem dX12_machineLine_75 : decode cX12_machineLine 75 = .ok (.bipush 7, 2) := by decide +kernel
theorem dX12_machineLine_77 : decode cX12_machineLine 77 = .ok (.if_icmp .ne 8, 3) := by decide +kernel
theorem dX12_machineLine_80 : decode cX12_machineLine 80 = .ok (.bipush 50, 2) := by decide +kernel
theorem dX12_machineLine_82 : decode cX12_machineLine 82 = .ok (.goto 4, 3) := by decide +kernel
theorem dX12_machineLine_85 : decode cX12_machineLine 85 = .ok (.iconst 0, 1) := by decide +kernel
theorem dX12_machineLine_86 : decode cX12_machineLine 86 = .ok (.istore_n 2, 1) := by decide +kernel
theorem dX12_machineLine_87 : decode cX12_machineLine 87 = .ok (.iload_n 1, 1) := by decide +kernel
theorem dX12_machineLine_88 : decode cX12_machineLine 88 = .ok (.iconst 4, 1) := by decide +kernel
theorem dX12_machineLine_89 : decode cX12_machineLine 89 = .ok (.if_icmp .ge 8, 3) := by decide +kernel
theorem dX12_machineLine_92 : decode cX12_machineLine 92 = .ok (.bipush 99, 2) := by decide +kernel
theorem dX12_machineLine_94 : decode cX12_machineLine 94 = .ok (.goto 27, 3) := by decide +kernel
theorem dX12_machineLine_97 : decode cX12_machineLine 97 = .ok (.iload_n 1, 1) := by decide +kernel
theorem dX12_machineLine_98 : decode cX12_machineLine 98 = .ok (.bipush 6, 2) := by decide +kernel
theorem dX12_machineLine_100 : decode cX12_machineLine 100 = .ok (.if_icmp .ne 7, 3) := by decide +kernel
theorem dX12_machineLine_103 : decode cX12_machineLine 103 = .ok (.iconst 1, 1) := by decide +kernel
theorem dX12_machineLine_104 : decode cX12_machineLine 104 = .ok (.goto 17, 3) := by decide +kernel
theorem dX12_machineLine_107 : decode cX12_machineLine 107 = .ok (.iload_n 1, 1) := by decide +kernel
theorem dX12_machineLine_108 : decode cX12_machineLine 108 = .ok (.bipush 7, 2) := by decide +kernel
theorem dX12_machineLine_110 : decode cX12_machineLine 110 = .ok (.if_icmp .ne 9, 3) := by decide +kernel
theorem dX12_machineLine_113 : decode cX12_machineLine 113 = .ok (.sipush 150, 3) := by decide +kernel
theorem dX12_machineLine_116 : decode cX12_machineLine 116 = .ok (.goto 5, 3) := by decide +kernel
theorem dX12_machineLine_119 : decode cX12_machineLine 119 = .ok (.bipush 9, 2) := by decide +kernel
theorem dX12_machineLine_121 : decode cX12_machineLine 121 = .ok (.istore_n 3, 1) := by decide +kernel
theorem dX12_machineLine_122 : decode cX12_machineLine 122 = .ok (.aload_n 0, 1) := by decide +kernel
theorem dX12_machineLine_123 : decode cX12_machineLine 123 = .ok (.iload_n 2, 1) := by decide +kernel
theorem dX12_machineLine_124 : decode cX12_machineLine 124 = .ok (.iload_n 3, 1) := by decide +kernel
theorem dX12_machineLine_125 : decode cX12_machineLine 125 = .ok (.invokevirtual 264, 3) := by decide +kernel
theorem dX12_machineLine_128 : decode cX12_machineLine 128 = .ok (.ifCond .eq 17, 3) := by decide +kernel
theorem dX12_machineLine_131 : decode cX12_machineLine 131 = .ok (.aload_n 0, 1) := by decide +kernel
theorem dX12_machineLine_132 : decode cX12_machineLine 132 = .ok (.sipush 159, 3) := by decide +kernel
theorem dX12_machineLine_135 : decode cX12_machineLine 135 = .ok (.invokevirtual 268, 3) := by decide +kernel
theorem dX12_machineLine_138 : decode cX12_machineLine 138 = .ok (.ifCond .eq 7, 3) := by decide +kernel
theorem dX12_machineLine_141 : decode cX12_machineLine 141 = .ok (.iconst 1, 1) := by decide +kernel
theorem dX12_machineLine_142 : decode cX12_machineLine 142 = .ok (.goto 4, 3) := by decide +kernel
theorem dX12_machineLine_145 : decode cX12_machineLine 145 = .ok (.iconst 0, 1) := by decide +kernel
theorem dX12_machineLine_146 : decode cX12_machineLine 146 = .ok (.ireturn, 1) := by decide +kernel
theorem dX12_mostOf_0 : decode cX12_mostOf 0 = .ok (.iload_n 0, 1) := by decide +kernel
theorem dX12_mostOf_1 : decode cX12_mostOf 1 = .ok (.ifCond .ne 7, 3) := by decide +kernel
theorem dX12_mostOf_4 : decode cX12_mostOf 4 = .ok (.iconst 5, 1) := by decide +kernel
theorem dX12_mostOf_5 : decode cX12_mostOf 5 = .ok (.goto 63, 3) := by decide +kernel
theorem dX12_mostOf_8 : decode cX12_mostOf 8 = .ok (.iload_n 0, 1) := by decide +kernel
theorem dX12_mostOf_9 : decode cX12_mostOf 9 = .ok (.iconst 1, 1) := by decide +kernel
theorem dX12_mostOf_10 : decode cX12_mostOf 10 = .ok (.if_icmp .ne 7, 3) := by decide +kernel
theorem dX12_mostOf_13 : decode cX12_mostOf 13 = .ok (.iconst 1, 1) := by decide +kernel
theorem dX12_mostOf_14 : decode cX12_mostOf 14 = .ok (.goto 54, 3) := by decide +kernel
theorem dX12_mostOf_17 : decode cX12_mostOf 17 = .ok (.iload_n 0, 1) := by decide +kernel
theorem dX12_mostOf_18 : decode cX12_mostOf 18 = .ok (.iconst 2, 1) := by decide +kernel
theorem dX12_mostOf_19 : decode cX12_mostOf 19 = .ok (.if_icmp .eq 9, 3) := by decide +kernel
theorem dX12_mostOf_22 : decode cX12_mostOf 22 = .ok (.iload_n 0, 1) := by decide +kernel
theorem dX12_mostOf_23 : decode cX12_mostOf 23 = .ok (.bipush 8, 2) := by decide +kernel
theorem dX12_mostOf_25 : decode cX12_mostOf 25 = .ok (.if_icmp .ne 9, 3) := by decide +kernel
theorem dX12_mostOf_28 : decode cX12_mostOf 28 = .ok (.sipush 299, 3) := by decide +kernel
theorem dX12_mostOf_31 : decode cX12_mostOf 31 = .ok (.goto 37, 3) := by decide +kernel
theorem dX12_mostOf_34 : decode cX12_mostOf 34 = .ok (.iload_n 0, 1) := by decide +kernel
theorem dX12_mostOf_35 : decode cX12_mostOf 35 = .ok (.iconst 3, 1) := by decide +kernel
theorem dX12_mostOf_36 : decode cX12_mostOf 36 = .ok (.if_icmp .ne 8, 3) := by decide +kernel
theorem dX12_mostOf_39 : decode cX12_mostOf 39 = .ok (.bipush 9, 2) := by decide +kernel
theorem dX12_mostOf_41 : decode cX12_mostOf 41 = .ok (.goto 27, 3) := by decide +kernel
theorem dX12_mostOf_44 : decode cX12_mostOf 44 = .ok (.iload_n 0, 1) := by decide +kernel
theorem dX12_mostOf_45 : decode cX12_mostOf 45 = .ok (.iconst 4, 1) := by decide +kernel
theorem dX12_mostOf_46 : decode cX12_mostOf 46 = .ok (.if_icmp .ne 9, 3) := by decide +kernel
theorem dX12_mostOf_49 : decode cX12_mostOf 49 = .ok (.sipush 1999, 3) := by decide +kernel
theorem dX12_mostOf_52 : decode cX12_mostOf 52 = .ok (.goto 16, 3) := by decide +kernel
theorem dX12_mostOf_55 : decode cX12_mostOf 55 = .ok (.iload_n 0, 1) := by decide +kernel
theorem dX12_mostOf_56 : decode cX12_mostOf 56 = .ok (.iconst 5, 1) := by decide +kernel
theorem dX12_mostOf_57 : decode cX12_mostOf 57 = .ok (.if_icmp .ne 8, 3) := by decide +kernel
theorem dX12_mostOf_60 : decode cX12_mostOf 60 = .ok (.bipush 99, 2) := by decide +kernel
theorem dX12_mostOf_62 : decode cX12_mostOf 62 = .ok (.goto 6, 3) := by decide +kernel
theorem dX12_mostOf_65 : decode cX12_mostOf 65 = .ok (.sipush 300, 3) := by decide +kernel
theorem dX12_mostOf_68 : decode cX12_mostOf 68 = .ok (.ireturn, 1) := by decide +kernel
theorem dX12_storyLine_0 : decode cX12_storyLine 0 = .ok (.aload_n 0, 1) := by decide +kernel
theorem dX12_storyLine_1 : decode cX12_storyLine 1 = .ok (.getfield 227, 3) := by decide +kernel
theorem dX12_storyLine_4 : decode cX12_storyLine 4 = .ok (.bipush 20, 2) := by decide +kernel
theorem dX12_storyLine_6 : decode cX12_storyLine 6 = .ok (.bipush 29, 2) := by decide +kernel
theorem dX12_storyLine_8 : decode cX12_storyLine 8 = .ok (.invokestatic 9, 3) := by decide +kernel
theorem dX12_storyLine_11 : decode cX12_storyLine 11 = .ok (.ifCond .ne 9, 3) := by decide +kernel
theorem dX12_storyLine_14 : decode cX12_storyLine 14 = .ok (.aload_n 0, 1) := by decide +kernel
theorem dX12_storyLine_15 : decode cX12_storyLine 15 = .ok (.iconst 1, 1) := by decide +kernel
theorem dX12_storyLine_16 : decode cX12_storyLine 16 = .ok (.invokevirtual 258, 3) := by decide +kernel
theorem dX12_storyLine_19 : decode cX12_storyLine 19 = .ok (.ireturn, 1) := by decide +kernel
theorem dX12_storyLine_20 : decode cX12_storyLine 20 = .ok (.aload_n 0, 1) := by decide +kernel
theorem dX12_storyLine_21 : decode cX12_storyLine 21 = .ok (.getfield 271, 3) := by decide +kernel
theorem dX12_storyLine_24 : decode cX12_storyLine 24 = .ok (.bipush 40, 2) := by decide +kernel
theorem dX12_storyLine_26 : decode cX12_storyLine 26 = .ok (.if_icmp .ne 9, 3) := by decide +kernel
theorem dX12_storyLine_29 : decode cX12_storyLine 29 = .ok (.aload_n 0, 1) := by decide +kernel
theorem dX12_storyLine_30 : decode cX12_storyLine 30 = .ok (.iconst 3, 1) := by decide +kernel
theorem dX12_storyLine_31 : decode cX12_storyLine 31 = .ok (.invokevirtual 258, 3) := by decide +kernel
theorem dX12_storyLine_34 : decode cX12_storyLine 34 = .ok (.ireturn, 1) := by decide +kernel
theorem dX12_storyLine_35 : decode cX12_storyLine 35 = .ok (.aload_n 0, 1) := by decide +kernel
theorem dX12_storyLine_36 : decode cX12_storyLine 36 = .ok (.getfield 227, 3) := by decide +kernel
theorem dX12_storyLine_39 : decode cX12_storyLine 39 = .ok (.bipush 20, 2) := by decide +kernel
theorem dX12_storyLine_41 : decode cX12_storyLine 41 = .ok (.isub, 1) := by decide +kernel
theorem dX12_storyLine_42 : decode cX12_storyLine 42 = .ok (.istore_n 1, 1) := by decide +kernel
theorem dX12_storyLine_43 : decode cX12_storyLine 43 = .ok (.aload_n 0, 1) := by decide +kernel
theorem dX12_storyLine_44 : decode cX12_storyLine 44 = .ok (.invokevirtual 261, 3) := by decide +kernel
theorem dX12_storyLine_47 : decode cX12_storyLine 47 = .ok (.aload_n 0, 1) := by decide +kernel
theorem dX12_storyLine_48 : decode cX12_storyLine 48 = .ok (.getfield 51, 3) := by decide +kernel
theorem dX12_storyLine_51 : decode cX12_storyLine 51 = .ok (.aload_n 0, 1) := by decide +kernel
theorem dX12_storyLine_52 : decode cX12_storyLine 52 = .ok (.getfield 271, 3) := by decide +kernel
theorem dX12_storyLine_55 : decode cX12_storyLine 55 = .ok (.iload_n 1, 1) := by decide +kernel
theorem dX12_storyLine_56 : decode cX12_storyLine 56 = .ok (.iastore, 1) := by decide +kernel
theorem dX12_storyLine_57 : decode cX12_storyLine 57 = .ok (.aload_n 0, 1) := by decide +kernel
theorem dX12_storyLine_58 : decode cX12_storyLine 58 = .ok (.getfield 54, 3) := by decide +kernel
theorem dX12_storyLine_61 : decode cX12_storyLine 61 = .ok (.aload_n 0, 1) := by decide +kernel
theorem dX12_storyLine_62 : decode cX12_storyLine 62 = .ok (.getfield 271, 3) := by decide +kernel
theorem dX12_storyLine_65 : decode cX12_storyLine 65 = .ok (.aload_n 0, 1) := by decide +kernel
theorem dX12_storyLine_66 : decode cX12_storyLine 66 = .ok (.getfield 246, 3) := by decide +kernel
theorem dX12_storyLine_69 : decode cX12_storyLine 69 = .ok (.iastore, 1) := by decide +kernel
theorem dX12_storyLine_70 : decode cX12_storyLine 70 = .ok (.aload_n 0, 1) := by decide +kernel
theorem dX12_storyLine_71 : decode cX12_storyLine 71 = .ok (.iload_n 1, 1) := by decide +kernel
theorem dX12_storyLine_72 : decode cX12_storyLine 72 = .ok (.iconst 5, 1) := by decide +kernel
theorem dX12_storyLine_73 : decode cX12_storyLine 73 = .ok (.if_icmp .eq 21, 3) := by decide +kernel
theorem dX12_storyLine_76 : decode cX12_storyLine 76 = .ok (.iload_n 1, 1) := by decide +kernel
theorem dX12_storyLine_77 : decode cX12_storyLine 77 = .ok (.bipush 6, 2) := by decide +kernel
theorem dX12_storyLine_79 : decode cX12_storyLine 79 = .ok (.if_icmp .eq 15, 3) := by decide +kernel
theorem dX12_storyLine_82 : decode cX12_storyLine 82 = .ok (.iload_n 1, 1) := by decide +kernel
theorem dX12_storyLine_83 : decode cX12_storyLine 83 = .ok (.bipush 7, 2) := by decide +kernel
theorem dX12_storyLine_85 : decode cX12_storyLine 85 = .ok (.if_icmp .eq 9, 3) := by decide +kernel
theorem dX12_storyLine_88 : decode cX12_storyLine 88 = .ok (.iload_n 1, 1) := by decide +kernel
theorem dX12_storyLine_89 : decode cX12_storyLine 89 = .ok (.bipush 9, 2) := by decide +kernel
theorem dX12_storyLine_91 : decode cX12_storyLine 91 = .ok (.if_icmp .ne 7, 3) := by decide +kernel
theorem dX12_storyLine_94 : decode cX12_storyLine 94 = .ok (.iconst 1, 1) := by decide +kernel
theorem dX12_storyLine_95 : decode cX12_storyLine 95 = .ok (.goto 4, 3) := by decide +kernel
theorem dX12_storyLine_98 : decode cX12_storyLine 98 = .ok (.iconst 0, 1) := by decide +kernel
theorem dX12_storyLine_99 : decode cX12_storyLine 99 = .ok (.iload_n 1, 1) := by decide +kernel
theorem dX12_storyLine_100 : decode cX12_storyLine 100 = .ok (.invokestatic 274, 3) := by decide +kernel
theorem dX12_storyLine_103 : decode cX12_storyLine 103 = .ok (.invokevirtual 264, 3) := by decide +kernel
theorem dX12_storyLine_106 : decode cX12_storyLine 106 = .ok (.ifCond .ne 5, 3) := by decide +kernel
theorem dX12_storyLine_109 : decode cX12_storyLine 109 = .ok (.iconst 0, 1) := by decide +kernel
theorem dX12_storyLine_110 : decode cX12_storyLine 110 = .ok (.ireturn, 1) := by decide +kernel
theorem dX12_storyLine_111 : decode cX12_storyLine 111 = .ok (.aload_n 0, 1) := by decide +kernel
theorem dX12_storyLine_112 : decode cX12_storyLine 112 = .ok (.getfield 57, 3) := by decide +kernel
theorem dX12_storyLine_115 : decode cX12_storyLine 115 = .ok (.aload_n 0, 1) := by decide +kernel
theorem dX12_storyLine_116 : decode cX12_storyLine 116 = .ok (.getfield 271, 3) := by decide +kernel
theorem dX12_storyLine_119 : decode cX12_storyLine 119 = .ok (.aload_n 0, 1) := by decide +kernel
theorem dX12_storyLine_120 : decode cX12_storyLine 120 = .ok (.getfield 246, 3) := by decide +kernel
theorem dX12_storyLine_123 : decode cX12_storyLine 123 = .ok (.iastore, 1) := by decide +kernel
theorem dX12_storyLine_124 : decode cX12_storyLine 124 = .ok (.iload_n 1, 1) := by decide +kernel
theorem dX12_storyLine_125 : decode cX12_storyLine 125 = .ok (.bipush 8, 2) := by decide +kernel
theorem dX12_storyLine_127 : decode cX12_storyLine 127 = .ok (.if_icmp .ne 14, 3) := by decide +kernel
theorem dX12_storyLine_130 : decode cX12_storyLine 130 = .ok (.aload_n 0, 1) := by decide +kernel
theorem dX12_storyLine_131 : decode cX12_storyLine 131 = .ok (.iconst 1, 1) := by decide +kernel
theorem dX12_storyLine_132 : decode cX12_storyLine 132 = .ok (.sipush 300, 3) := by decide +kernel
theorem dX12_storyLine_135 : decode cX12_storyLine 135 = .ok (.invokevirtual 264, 3) := by decide +kernel
theorem dX12_storyLine_138 : decode cX12_storyLine 138 = .ok (.ifCond .eq 17, 3) := by decide +kernel
theorem dX12_storyLine_141 : decode cX12_storyLine 141 = .ok (.aload_n 0, 1) := by decide +kernel
theorem dX12_storyLine_142 : decode cX12_storyLine 142 = .ok (.sipush 159, 3) := by decide +kernel
theorem dX12_storyLine_145 : decode cX12_storyLine 145 = .ok (.invokevirtual 268, 3) := by decide +kernel
theorem dX12_storyLine_148 : decode cX12_storyLine 148 = .ok (.ifCond .eq 7, 3) := by decide +kernel
theorem dX12_storyLine_151 : decode cX12_storyLine 151 = .ok (.iconst 1, 1) := by decide +kernel
theorem dX12_storyLine_152 : decode cX12_storyLine 152 = .ok (.goto 4, 3) := by decide +kernel
theorem dX12_storyLine_155 : decode cX12_storyLine 155 = .ok (.iconst 0, 1) := by decide +kernel
theorem dX12_storyLine_156 : decode cX12_storyLine 156 = .ok (.ireturn, 1) := by decide +kernel
theorem dX12_lay_0 : decode cX12_lay 0 = .ok (.aload_n 0, 1) := by decide +kernel
theorem dX12_lay_1 : decode cX12_lay 1 = .ok (.getfield 78, 3) := by decide +kernel
theorem dX12_lay_4 : decode cX12_lay 4 = .ok (.iconst 2, 1) := by decide +kernel
theorem dX12_lay_5 : decode cX12_lay 5 = .ok (.aload_n 0, 1) := by decide +kernel
theorem dX12_lay_6 : decode cX12_lay 6 = .ok (.getfield 277, 3) := by decide +kernel
theorem dX12_lay_9 : decode cX12_lay 9 = .ok (.imul, 1) := by decide +kernel
theorem dX12_lay_10 : decode cX12_lay 10 = .ok (.iload_n 1, 1) := by decide +kernel
theorem dX12_lay_11 : decode cX12_lay 11 = .ok (.iastore, 1) := by decide +kernel
theorem dX12_lay_12 : decode cX12_lay 12 = .ok (.aload_n 0, 1) := by decide +kernel
theorem dX12_lay_13 : decode cX12_lay 13 = .ok (.getfield 78, 3) := by decide +kernel
theorem dX12_lay_16 : decode cX12_lay 16 = .ok (.iconst 2, 1) := by decide +kernel
theorem dX12_lay_17 : decode cX12_lay 17 = .ok (.aload_n 0, 1) := by decide +kernel
theorem dX12_lay_18 : decode cX12_lay 18 = .ok (.getfield 277, 3) := by decide +kernel
theorem dX12_lay_21 : decode cX12_lay 21 = .ok (.imul, 1) := by decide +kernel
theorem dX12_lay_22 : decode cX12_lay 22 = .ok (.iconst 1, 1) := by decide +kernel
theorem dX12_lay_23 : decode cX12_lay 23 = .ok (.iadd, 1) := by decide +kernel
theorem dX12_lay_24 : decode cX12_lay 24 = .ok (.iload_n 2, 1) := by decide +kernel
theorem dX12_lay_25 : decode cX12_lay 25 = .ok (.iastore, 1) := by decide +kernel
theorem dX12_lay_26 : decode cX12_lay 26 = .ok (.aload_n 0, 1) := by decide +kernel
theorem dX12_lay_27 : decode cX12_lay 27 = .ok (.dup, 1) := by decide +kernel
theorem dX12_lay_28 : decode cX12_lay 28 = .ok (.getfield 277, 3) := by decide +kernel
theorem dX12_lay_31 : decode cX12_lay 31 = .ok (.iconst 1, 1) := by decide +kernel
theorem dX12_lay_32 : decode cX12_lay 32 = .ok (.iadd, 1) := by decide +kernel
theorem dX12_lay_33 : decode cX12_lay 33 = .ok (.putfield 277, 3) := by decide +kernel
theorem dX12_lay_36 : decode cX12_lay 36 = .ok (.return_, 1) := by decide +kernel
theorem dX12_opens_0 : decode cX12_opens 0 = .ok (.aload_n 0, 1) := by decide +kernel
theorem dX12_opens_1 : decode cX12_opens 1 = .ok (.getfield 280, 3) := by decide +kernel
theorem dX12_opens_4 : decode cX12_opens 4 = .ok (.bipush 8, 2) := by decide +kernel
theorem dX12_opens_6 : decode cX12_opens 6 = .ok (.if_icmp .ne 9, 3) := by decide +kernel
theorem dX12_opens_9 : decode cX12_opens 9 = .ok (.aload_n 0, 1) := by decide +kernel
theorem dX12_opens_10 : decode cX12_opens 10 = .ok (.iconst 3, 1) := by decide +kernel
theorem dX12_opens_11 : decode cX12_opens 11 = .ok (.invokevirtual 258, 3) := by decide +kernel
theorem dX12_opens_14 : decode cX12_opens 14 = .ok (.ireturn, 1) := by decide +kernel
theorem dX12_opens_15 : decode cX12_opens 15 = .ok (.aload_n 0, 1) := by decide +kernel
theorem dX12_opens_16 : decode cX12_opens 16 = .ok (.dup, 1) := by decide +kernel
theorem dX12_opens_17 : decode cX12_opens 17 = .ok (.getfield 280, 3) := by decide +kernel
theorem dX12_opens_20 : decode cX12_opens 20 = .ok (.iconst 1, 1) := by decide +kernel
theorem dX12_opens_21 : decode cX12_opens 21 = .ok (.iadd, 1) := by decide +kernel
theorem dX12_opens_22 : decode cX12_opens 22 = .ok (.putfield 280, 3) := by decide +kernel
theorem dX12_opens_25 : decode cX12_opens 25 = .ok (.aload_n 0, 1) := by decide +kernel
theorem dX12_opens_26 : decode cX12_opens 26 = .ok (.invokevirtual 261, 3) := by decide +kernel
theorem dX12_opens_29 : decode cX12_opens 29 = .ok (.iconst 1, 1) := by decide +kernel
theorem dX12_opens_30 : decode cX12_opens 30 = .ok (.ireturn, 1) := by decide +kernel
theorem dX12_sumUp_0 : decode cX12_sumUp 0 = .ok (.aload_n 0, 1) := by decide +kernel
theorem dX12_sumUp_1 : decode cX12_sumUp 1 = .ok (.invokevirtual 283, 3) := by decide +kernel
theorem dX12_sumUp_4 : decode cX12_sumUp 4 = .ok (.ifCond .ne 5, 3) := by decide +kernel
theorem dX12_sumUp_7 : decode cX12_sumUp 7 = .ok (.iconst 0, 1) := by decide +kernel
theorem dX12_sumUp_8 : decode cX12_sumUp 8 = .ok (.ireturn, 1) := by decide +kernel
theorem dX12_sumUp_9 : decode cX12_sumUp 9 = .ok (.aload_n 0, 1) := by decide +kernel
theorem dX12_sumUp_10 : decode cX12_sumUp 10 = .ok (.getfield 227, 3) := by decide +kernel
theorem dX12_sumUp_13 : decode cX12_sumUp 13 = .ok (.sipush 143, 3) := by decide +kernel
theorem dX12_sumUp_16 : decode cX12_sumUp 16 = .ok (.if_icmp .eq 13, 3) := by decide +kernel
theorem dX12_sumUp_19 : decode cX12_sumUp 19 = .ok (.aload_n 0, 1) := by decide +kernel
theorem dX12_sumUp_20 : decode cX12_sumUp 20 = .ok (.getfield 227, 3) := by decide +kernel
theorem dX12_sumUp_23 : decode cX12_sumUp 23 = .ok (.sipush 145, 3) := by decide +kernel
theorem dX12_sumUp_26 : decode cX12_sumUp 26 = .ok (.if_icmp .ne 43, 3) := by decide +kernel
theorem dX12_sumUp_29 : decode cX12_sumUp 29 = .ok (.aload_n 0, 1) := by decide +kernel
theorem dX12_sumUp_30 : decode cX12_sumUp 30 = .ok (.getfield 227, 3) := by decide +kernel
theorem dX12_sumUp_33 : decode cX12_sumUp 33 = .ok (.sipush 143, 3) := by decide +kernel
theorem dX12_sumUp_36 : decode cX12_sumUp 36 = .ok (.if_icmp .ne 8, 3) := by decide +kernel
theorem dX12_sumUp_39 : decode cX12_sumUp 39 = .ok (.bipush 10, 2) := by decide +kernel
theorem dX12_sumUp_41 : decode cX12_sumUp 41 = .ok (.goto 5, 3) := by decide +kernel
theorem dX12_sumUp_44 : decode cX12_sumUp 44 = .ok (.bipush 11, 2) := by decide +kernel
theorem dX12_sumUp_46 : decode cX12_sumUp 46 = .ok (.istore_n 1, 1) := by decide +kernel
theorem dX12_sumUp_47 : decode cX12_sumUp 47 = .ok (.aload_n 0, 1) := by decide +kernel
theorem dX12_sumUp_48 : decode cX12_sumUp 48 = .ok (.invokevirtual 261, 3) := by decide +kernel
theorem dX12_sumUp_51 : decode cX12_sumUp 51 = .ok (.aload_n 0, 1) := by decide +kernel
theorem dX12_sumUp_52 : decode cX12_sumUp 52 = .ok (.invokevirtual 283, 3) := by decide +kernel
theorem dX12_sumUp_55 : decode cX12_sumUp 55 = .ok (.ifCond .ne 5, 3) := by decide +kernel
theorem dX12_sumUp_58 : decode cX12_sumUp 58 = .ok (.iconst 0, 1) := by decide +kernel
theorem dX12_sumUp_59 : decode cX12_sumUp 59 = .ok (.ireturn, 1) := by decide +kernel
theorem dX12_sumUp_60 : decode cX12_sumUp 60 = .ok (.aload_n 0, 1) := by decide +kernel
theorem dX12_sumUp_61 : decode cX12_sumUp 61 = .ok (.iload_n 1, 1) := by decide +kernel
theorem dX12_sumUp_62 : decode cX12_sumUp 62 = .ok (.iconst 0, 1) := by decide +kernel
theorem dX12_sumUp_63 : decode cX12_sumUp 63 = .ok (.invokevirtual 287, 3) := by decide +kernel
theorem dX12_sumUp_66 : decode cX12_sumUp 66 = .ok (.goto (-57), 3) := by decide +kernel
theorem dX12_sumUp_69 : decode cX12_sumUp 69 = .ok (.iconst 1, 1) := by decide +kernel
theorem dX12_sumUp_70 : decode cX12_sumUp 70 = .ok (.ireturn, 1) := by decide +kernel
theorem dX12_product_0 : decode cX12_product 0 = .ok (.aload_n 0, 1) := by decide +kernel
theorem dX12_product_1 : decode cX12_product 1 = .ok (.invokevirtual 291, 3) := by decide +kernel
theorem dX12_product_4 : decode cX12_product 4 = .ok (.ifCond .ne 5, 3) := by decide +kernel
theorem dX12_product_7 : decode cX12_product 7 = .ok (.iconst 0, 1) := by decide +kernel
theorem dX12_product_8 : decode cX12_product 8 = .ok (.ireturn, 1) := by decide +kernel
theorem dX12_product_9 : decode cX12_product 9 = .ok (.aload_n 0, 1) := by decide +kernel
theorem dX12_product_10 : decode cX12_product 10 = .ok (.getfield 227, 3) := by decide +kernel
theorem dX12_product_13 : decode cX12_product 13 = .ok (.sipush 142, 3) := by decide +kernel
theorem dX12_product_16 : decode cX12_product 16 = .ok (.if_icmp .eq 13, 3) := by decide +kernel
theorem dX12_product_19 : decode cX12_product 19 = .ok (.aload_n 0, 1) := by decide +kernel
theorem dX12_product_20 : decode cX12_product 20 = .ok (.getfield 227, 3) := by decide +kernel
theorem dX12_product_23 : decode cX12_product 23 = .ok (.sipush 147, 3) := by decide +kernel
theorem dX12_product_26 : decode cX12_product 26 = .ok (.if_icmp .ne 74, 3) := by decide +kernel
theorem dX12_product_29 : decode cX12_product 29 = .ok (.aload_n 0, 1) := by decide +kernel
theorem dX12_product_30 : decode cX12_product 30 = .ok (.getfield 227, 3) := by decide +kernel
theorem dX12_product_33 : decode cX12_product 33 = .ok (.sipush 147, 3) := by decide +kernel
theorem dX12_product_36 : decode cX12_product 36 = .ok (.if_icmp .ne 7, 3) := by decide +kernel
theorem dX12_product_39 : decode cX12_product 39 = .ok (.iconst 1, 1) := by decide +kernel
theorem dX12_product_40 : decode cX12_product 40 = .ok (.goto 4, 3) := by decide +kernel
theorem dX12_product_43 : decode cX12_product 43 = .ok (.iconst 0, 1) := by decide +kernel
theorem dX12_product_44 : decode cX12_product 44 = .ok (.istore_n 1, 1) := by decide +kernel
theorem dX12_product_45 : decode cX12_product 45 = .ok (.aload_n 0, 1) := by decide +kernel
theorem dX12_product_46 : decode cX12_product 46 = .ok (.invokevirtual 261, 3) := by decide +kernel
theorem dX12_product_49 : decode cX12_product 49 = .ok (.iload_n 1, 1) := by decide +kernel
theorem dX12_product_50 : decode cX12_product 50 = .ok (.ifCond .eq 31, 3) := by decide +kernel
theorem dX12_product_53 : decode cX12_product 53 = .ok (.aload_n 0, 1) := by decide +kernel
theorem dX12_product_54 : decode cX12_product 54 = .ok (.getfield 246, 3) := by decide +kernel
theorem dX12_product_57 : decode cX12_product 57 = .ok (.istore_n 2, 1) := by decide +kernel
theorem dX12_product_58 : decode cX12_product 58 = .ok (.aload_n 0, 1) := by decide +kernel
theorem dX12_product_59 : decode cX12_product 59 = .ok (.iconst 1, 1) := by decide +kernel
theorem dX12_product_60 : decode cX12_product 60 = .ok (.sipush 9999, 3) := by decide +kernel
theorem dX12_product_63 : decode cX12_product 63 = .ok (.invokevirtual 264, 3) := by decide +kernel
theorem dX12_product_66 : decode cX12_product 66 = .ok (.ifCond .ne 5, 3) := by decide +kernel
theorem dX12_product_69 : decode cX12_product 69 = .ok (.iconst 0, 1) := by decide +kernel
theorem dX12_product_70 : decode cX12_product 70 = .ok (.ireturn, 1) := by decide +kernel
theorem dX12_product_71 : decode cX12_product 71 = .ok (.aload_n 0, 1) := by decide +kernel
theorem dX12_product_72 : decode cX12_product 72 = .ok (.bipush 13, 2) := by decide +kernel
theorem dX12_product_74 : decode cX12_product 74 = .ok (.iload_n 2, 1) := by decide +kernel
theorem dX12_product_75 : decode cX12_product 75 = .ok (.invokevirtual 287, 3) := by decide +kernel
theorem dX12_product_78 : decode cX12_product 78 = .ok (.goto 19, 3) := by decide +kernel
theorem dX12_product_81 : decode cX12_product 81 = .ok (.aload_n 0, 1) := by decide +kernel
theorem dX12_product_82 : decode cX12_product 82 = .ok (.invokevirtual 291, 3) := by decide +kernel
theorem dX12_product_85 : decode cX12_product 85 = .ok (.ifCond .ne 5, 3) := by decide +kernel
theorem dX12_product_88 : decode cX12_product 88 = .ok (.iconst 0, 1) := by decide +kernel
theorem dX12_product_89 : decode cX12_product 89 = .ok (.ireturn, 1) := by decide +kernel
theorem dX12_product_90 : decode cX12_product 90 = .ok (.aload_n 0, 1) := by decide +kernel
theorem dX12_product_91 : decode cX12_product 91 = .ok (.bipush 12, 2) := by decide +kernel
theorem dX12_product_93 : decode cX12_product 93 = .ok (.iconst 0, 1) := by decide +kernel
theorem dX12_product_94 : decode cX12_product 94 = .ok (.invokevirtual 287, 3) := by decide +kernel
theorem dX12_product_97 : decode cX12_product 97 = .ok (.goto (-88), 3) := by decide +kernel
theorem dX12_product_100 : decode cX12_product 100 = .ok (.iconst 1, 1) := by decide +kernel
theorem dX12_product_101 : decode cX12_product 101 = .ok (.ireturn, 1) := by decide +kernel
theorem dX12_unit_0 : decode cX12_unit 0 = .ok (.aload_n 0, 1) := by decide +kernel
theorem dX12_unit_1 : decode cX12_unit 1 = .ok (.getfield 227, 3) := by decide +kernel
theorem dX12_unit_4 : decode cX12_unit 4 = .ok (.bipush 61, 2) := by decide +kernel
theorem dX12_unit_6 : decode cX12_unit 6 = .ok (.bipush 69, 2) := by decide +kernel
theorem dX12_unit_8 : decode cX12_unit 8 = .ok (.invokestatic 9, 3) := by decide +kernel
theorem dX12_unit_11 : decode cX12_unit 11 = .ok (.istore_n 1, 1) := by decide +kernel
theorem dX12_unit_12 : decode cX12_unit 12 = .ok (.aload_n 0, 1) := by decide +kernel
theorem dX12_unit_13 : decode cX12_unit 13 = .ok (.getfield 227, 3) := by decide +kernel
theorem dX12_unit_16 : decode cX12_unit 16 = .ok (.iconst 2, 1) := by decide +kernel
theorem dX12_unit_17 : decode cX12_unit 17 = .ok (.if_icmp .eq 13, 3) := by decide +kernel
theorem dX12_unit_20 : decode cX12_unit 20 = .ok (.iload_n 1, 1) := by decide +kernel
theorem dX12_unit_21 : decode cX12_unit 21 = .ok (.ifCond .ne 9, 3) := by decide +kernel
theorem dX12_unit_24 : decode cX12_unit 24 = .ok (.aload_n 0, 1) := by decide +kernel
theorem dX12_unit_25 : decode cX12_unit 25 = .ok (.iconst 1, 1) := by decide +kernel
theorem dX12_unit_26 : decode cX12_unit 26 = .ok (.invokevirtual 258, 3) := by decide +kernel
theorem dX12_unit_29 : decode cX12_unit 29 = .ok (.ireturn, 1) := by decide +kernel
theorem dX12_unit_30 : decode cX12_unit 30 = .ok (.aload_n 0, 1) := by decide +kernel
theorem dX12_unit_31 : decode cX12_unit 31 = .ok (.iload_n 1, 1) := by decide +kernel
theorem dX12_unit_32 : decode cX12_unit 32 = .ok (.ifCond .eq 13, 3) := by decide +kernel
theorem dX12_unit_35 : decode cX12_unit 35 = .ok (.aload_n 0, 1) := by decide +kernel
theorem dX12_unit_36 : decode cX12_unit 36 = .ok (.getfield 227, 3) := by decide +kernel
theorem dX12_unit_39 : decode cX12_unit 39 = .ok (.bipush 60, 2) := by decide +kernel
theorem dX12_unit_41 : decode cX12_unit 41 = .ok (.isub, 1) := by decide +kernel
theorem dX12_unit_42 : decode cX12_unit 42 = .ok (.goto 4, 3) := by decide +kernel
theorem dX12_unit_45 : decode cX12_unit 45 = .ok (.iconst 0, 1) := by decide +kernel
theorem dX12_unit_46 : decode cX12_unit 46 = .ok (.aload_n 0, 1) := by decide +kernel
theorem dX12_unit_47 : decode cX12_unit 47 = .ok (.getfield 246, 3) := by decide +kernel
theorem dX12_unit_50 : decode cX12_unit 50 = .ok (.invokevirtual 287, 3) := by decide +kernel
theorem dX12_unit_53 : decode cX12_unit 53 = .ok (.aload_n 0, 1) := by decide +kernel
theorem dX12_unit_54 : decode cX12_unit 54 = .ok (.invokevirtual 261, 3) := by decide +kernel
theorem dX12_unit_57 : decode cX12_unit 57 = .ok (.iconst 1, 1) := by decide +kernel
theorem dX12_unit_58 : decode cX12_unit 58 = .ok (.ireturn, 1) := by decide +kernel
theorem dX12_any_0 : decode cX12_any 0 = .ok (.aload_n 0, 1) := by decide +kernel
theorem dX12_any_1 : decode cX12_any 1 = .ok (.invokevirtual 294, 3) := by decide +kernel
theorem dX12_any_4 : decode cX12_any 4 = .ok (.ifCond .ne 5, 3) := by decide +kernel
theorem dX12_any_7 : decode cX12_any 7 = .ok (.iconst 0, 1) := by decide +kernel
theorem dX12_any_8 : decode cX12_any 8 = .ok (.ireturn, 1) := by decide +kernel
theorem dX12_any_9 : decode cX12_any 9 = .ok (.aload_n 0, 1) := by decide +kernel
theorem dX12_any_10 : decode cX12_any 10 = .ok (.getfield 227, 3) := by decide +kernel
theorem dX12_any_13 : decode cX12_any 13 = .ok (.iconst 4, 1) := by decide +kernel
theorem dX12_any_14 : decode cX12_any 14 = .ok (.if_icmp .ne 26, 3) := by decide +kernel
theorem dX12_any_17 : decode cX12_any 17 = .ok (.aload_n 0, 1) := by decide +kernel
theorem dX12_any_18 : decode cX12_any 18 = .ok (.invokevirtual 261, 3) := by decide +kernel
theorem dX12_any_21 : decode cX12_any 21 = .ok (.aload_n 0, 1) := by decide +kernel
theorem dX12_any_22 : decode cX12_any 22 = .ok (.invokevirtual 294, 3) := by decide +kernel
theorem dX12_any_25 : decode cX12_any 25 = .ok (.ifCond .ne 5, 3) := by decide +kernel
theorem dX12_any_28 : decode cX12_any 28 = .ok (.iconst 0, 1) := by decide +kernel
theorem dX12_any_29 : decode cX12_any 29 = .ok (.ireturn, 1) := by decide +kernel
theorem dX12_any_30 : decode cX12_any 30 = .ok (.aload_n 0, 1) := by decide +kernel
theorem dX12_any_31 : decode cX12_any 31 = .ok (.bipush 19, 2) := by decide +kernel
theorem dX12_any_33 : decode cX12_any 33 = .ok (.iconst 0, 1) := by decide +kernel
theorem dX12_any_34 : decode cX12_any 34 = .ok (.invokevirtual 287, 3) := by decide +kernel
theorem dX12_any_37 : decode cX12_any 37 = .ok (.goto (-28), 3) := by decide +kernel
theorem dX12_any_40 : decode cX12_any 40 = .ok (.iconst 1, 1) := by decide +kernel
theorem dX12_any_41 : decode cX12_any 41 = .ok (.ireturn, 1) := by decide +kernel
theorem dX12_every_0 : decode cX12_every 0 = .ok (.aload_n 0, 1) := by decide +kernel
theorem dX12_every_1 : decode cX12_every 1 = .ok (.invokevirtual 297, 3) := by decide +kernel
theorem dX12_every_4 : decode cX12_every 4 = .ok (.ifCond .ne 5, 3) := by decide +kernel
theorem dX12_every_7 : decode cX12_every 7 = .ok (.iconst 0, 1) := by decide +kernel
theorem dX12_every_8 : decode cX12_every 8 = .ok (.ireturn, 1) := by decide +kernel
theorem dX12_every_9 : decode cX12_every 9 = .ok (.aload_n 0, 1) := by decide +kernel
theorem dX12_every_10 : decode cX12_every 10 = .ok (.getfield 227, 3) := by decide +kernel
theorem dX12_every_13 : decode cX12_every 13 = .ok (.iconst 5, 1) := by decide +kernel
theorem dX12_every_14 : decode cX12_every 14 = .ok (.if_icmp .ne 26, 3) := by decide +kernel
theorem dX12_every_17 : decode cX12_every 17 = .ok (.aload_n 0, 1) := by decide +kernel
theorem dX12_every_18 : decode cX12_every 18 = .ok (.invokevirtual 261, 3) := by decide +kernel
theorem dX12_every_21 : decode cX12_every 21 = .ok (.aload_n 0, 1) := by decide +kernel
theorem dX12_every_22 : decode cX12_every 22 = .ok (.invokevirtual 297, 3) := by decide +kernel
theorem dX12_every_25 : decode cX12_every 25 = .ok (.ifCond .ne 5, 3) := by decide +kernel
theorem dX12_every_28 : decode cX12_every 28 = .ok (.iconst 0, 1) := by decide +kernel
theorem dX12_every_29 : decode cX12_every 29 = .ok (.ireturn, 1) := by decide +kernel
theorem dX12_every_30 : decode cX12_every 30 = .ok (.aload_n 0, 1) := by decide +kernel
theorem dX12_every_31 : decode cX12_every 31 = .ok (.bipush 18, 2) := by decide +kernel
theorem dX12_every_33 : decode cX12_every 33 = .ok (.iconst 0, 1) := by decide +kernel
theorem dX12_every_34 : decode cX12_every 34 = .ok (.invokevirtual 287, 3) := by decide +kernel
theorem dX12_every_37 : decode cX12_every 37 = .ok (.goto (-28), 3) := by decide +kernel
theorem dX12_every_40 : decode cX12_every 40 = .ok (.iconst 1, 1) := by decide +kernel
theorem dX12_every_41 : decode cX12_every 41 = .ok (.ireturn, 1) := by decide +kernel
theorem dX12_one_0 : decode cX12_one 0 = .ok (.aload_n 0, 1) := by decide +kernel
theorem dX12_one_1 : decode cX12_one 1 = .ok (.getfield 227, 3) := by decide +kernel
theorem dX12_one_4 : decode cX12_one 4 = .ok (.bipush 6, 2) := by decide +kernel
theorem dX12_one_6 : decode cX12_one 6 = .ok (.if_icmp .ne 38, 3) := by decide +kernel
theorem dX12_one_9 : decode cX12_one 9 = .ok (.aload_n 0, 1) := by decide +kernel
theorem dX12_one_10 : decode cX12_one 10 = .ok (.invokevirtual 300, 3) := by decide +kernel
theorem dX12_one_13 : decode cX12_one 13 = .ok (.ifCond .eq 10, 3) := by decide +kernel
theorem dX12_one_16 : decode cX12_one 16 = .ok (.aload_n 0, 1) := by decide +kernel
theorem dX12_one_17 : decode cX12_one 17 = .ok (.invokevirtual 297, 3) := by decide +kernel
theorem dX12_one_20 : decode cX12_one 20 = .ok (.ifCond .ne 5, 3) := by decide +kernel
theorem dX12_one_23 : decode cX12_one 23 = .ok (.iconst 0, 1) := by decide +kernel
theorem dX12_one_24 : decode cX12_one 24 = .ok (.ireturn, 1) := by decide +kernel
theorem dX12_one_25 : decode cX12_one 25 = .ok (.aload_n 0, 1) := by decide +kernel
theorem dX12_one_26 : decode cX12_one 26 = .ok (.dup, 1) := by decide +kernel
theorem dX12_one_27 : decode cX12_one 27 = .ok (.getfield 280, 3) := by decide +kernel
theorem dX12_one_30 : decode cX12_one 30 = .ok (.iconst 1, 1) := by decide +kernel
theorem dX12_one_31 : decode cX12_one 31 = .ok (.isub, 1) := by decide +kernel
theorem dX12_one_32 : decode cX12_one 32 = .ok (.putfield 280, 3) := by decide +kernel
theorem dX12_one_35 : decode cX12_one 35 = .ok (.aload_n 0, 1) := by decide +kernel
theorem dX12_one_36 : decode cX12_one 36 = .ok (.bipush 17, 2) := by decide +kernel
theorem dX12_one_38 : decode cX12_one 38 = .ok (.iconst 0, 1) := by decide +kernel
theorem dX12_one_39 : decode cX12_one 39 = .ok (.invokevirtual 287, 3) := by decide +kernel
theorem dX12_one_42 : decode cX12_one 42 = .ok (.iconst 1, 1) := by decide +kernel
theorem dX12_one_43 : decode cX12_one 43 = .ok (.ireturn, 1) := by decide +kernel
theorem dX12_one_44 : decode cX12_one 44 = .ok (.aload_n 0, 1) := by decide +kernel
theorem dX12_one_45 : decode cX12_one 45 = .ok (.getfield 227, 3) := by decide +kernel
theorem dX12_one_48 : decode cX12_one 48 = .ok (.sipush 140, 3) := by decide +kernel
theorem dX12_one_51 : decode cX12_one 51 = .ok (.if_icmp .ne 41, 3) := by decide +kernel
theorem dX12_one_54 : decode cX12_one 54 = .ok (.aload_n 0, 1) := by decide +kernel
theorem dX12_one_55 : decode cX12_one 55 = .ok (.invokevirtual 300, 3) := by decide +kernel
theorem dX12_one_58 : decode cX12_one 58 = .ok (.ifCond .eq 20, 3) := by decide +kernel
theorem dX12_one_61 : decode cX12_one 61 = .ok (.aload_n 0, 1) := by decide +kernel
theorem dX12_one_62 : decode cX12_one 62 = .ok (.invokevirtual 303, 3) := by decide +kernel
theorem dX12_one_65 : decode cX12_one 65 = .ok (.ifCond .eq 13, 3) := by decide +kernel
theorem dX12_one_68 : decode cX12_one 68 = .ok (.aload_n 0, 1) := by decide +kernel
theorem dX12_one_69 : decode cX12_one 69 = .ok (.sipush 141, 3) := by decide +kernel
theorem dX12_one_72 : decode cX12_one 72 = .ok (.invokevirtual 268, 3) := by decide +kernel
theorem dX12_one_75 : decode cX12_one 75 = .ok (.ifCond .ne 5, 3) := by decide +kernel
theorem dX12_one_78 : decode cX12_one 78 = .ok (.iconst 0, 1) := by decide +kernel
theorem dX12_one_79 : decode cX12_one 79 = .ok (.ireturn, 1) := by decide +kernel
theorem dX12_one_80 : decode cX12_one 80 = .ok (.aload_n 0, 1) := by decide +kernel
theorem dX12_one_81 : decode cX12_one 81 = .ok (.dup, 1) := by decide +kernel
theorem dX12_one_82 : decode cX12_one 82 = .ok (.getfield 280, 3) := by decide +kernel
theorem dX12_one_85 : decode cX12_one 85 = .ok (.iconst 1, 1) := by decide +kernel
theorem dX12_one_86 : decode cX12_one 86 = .ok (.isub, 1) := by decide +kernel
theorem dX12_one_87 : decode cX12_one 87 = .ok (.putfield 280, 3) := by decide +kernel
theorem dX12_one_90 : decode cX12_one 90 = .ok (.iconst 1, 1) := by decide +kernel
theorem dX12_one_91 : decode cX12_one 91 = .ok (.ireturn, 1) := by decide +kernel
theorem dX12_one_92 : decode cX12_one 92 = .ok (.aload_n 0, 1) := by decide +kernel
theorem dX12_one_93 : decode cX12_one 93 = .ok (.invokevirtual 306, 3) := by decide +kernel
theorem dX12_one_96 : decode cX12_one 96 = .ok (.ifCond .ne 5, 3) := by decide +kernel
theorem dX12_one_99 : decode cX12_one 99 = .ok (.iconst 0, 1) := by decide +kernel
theorem dX12_one_100 : decode cX12_one 100 = .ok (.ireturn, 1) := by decide +kernel
theorem dX12_one_101 : decode cX12_one 101 = .ok (.aload_n 0, 1) := by decide +kernel
theorem dX12_one_102 : decode cX12_one 102 = .ok (.getfield 227, 3) := by decide +kernel
theorem dX12_one_105 : decode cX12_one 105 = .ok (.sipush 160, 3) := by decide +kernel
theorem dX12_one_108 : decode cX12_one 108 = .ok (.if_icmp .ne 8, 3) := by decide +kernel
theorem dX12_one_111 : decode cX12_one 111 = .ok (.bipush 14, 2) := by decide +kernel
theorem dX12_one_113 : decode cX12_one 113 = .ok (.goto 34, 3) := by decide +kernel
theorem dX12_one_116 : decode cX12_one 116 = .ok (.aload_n 0, 1) := by decide +kernel
theorem dX12_one_117 : decode cX12_one 117 = .ok (.getfield 227, 3) := by decide +kernel
theorem dX12_one_120 : decode cX12_one 120 = .ok (.sipush 161, 3) := by decide +kernel
theorem dX12_one_123 : decode cX12_one 123 = .ok (.if_icmp .ne 8, 3) := by decide +kernel
theorem dX12_one_126 : decode cX12_one 126 = .ok (.bipush 15, 2) := by decide +kernel
theorem dX12_one_128 : decode cX12_one 128 = .ok (.goto 19, 3) := by decide +kernel
theorem dX12_one_131 : decode cX12_one 131 = .ok (.aload_n 0, 1) := by decide +kernel
theorem dX12_one_132 : decode cX12_one 132 = .ok (.getfield 227, 3) := by decide +kernel
theorem dX12_one_135 : decode cX12_one 135 = .ok (.sipush 162, 3) := by decide +kernel
theorem dX12_one_138 : decode cX12_one 138 = .ok (.if_icmp .ne 8, 3) := by decide +kernel
theorem dX12_one_141 : decode cX12_one 141 = .ok (.bipush 16, 2) := by decide +kernel
theorem dX12_one_143 : decode cX12_one 143 = .ok (.goto 4, 3) := by decide +kernel
theorem dX12_one_146 : decode cX12_one 146 = .ok (.iconst (-1), 1) := by decide +kernel
theorem dX12_one_147 : decode cX12_one 147 = .ok (.istore_n 1, 1) := by decide +kernel
theorem dX12_one_148 : decode cX12_one 148 = .ok (.iload_n 1, 1) := by decide +kernel
theorem dX12_one_149 : decode cX12_one 149 = .ok (.iconst (-1), 1) := by decide +kernel
theorem dX12_one_150 : decode cX12_one 150 = .ok (.if_icmp .ne 9, 3) := by decide +kernel
theorem dX12_one_153 : decode cX12_one 153 = .ok (.aload_n 0, 1) := by decide +kernel
theorem dX12_one_154 : decode cX12_one 154 = .ok (.iconst 1, 1) := by decide +kernel
theorem dX12_one_155 : decode cX12_one 155 = .ok (.invokevirtual 258, 3) := by decide +kernel
theorem dX12_one_158 : decode cX12_one 158 = .ok (.ireturn, 1) := by decide +kernel
theorem dX12_one_159 : decode cX12_one 159 = .ok (.aload_n 0, 1) := by decide +kernel
theorem dX12_one_160 : decode cX12_one 160 = .ok (.invokevirtual 261, 3) := by decide +kernel
theorem dX12_one_163 : decode cX12_one 163 = .ok (.aload_n 0, 1) := by decide +kernel
theorem dX12_one_164 : decode cX12_one 164 = .ok (.invokevirtual 306, 3) := by decide +kernel
theorem dX12_one_167 : decode cX12_one 167 = .ok (.ifCond .ne 5, 3) := by decide +kernel
theorem dX12_one_170 : decode cX12_one 170 = .ok (.iconst 0, 1) := by decide +kernel
theorem dX12_one_171 : decode cX12_one 171 = .ok (.ireturn, 1) := by decide +kernel
theorem dX12_one_172 : decode cX12_one 172 = .ok (.aload_n 0, 1) := by decide +kernel
theorem dX12_one_173 : decode cX12_one 173 = .ok (.iload_n 1, 1) := by decide +kernel
theorem dX12_one_174 : decode cX12_one 174 = .ok (.iconst 0, 1) := by decide +kernel
theorem dX12_one_175 : decode cX12_one 175 = .ok (.invokevirtual 287, 3) := by decide +kernel
theorem dX12_one_178 : decode cX12_one 178 = .ok (.iconst 1, 1) := by decide +kernel
theorem dX12_one_179 : decode cX12_one 179 = .ok (.ireturn, 1) := by decide +kernel
theorem dX12_readerLine_0 : decode cX12_readerLine 0 = .ok (.aload_n 0, 1) := by decide +kernel
theorem dX12_readerLine_1 : decode cX12_readerLine 1 = .ok (.getfield 227, 3) := by decide +kernel
theorem dX12_readerLine_4 : decode cX12_readerLine 4 = .ok (.bipush 21, 2) := by decide +kernel
theorem dX12_readerLine_6 : decode cX12_readerLine 6 = .ok (.bipush 24, 2) := by decide +kernel
theorem dX12_readerLine_8 : decode cX12_readerLine 8 = .ok (.invokestatic 9, 3) := by decide +kernel
theorem dX12_readerLine_11 : decode cX12_readerLine 11 = .ok (.ifCond .ne 9, 3) := by decide +kernel
theorem dX12_readerLine_14 : decode cX12_readerLine 14 = .ok (.aload_n 0, 1) := by decide +kernel
theorem dX12_readerLine_15 : decode cX12_readerLine 15 = .ok (.iconst 1, 1) := by decide +kernel
theorem dX12_readerLine_16 : decode cX12_readerLine 16 = .ok (.invokevirtual 258, 3) := by decide +kernel
theorem dX12_readerLine_19 : decode cX12_readerLine 19 = .ok (.ireturn, 1) := by decide +kernel
theorem dX12_readerLine_20 : decode cX12_readerLine 20 = .ok (.aload_n 0, 1) := by decide +kernel
theorem dX12_readerLine_21 : decode cX12_readerLine 21 = .ok (.getfield 271, 3) := by decide +kernel
theorem dX12_readerLine_24 : decode cX12_readerLine 24 = .ok (.bipush 12, 2) := by decide +kernel
theorem dX12_readerLine_26 : decode cX12_readerLine 26 = .ok (.if_icmp .ne 9, 3) := by decide +kernel
theorem dX12_readerLine_29 : decode cX12_readerLine 29 = .ok (.aload_n 0, 1) := by decide +kernel
theorem dX12_readerLine_30 : decode cX12_readerLine 30 = .ok (.iconst 3, 1) := by decide +kernel
theorem dX12_readerLine_31 : decode cX12_readerLine 31 = .ok (.invokevirtual 258, 3) := by decide +kernel
theorem dX12_readerLine_34 : decode cX12_readerLine 34 = .ok (.ireturn, 1) := by decide +kernel
theorem dX12_readerLine_35 : decode cX12_readerLine 35 = .ok (.aload_n 0, 1) := by decide +kernel
theorem dX12_readerLine_36 : decode cX12_readerLine 36 = .ok (.getfield 72, 3) := by decide +kernel
theorem dX12_readerLine_39 : decode cX12_readerLine 39 = .ok (.aload_n 0, 1) := by decide +kernel
theorem dX12_readerLine_40 : decode cX12_readerLine 40 = .ok (.getfield 271, 3) := by decide +kernel
theorem dX12_readerLine_43 : decode cX12_readerLine 43 = .ok (.aload_n 0, 1) := by decide +kernel
theorem dX12_readerLine_44 : decode cX12_readerLine 44 = .ok (.getfield 227, 3) := by decide +kernel
theorem dX12_readerLine_47 : decode cX12_readerLine 47 = .ok (.bipush 20, 2) := by decide +kernel
theorem dX12_readerLine_49 : decode cX12_readerLine 49 = .ok (.isub, 1) := by decide +kernel
theorem dX12_readerLine_50 : decode cX12_readerLine 50 = .ok (.iastore, 1) := by decide +kernel
theorem dX12_readerLine_51 : decode cX12_readerLine 51 = .ok (.aload_n 0, 1) := by decide +kernel
theorem dX12_readerLine_52 : decode cX12_readerLine 52 = .ok (.getfield 75, 3) := by decide +kernel
theorem dX12_readerLine_55 : decode cX12_readerLine 55 = .ok (.aload_n 0, 1) := by decide +kernel
theorem dX12_readerLine_56 : decode cX12_readerLine 56 = .ok (.getfield 271, 3) := by decide +kernel
theorem dX12_readerLine_59 : decode cX12_readerLine 59 = .ok (.aload_n 0, 1) := by decide +kernel
theorem dX12_readerLine_60 : decode cX12_readerLine 60 = .ok (.getfield 277, 3) := by decide +kernel
theorem dX12_readerLine_63 : decode cX12_readerLine 63 = .ok (.iastore, 1) := by decide +kernel
theorem dX12_readerLine_64 : decode cX12_readerLine 64 = .ok (.aload_n 0, 1) := by decide +kernel
theorem dX12_readerLine_65 : decode cX12_readerLine 65 = .ok (.iconst 0, 1) := by decide +kernel
theorem dX12_readerLine_66 : decode cX12_readerLine 66 = .ok (.putfield 280, 3) := by decide +kernel
theorem dX12_readerLine_69 : decode cX12_readerLine 69 = .ok (.aload_n 0, 1) := by decide +kernel
theorem dX12_readerLine_70 : decode cX12_readerLine 70 = .ok (.invokevirtual 261, 3) := by decide +kernel
theorem dX12_readerLine_73 : decode cX12_readerLine 73 = .ok (.aload_n 0, 1) := by decide +kernel
theorem dX12_readerLine_74 : decode cX12_readerLine 74 = .ok (.iconst 3, 1) := by decide +kernel
theorem dX12_readerLine_75 : decode cX12_readerLine 75 = .ok (.invokevirtual 268, 3) := by decide +kernel
theorem dX12_readerLine_78 : decode cX12_readerLine 78 = .ok (.ifCond .eq 10, 3) := by decide +kernel
theorem dX12_readerLine_81 : decode cX12_readerLine 81 = .ok (.aload_n 0, 1) := by decide +kernel
theorem dX12_readerLine_82 : decode cX12_readerLine 82 = .ok (.invokevirtual 303, 3) := by decide +kernel
theorem dX12_readerLine_85 : decode cX12_readerLine 85 = .ok (.ifCond .ne 5, 3) := by decide +kernel
theorem dX12_readerLine_88 : decode cX12_readerLine 88 = .ok (.iconst 0, 1) := by decide +kernel
theorem dX12_readerLine_89 : decode cX12_readerLine 89 = .ok (.ireturn, 1) := by decide +kernel
theorem dX12_readerLine_90 : decode cX12_readerLine 90 = .ok (.aload_n 0, 1) := by decide +kernel
theorem dX12_readerLine_91 : decode cX12_readerLine 91 = .ok (.getfield 75, 3) := by decide +kernel
theorem dX12_readerLine_94 : decode cX12_readerLine 94 = .ok (.aload_n 0, 1) := by decide +kernel
theorem dX12_readerLine_95 : decode cX12_readerLine 95 = .ok (.getfield 271, 3) := by decide +kernel
theorem dX12_readerLine_98 : decode cX12_readerLine 98 = .ok (.iconst 1, 1) := by decide +kernel
theorem dX12_readerLine_99 : decode cX12_readerLine 99 = .ok (.iadd, 1) := by decide +kernel
theorem dX12_readerLine_100 : decode cX12_readerLine 100 = .ok (.aload_n 0, 1) := by decide +kernel
theorem dX12_readerLine_101 : decode cX12_readerLine 101 = .ok (.getfield 277, 3) := by decide +kernel
theorem dX12_readerLine_104 : decode cX12_readerLine 104 = .ok (.iastore, 1) := by decide +kernel
theorem dX12_readerLine_105 : decode cX12_readerLine 105 = .ok (.aload_n 0, 1) := by decide +kernel
theorem dX12_readerLine_106 : decode cX12_readerLine 106 = .ok (.sipush 159, 3) := by decide +kernel
theorem dX12_readerLine_109 : decode cX12_readerLine 109 = .ok (.invokevirtual 268, 3) := by decide +kernel
theorem dX12_readerLine_112 : decode cX12_readerLine 112 = .ok (.ireturn, 1) := by decide +kernel
theorem dX12_begins_0 : decode cX12_begins 0 = .ok (.aload_n 0, 1) := by decide +kernel
theorem dX12_begins_1 : decode cX12_begins 1 = .ok (.iconst 0, 1) := by decide +kernel
theorem dX12_begins_2 : decode cX12_begins 2 = .ok (.putfield 145, 3) := by decide +kernel
theorem dX12_begins_5 : decode cX12_begins 5 = .ok (.aload_n 0, 1) := by decide +kernel
theorem dX12_begins_6 : decode cX12_begins 6 = .ok (.iconst 0, 1) := by decide +kernel
theorem dX12_begins_7 : decode cX12_begins 7 = .ok (.putfield 271, 3) := by decide +kernel
theorem dX12_begins_10 : decode cX12_begins 10 = .ok (.aload_n 0, 1) := by decide +kernel
theorem dX12_begins_11 : decode cX12_begins 11 = .ok (.iconst 0, 1) := by decide +kernel
theorem dX12_begins_12 : decode cX12_begins 12 = .ok (.putfield 277, 3) := by decide +kernel
theorem dX12_begins_15 : decode cX12_begins 15 = .ok (.iconst 0, 1) := by decide +kernel
theorem dX12_begins_16 : decode cX12_begins 16 = .ok (.istore_n 1, 1) := by decide +kernel
theorem dX12_begins_17 : decode cX12_begins 17 = .ok (.iload_n 1, 1) := by decide +kernel
theorem dX12_begins_18 : decode cX12_begins 18 = .ok (.bipush 8, 2) := by decide +kernel
