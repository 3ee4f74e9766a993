theorem dX0_init_0 : decode cX0_init 0 = .ok (.aload_n 0, 1) := by decide +kernel
theorem dX0_init_1 : decode cX0_init 1 = .ok (.invokespecial 3, 3) := by decide +kernel
theorem dX0_init_4 : decode cX0_init 4 = .ok (.aload_n 0, 1) := by decide +kernel
theorem dX0_init_5 : decode cX0_init 5 = .ok (.bipush 8, 2) := by decide +kernel
theorem dX0_init_7 : decode cX0_init 7 = .ok (.newarray .int, 2) := by decide +kernel
theorem dX0_init_9 : decode cX0_init 9 = .ok (.putfield 9, 3) := by decide +kernel
theorem dX0_init_12 : decode cX0_init 12 = .ok (.aload_n 0, 1) := by decide +kernel
theorem dX0_init_13 : decode cX0_init 13 = .ok (.bipush 100, 2) := by decide +kernel
theorem dX0_init_15 : decode cX0_init 15 = .ok (.newarray .int, 2) := by decide +kernel
theorem dX0_init_17 : decode cX0_init 17 = .ok (.putfield 15, 3) := by decide +kernel
theorem dX0_init_20 : decode cX0_init 20 = .ok (.aload_n 0, 1) := by decide +kernel
theorem dX0_init_21 : decode cX0_init 21 = .ok (.sipush 300, 3) := by decide +kernel
theorem dX0_init_24 : decode cX0_init 24 = .ok (.putfield 18, 3) := by decide +kernel
theorem dX0_init_27 : decode cX0_init 27 = .ok (.return_, 1) := by decide +kernel
theorem dX0_forget_0 : decode cX0_forget 0 = .ok (.aload_n 0, 1) := by decide +kernel
theorem dX0_forget_1 : decode cX0_forget 1 = .ok (.iconst 0, 1) := by decide +kernel
theorem dX0_forget_2 : decode cX0_forget 2 = .ok (.putfield 22, 3) := by decide +kernel
theorem dX0_forget_5 : decode cX0_forget 5 = .ok (.aload_n 0, 1) := by decide +kernel
theorem dX0_forget_6 : decode cX0_forget 6 = .ok (.sipush 300, 3) := by decide +kernel
theorem dX0_forget_9 : decode cX0_forget 9 = .ok (.putfield 18, 3) := by decide +kernel
theorem dX0_forget_12 : decode cX0_forget 12 = .ok (.return_, 1) := by decide +kernel
theorem dX0_tellHold_0 : decode cX0_tellHold 0 = .ok (.iload_n 1, 1) := by decide +kernel
theorem dX0_tellHold_1 : decode cX0_tellHold 1 = .ok (.iconst 1, 1) := by decide +kernel
theorem dX0_tellHold_2 : decode cX0_tellHold 2 = .ok (.sipush 300, 3) := by decide +kernel
theorem dX0_tellHold_5 : decode cX0_tellHold 5 = .ok (.invokestatic 25, 3) := by decide +kernel
theorem dX0_tellHold_8 : decode cX0_tellHold 8 = .ok (.ifCond .ne 5, 3) := by decide +kernel
theorem dX0_tellHold_11 : decode cX0_tellHold 11 = .ok (.iconst 0, 1) := by decide +kernel
theorem dX0_tellHold_12 : decode cX0_tellHold 12 = .ok (.ireturn, 1) := by decide +kernel
theorem dX0_tellHold_13 : decode cX0_tellHold 13 = .ok (.aload_n 0, 1) := by decide +kernel
theorem dX0_tellHold_14 : decode cX0_tellHold 14 = .ok (.iload_n 1, 1) := by decide +kernel
theorem dX0_tellHold_15 : decode cX0_tellHold 15 = .ok (.putfield 18, 3) := by decide +kernel
theorem dX0_tellHold_18 : decode cX0_tellHold 18 = .ok (.iconst 1, 1) := by decide +kernel
theorem dX0_tellHold_19 : decode cX0_tellHold 19 = .ok (.ireturn, 1) := by decide +kernel
theorem dX0_tellMark_0 : decode cX0_tellMark 0 = .ok (.iload_n 1, 1) := by decide +kernel
theorem dX0_tellMark_1 : decode cX0_tellMark 1 = .ok (.iconst 1, 1) := by decide +kernel
theorem dX0_tellMark_2 : decode cX0_tellMark 2 = .ok (.bipush 99, 2) := by decide +kernel
theorem dX0_tellMark_4 : decode cX0_tellMark 4 = .ok (.invokestatic 25, 3) := by decide +kernel
theorem dX0_tellMark_7 : decode cX0_tellMark 7 = .ok (.ifCond .eq 20, 3) := by decide +kernel
theorem dX0_tellMark_10 : decode cX0_tellMark 10 = .ok (.aload_n 0, 1) := by decide +kernel
theorem dX0_tellMark_11 : decode cX0_tellMark 11 = .ok (.getfield 22, 3) := by decide +kernel
theorem dX0_tellMark_14 : decode cX0_tellMark 14 = .ok (.bipush 8, 2) := by decide +kernel
theorem dX0_tellMark_16 : decode cX0_tellMark 16 = .ok (.if_icmp .ge 11, 3) := by decide +kernel
theorem dX0_tellMark_19 : decode cX0_tellMark 19 = .ok (.aload_n 0, 1) := by decide +kernel
theorem dX0_tellMark_20 : decode cX0_tellMark 20 = .ok (.iload_n 1, 1) := by decide +kernel
theorem dX0_tellMark_21 : decode cX0_tellMark 21 = .ok (.invokevirtual 29, 3) := by decide +kernel
theorem dX0_tellMark_24 : decode cX0_tellMark 24 = .ok (.ifCond .eq 5, 3) := by decide +kernel
theorem dX0_tellMark_27 : decode cX0_tellMark 27 = .ok (.iconst 0, 1) := by decide +kernel
theorem dX0_tellMark_28 : decode cX0_tellMark 28 = .ok (.ireturn, 1) := by decide +kernel
theorem dX0_tellMark_29 : decode cX0_tellMark 29 = .ok (.aload_n 0, 1) := by decide +kernel
theorem dX0_tellMark_30 : decode cX0_tellMark 30 = .ok (.getfield 9, 3) := by decide +kernel
theorem dX0_tellMark_33 : decode cX0_tellMark 33 = .ok (.aload_n 0, 1) := by decide +kernel
theorem dX0_tellMark_34 : decode cX0_tellMark 34 = .ok (.getfield 22, 3) := by decide +kernel
theorem dX0_tellMark_37 : decode cX0_tellMark 37 = .ok (.iload_n 1, 1) := by decide +kernel
theorem dX0_tellMark_38 : decode cX0_tellMark 38 = .ok (.iastore, 1) := by decide +kernel
theorem dX0_tellMark_39 : decode cX0_tellMark 39 = .ok (.aload_n 0, 1) := by decide +kernel
theorem dX0_tellMark_40 : decode cX0_tellMark 40 = .ok (.dup, 1) := by decide +kernel
theorem dX0_tellMark_41 : decode cX0_tellMark 41 = .ok (.getfield 22, 3) := by decide +kernel
theorem dX0_tellMark_44 : decode cX0_tellMark 44 = .ok (.iconst 1, 1) := by decide +kernel
theorem dX0_tellMark_45 : decode cX0_tellMark 45 = .ok (.iadd, 1) := by decide +kernel
theorem dX0_tellMark_46 : decode cX0_tellMark 46 = .ok (.putfield 22, 3) := by decide +kernel
theorem dX0_tellMark_49 : decode cX0_tellMark 49 = .ok (.iconst 1, 1) := by decide +kernel
theorem dX0_tellMark_50 : decode cX0_tellMark 50 = .ok (.ireturn, 1) := by decide +kernel
theorem dX0_leaves_0 : decode cX0_leaves 0 = .ok (.iconst 0, 1) := by decide +kernel
theorem dX0_leaves_1 : decode cX0_leaves 1 = .ok (.istore_n 2, 1) := by decide +kernel
theorem dX0_leaves_2 : decode cX0_leaves 2 = .ok (.iload_n 2, 1) := by decide +kernel
theorem dX0_leaves_3 : decode cX0_leaves 3 = .ok (.aload_n 0, 1) := by decide +kernel
theorem dX0_leaves_4 : decode cX0_leaves 4 = .ok (.getfield 22, 3) := by decide +kernel
theorem dX0_leaves_7 : decode cX0_leaves 7 = .ok (.if_icmp .ge 21, 3) := by decide +kernel
theorem dX0_leaves_10 : decode cX0_leaves 10 = .ok (.aload_n 0, 1) := by decide +kernel
theorem dX0_leaves_11 : decode cX0_leaves 11 = .ok (.getfield 9, 3) := by decide +kernel
theorem dX0_leaves_14 : decode cX0_leaves 14 = .ok (.iload_n 2, 1) := by decide +kernel
theorem dX0_leaves_15 : decode cX0_leaves 15 = .ok (.iaload, 1) := by decide +kernel
theorem dX0_leaves_16 : decode cX0_leaves 16 = .ok (.iload_n 1, 1) := by decide +kernel
theorem dX0_leaves_17 : decode cX0_leaves 17 = .ok (.if_icmp .ne 5, 3) := by decide +kernel
theorem dX0_leaves_20 : decode cX0_leaves 20 = .ok (.iconst 1, 1) := by decide +kernel
theorem dX0_leaves_21 : decode cX0_leaves 21 = .ok (.ireturn, 1) := by decide +kernel
theorem dX0_leaves_22 : decode cX0_leaves 22 = .ok (.iinc 2 1, 3) := by decide +kernel
theorem dX0_leaves_25 : decode cX0_leaves 25 = .ok (.goto (-23), 3) := by decide +kernel
theorem dX0_leaves_28 : decode cX0_leaves 28 = .ok (.iconst 0, 1) := by decide +kernel
theorem dX0_leaves_29 : decode cX0_leaves 29 = .ok (.ireturn, 1) := by decide +kernel
theorem dX0_lacks_0 : decode cX0_lacks 0 = .ok (.aload_n 0, 1) := by decide +kernel
theorem dX0_lacks_1 : decode cX0_lacks 1 = .ok (.getfield 15, 3) := by decide +kernel
theorem dX0_lacks_4 : decode cX0_lacks 4 = .ok (.iconst 0, 1) := by decide +kernel
theorem dX0_lacks_5 : decode cX0_lacks 5 = .ok (.invokestatic 33, 3) := by decide +kernel
theorem dX0_lacks_8 : decode cX0_lacks 8 = .ok (.iconst 0, 1) := by decide +kernel
theorem dX0_lacks_9 : decode cX0_lacks 9 = .ok (.istore 4, 2) := by decide +kernel
theorem dX0_lacks_11 : decode cX0_lacks 11 = .ok (.iload_n 2, 1) := by decide +kernel
theorem dX0_lacks_12 : decode cX0_lacks 12 = .ok (.istore 5, 2) := by decide +kernel
theorem dX0_lacks_14 : decode cX0_lacks 14 = .ok (.iload 5, 2) := by decide +kernel
theorem dX0_lacks_16 : decode cX0_lacks 16 = .ok (.iload_n 3, 1) := by decide +kernel
theorem dX0_lacks_17 : decode cX0_lacks 17 = .ok (.if_icmp .gt 61, 3) := by decide +kernel
theorem dX0_lacks_20 : decode cX0_lacks 20 = .ok (.aload_n 1, 1) := by decide +kernel
theorem dX0_lacks_21 : decode cX0_lacks 21 = .ok (.getfield 39, 3) := by decide +kernel
theorem dX0_lacks_24 : decode cX0_lacks 24 = .ok (.iconst 5, 1) := by decide +kernel
theorem dX0_lacks_25 : decode cX0_lacks 25 = .ok (.aaload, 1) := by decide +kernel
theorem dX0_lacks_26 : decode cX0_lacks 26 = .ok (.iload 5, 2) := by decide +kernel
theorem dX0_lacks_28 : decode cX0_lacks 28 = .ok (.iaload, 1) := by decide +kernel
theorem dX0_lacks_29 : decode cX0_lacks 29 = .ok (.istore 6, 2) := by decide +kernel
theorem dX0_lacks_31 : decode cX0_lacks 31 = .ok (.iload 6, 2) := by decide +kernel
theorem dX0_lacks_33 : decode cX0_lacks 33 = .ok (.iconst 1, 1) := by decide +kernel
theorem dX0_lacks_34 : decode cX0_lacks 34 = .ok (.bipush 99, 2) := by decide +kernel
theorem dX0_lacks_36 : decode cX0_lacks 36 = .ok (.invokestatic 25, 3) := by decide +kernel
theorem dX0_lacks_39 : decode cX0_lacks 39 = .ok (.ifCond .eq 33, 3) := by decide +kernel
theorem dX0_lacks_42 : decode cX0_lacks 42 = .ok (.aload_n 0, 1) := by decide +kernel
theorem dX0_lacks_43 : decode cX0_lacks 43 = .ok (.getfield 15, 3) := by decide +kernel
theorem dX0_lacks_46 : decode cX0_lacks 46 = .ok (.iload 6, 2) := by decide +kernel
theorem dX0_lacks_48 : decode cX0_lacks 48 = .ok (.iaload, 1) := by decide +kernel
theorem dX0_lacks_49 : decode cX0_lacks 49 = .ok (.ifCond .ne 23, 3) := by decide +kernel
theorem dX0_lacks_52 : decode cX0_lacks 52 = .ok (.aload_n 0, 1) := by decide +kernel
theorem dX0_lacks_53 : decode cX0_lacks 53 = .ok (.iload 6, 2) := by decide +kernel
theorem dX0_lacks_55 : decode cX0_lacks 55 = .ok (.invokevirtual 29, 3) := by decide +kernel
theorem dX0_lacks_58 : decode cX0_lacks 58 = .ok (.ifCond .ne 14, 3) := by decide +kernel
theorem dX0_lacks_61 : decode cX0_lacks 61 = .ok (.aload_n 0, 1) := by decide +kernel
theorem dX0_lacks_62 : decode cX0_lacks 62 = .ok (.getfield 15, 3) := by decide +kernel
theorem dX0_lacks_65 : decode cX0_lacks 65 = .ok (.iload 6, 2) := by decide +kernel
theorem dX0_lacks_67 : decode cX0_lacks 67 = .ok (.iconst 1, 1) := by decide +kernel
theorem dX0_lacks_68 : decode cX0_lacks 68 = .ok (.iastore, 1) := by decide +kernel
theorem dX0_lacks_69 : decode cX0_lacks 69 = .ok (.iinc 4 1, 3) := by decide +kernel
theorem dX0_lacks_72 : decode cX0_lacks 72 = .ok (.iinc 5 1, 3) := by decide +kernel
theorem dX0_lacks_75 : decode cX0_lacks 75 = .ok (.goto (-61), 3) := by decide +kernel
theorem dX0_lacks_78 : decode cX0_lacks 78 = .ok (.iload 4, 2) := by decide +kernel
theorem dX0_lacks_80 : decode cX0_lacks 80 = .ok (.ireturn, 1) := by decide +kernel
theorem dX1_init_0 : decode cX1_init 0 = .ok (.aload_n 0, 1) := by decide +kernel
theorem dX1_init_1 : decode cX1_init 1 = .ok (.invokespecial 3, 3) := by decide +kernel
theorem dX1_init_4 : decode cX1_init 4 = .ok (.return_, 1) := by decide +kernel
theorem dX1_perform_0 : decode cX1_perform 0 = .ok (.iconst 0, 1) := by decide +kernel
theorem dX1_perform_1 : decode cX1_perform 1 = .ok (.istore 5, 2) := by decide +kernel
theorem dX1_perform_3 : decode cX1_perform 3 = .ok (.iload 5, 2) := by decide +kernel
theorem dX1_perform_5 : decode cX1_perform 5 = .ok (.iconst 2, 1) := by decide +kernel
theorem dX1_perform_6 : decode cX1_perform 6 = .ok (.if_icmp .ge 18, 3) := by decide +kernel
theorem dX1_perform_9 : decode cX1_perform 9 = .ok (.aload 4, 2) := by decide +kernel
theorem dX1_perform_11 : decode cX1_perform 11 = .ok (.iload 5, 2) := by decide +kernel
theorem dX1_perform_13 : decode cX1_perform 13 = .ok (.aaload, 1) := by decide +kernel
theorem dX1_perform_14 : decode cX1_perform 14 = .ok (.iconst 0, 1) := by decide +kernel
theorem dX1_perform_15 : decode cX1_perform 15 = .ok (.invokevirtual 9, 3) := by decide +kernel
theorem dX1_perform_18 : decode cX1_perform 18 = .ok (.iinc 5 1, 3) := by decide +kernel
theorem dX1_perform_21 : decode cX1_perform 21 = .ok (.goto (-18), 3) := by decide +kernel
theorem dX1_perform_24 : decode cX1_perform 24 = .ok (.aload_n 0, 1) := by decide +kernel
theorem dX1_perform_25 : decode cX1_perform 25 = .ok (.iconst 0, 1) := by decide +kernel
theorem dX1_perform_26 : decode cX1_perform 26 = .ok (.putfield 15, 3) := by decide +kernel
theorem dX1_perform_29 : decode cX1_perform 29 = .ok (.aload_n 0, 1) := by decide +kernel
theorem dX1_perform_30 : decode cX1_perform 30 = .ok (.iconst 0, 1) := by decide +kernel
theorem dX1_perform_31 : decode cX1_perform 31 = .ok (.putfield 21, 3) := by decide +kernel
theorem dX1_perform_34 : decode cX1_perform 34 = .ok (.aload_n 0, 1) := by decide +kernel
theorem dX1_perform_35 : decode cX1_perform 35 = .ok (.iconst 0, 1) := by decide +kernel
theorem dX1_perform_36 : decode cX1_perform 36 = .ok (.putfield 24, 3) := by decide +kernel
theorem dX1_perform_39 : decode cX1_perform 39 = .ok (.aload_n 0, 1) := by decide +kernel
theorem dX1_perform_40 : decode cX1_perform 40 = .ok (.iconst 0, 1) := by decide +kernel
theorem dX1_perform_41 : decode cX1_perform 41 = .ok (.putfield 27, 3) := by decide +kernel
theorem dX1_perform_44 : decode cX1_perform 44 = .ok (.aload_n 0, 1) := by decide +kernel
theorem dX1_perform_45 : decode cX1_perform 45 = .ok (.iconst 0, 1) := by decide +kernel
theorem dX1_perform_46 : decode cX1_perform 46 = .ok (.putfield 30, 3) := by decide +kernel
theorem dX1_perform_49 : decode cX1_perform 49 = .ok (.aload_n 0, 1) := by decide +kernel
theorem dX1_perform_50 : decode cX1_perform 50 = .ok (.iconst 1, 1) := by decide +kernel
theorem dX1_perform_51 : decode cX1_perform 51 = .ok (.putfield 33, 3) := by decide +kernel
theorem dX1_perform_54 : decode cX1_perform 54 = .ok (.iconst 0, 1) := by decide +kernel
theorem dX1_perform_55 : decode cX1_perform 55 = .ok (.istore 5, 2) := by decide +kernel
theorem dX1_perform_57 : decode cX1_perform 57 = .ok (.iload 5, 2) := by decide +kernel
theorem dX1_perform_59 : decode cX1_perform 59 = .ok (.aload_n 1, 1) := by decide +kernel
theorem dX1_perform_60 : decode cX1_perform 60 = .ok (.getfield 36, 3) := by decide +kernel
theorem dX1_perform_63 : decode cX1_perform 63 = .ok (.if_icmp .ge 57, 3) := by decide +kernel
theorem dX1_perform_66 : decode cX1_perform 66 = .ok (.aload_n 1, 1) := by decide +kernel
theorem dX1_perform_67 : decode cX1_perform 67 = .ok (.getfield 41, 3) := by decide +kernel
theorem dX1_perform_70 : decode cX1_perform 70 = .ok (.iload 5, 2) := by decide +kernel
theorem dX1_perform_72 : decode cX1_perform 72 = .ok (.iaload, 1) := by decide +kernel
theorem dX1_perform_73 : decode cX1_perform 73 = .ok (.iconst 5, 1) := by decide +kernel
theorem dX1_perform_74 : decode cX1_perform 74 = .ok (.if_icmp .gt 24, 3) := by decide +kernel
theorem dX1_perform_77 : decode cX1_perform 77 = .ok (.aload_n 0, 1) := by decide +kernel
theorem dX1_perform_78 : decode cX1_perform 78 = .ok (.aload_n 1, 1) := by decide +kernel
theorem dX1_perform_79 : decode cX1_perform 79 = .ok (.getfield 41, 3) := by decide +kernel
theorem dX1_perform_82 : decode cX1_perform 82 = .ok (.iload 5, 2) := by decide +kernel
theorem dX1_perform_84 : decode cX1_perform 84 = .ok (.iaload, 1) := by decide +kernel
theorem dX1_perform_85 : decode cX1_perform 85 = .ok (.aload_n 1, 1) := by decide +kernel
theorem dX1_perform_86 : decode cX1_perform 86 = .ok (.getfield 45, 3) := by decide +kernel
theorem dX1_perform_89 : decode cX1_perform 89 = .ok (.iload 5, 2) := by decide +kernel
theorem dX1_perform_91 : decode cX1_perform 91 = .ok (.iaload, 1) := by decide +kernel
theorem dX1_perform_92 : decode cX1_perform 92 = .ok (.invokevirtual 48, 3) := by decide +kernel
theorem dX1_perform_95 : decode cX1_perform 95 = .ok (.goto 19, 3) := by decide +kernel
theorem dX1_perform_98 : decode cX1_perform 98 = .ok (.aload_n 0, 1) := by decide +kernel
theorem dX1_perform_99 : decode cX1_perform 99 = .ok (.aload_n 1, 1) := by decide +kernel
theorem dX1_perform_100 : decode cX1_perform 100 = .ok (.iload 5, 2) := by decide +kernel
theorem dX1_perform_102 : decode cX1_perform 102 = .ok (.aload_n 2, 1) := by decide +kernel
theorem dX1_perform_103 : decode cX1_perform 103 = .ok (.aload_n 0, 1) := by decide +kernel
theorem dX1_perform_104 : decode cX1_perform 104 = .ok (.getfield 15, 3) := by decide +kernel
theorem dX1_perform_107 : decode cX1_perform 107 = .ok (.aaload, 1) := by decide +kernel
theorem dX1_perform_108 : decode cX1_perform 108 = .ok (.aload_n 3, 1) := by decide +kernel
theorem dX1_perform_109 : decode cX1_perform 109 = .ok (.aload 4, 2) := by decide +kernel
theorem dX1_perform_111 : decode cX1_perform 111 = .ok (.invokevirtual 52, 3) := by decide +kernel
theorem dX1_perform_114 : decode cX1_perform 114 = .ok (.iinc 5 1, 3) := by decide +kernel
theorem dX1_perform_117 : decode cX1_perform 117 = .ok (.goto (-60), 3) := by decide +kernel
theorem dX1_perform_120 : decode cX1_perform 120 = .ok (.return_, 1) := by decide +kernel
theorem dX1_set_0 : decode cX1_set 0 = .ok (.iload_n 1, 1) := by decide +kernel
theorem dX1_set_1 : decode cX1_set 1 = .ok (.tableswitch 75 0 4 #[35, 43, 51, 59, 67], 35) := by decide +kernel
theorem dX1_set_36 : decode cX1_set 36 = .ok (.aload_n 0, 1) := by decide +kernel
theorem dX1_set_37 : decode cX1_set 37 = .ok (.iload_n 2, 1) := by decide +kernel
theorem dX1_set_38 : decode cX1_set 38 = .ok (.putfield 15, 3) := by decide +kernel
theorem dX1_set_41 : decode cX1_set 41 = .ok (.goto 40, 3) := by decide +kernel
theorem dX1_set_44 : decode cX1_set 44 = .ok (.aload_n 0, 1) := by decide +kernel
theorem dX1_set_45 : decode cX1_set 45 = .ok (.iload_n 2, 1) := by decide +kernel
theorem dX1_set_46 : decode cX1_set 46 = .ok (.putfield 21, 3) := by decide +kernel
theorem dX1_set_49 : decode cX1_set 49 = .ok (.goto 32, 3) := by decide +kernel
theorem dX1_set_52 : decode cX1_set 52 = .ok (.aload_n 0, 1) := by decide +kernel
theorem dX1_set_53 : decode cX1_set 53 = .ok (.iload_n 2, 1) := by decide +kernel
theorem dX1_set_54 : decode cX1_set 54 = .ok (.putfield 24, 3) := by decide +kernel
theorem dX1_set_57 : decode cX1_set 57 = .ok (.goto 24, 3) := by decide +kernel
theorem dX1_set_60 : decode cX1_set 60 = .ok (.aload_n 0, 1) := by decide +kernel
theorem dX1_set_61 : decode cX1_set 61 = .ok (.iload_n 2, 1) := by decide +kernel
theorem dX1_set_62 : decode cX1_set 62 = .ok (.putfield 27, 3) := by decide +kernel
theorem dX1_set_65 : decode cX1_set 65 = .ok (.goto 16, 3) := by decide +kernel
theorem dX1_set_68 : decode cX1_set 68 = .ok (.aload_n 0, 1) := by decide +kernel
theorem dX1_set_69 : decode cX1_set 69 = .ok (.iload_n 2, 1) := by decide +kernel
theorem dX1_set_70 : decode cX1_set 70 = .ok (.putfield 30, 3) := by decide +kernel
theorem dX1_set_73 : decode cX1_set 73 = .ok (.goto 8, 3) := by decide +kernel
theorem dX1_set_76 : decode cX1_set 76 = .ok (.aload_n 0, 1) := by decide +kernel
theorem dX1_set_77 : decode cX1_set 77 = .ok (.iload_n 2, 1) := by decide +kernel
theorem dX1_set_78 : decode cX1_set 78 = .ok (.putfield 33, 3) := by decide +kernel
theorem dX1_set_81 : decode cX1_set 81 = .ok (.return_, 1) := by decide +kernel
theorem dX1_stroke_0 : decode cX1_stroke 0 = .ok (.aload_n 1, 1) := by decide +kernel
theorem dX1_stroke_1 : decode cX1_stroke 1 = .ok (.getfield 45, 3) := by decide +kernel
theorem dX1_stroke_4 : decode cX1_stroke 4 = .ok (.iload_n 2, 1) := by decide +kernel
theorem dX1_stroke_5 : decode cX1_stroke 5 = .ok (.iaload, 1) := by decide +kernel
theorem dX1_stroke_6 : decode cX1_stroke 6 = .ok (.istore 6, 2) := by decide +kernel
theorem dX1_stroke_8 : decode cX1_stroke 8 = .ok (.aload_n 1, 1) := by decide +kernel
theorem dX1_stroke_9 : decode cX1_stroke 9 = .ok (.getfield 41, 3) := by decide +kernel
theorem dX1_stroke_12 : decode cX1_stroke 12 = .ok (.iload_n 2, 1) := by decide +kernel
theorem dX1_stroke_13 : decode cX1_stroke 13 = .ok (.iaload, 1) := by decide +kernel
theorem dX1_stroke_14 : decode cX1_stroke 14 = .ok (.tableswitch 134 6 9 #[30, 49, 68, 115], 30) := by decide +kernel
theorem dX1_stroke_44 : decode cX1_stroke 44 = .ok (.aload_n 0, 1) := by decide +kernel
theorem dX1_stroke_45 : decode cX1_stroke 45 = .ok (.aload 5, 2) := by decide +kernel
theorem dX1_stroke_47 : decode cX1_stroke 47 = .ok (.aload_n 0, 1) := by decide +kernel
theorem dX1_stroke_48 : decode cX1_stroke 48 = .ok (.getfield 21, 3) := by decide +kernel
theorem dX1_stroke_51 : decode cX1_stroke 51 = .ok (.aaload, 1) := by decide +kernel
theorem dX1_stroke_52 : decode cX1_stroke 52 = .ok (.iload 6, 2) := by decide +kernel
theorem dX1_stroke_54 : decode cX1_stroke 54 = .ok (.aload_n 3, 1) := by decide +kernel
theorem dX1_stroke_55 : decode cX1_stroke 55 = .ok (.aload 4, 2) := by decide +kernel
theorem dX1_stroke_57 : decode cX1_stroke 57 = .ok (.invokevirtual 56, 3) := by decide +kernel
theorem dX1_stroke_60 : decode cX1_stroke 60 = .ok (.goto 88, 3) := by decide +kernel
theorem dX1_stroke_63 : decode cX1_stroke 63 = .ok (.aload_n 0, 1) := by decide +kernel
theorem dX1_stroke_64 : decode cX1_stroke 64 = .ok (.aload 5, 2) := by decide +kernel
theorem dX1_stroke_66 : decode cX1_stroke 66 = .ok (.aload_n 0, 1) := by decide +kernel
theorem dX1_stroke_67 : decode cX1_stroke 67 = .ok (.getfield 21, 3) := by decide +kernel
theorem dX1_stroke_70 : decode cX1_stroke 70 = .ok (.aaload, 1) := by decide +kernel
theorem dX1_stroke_71 : decode cX1_stroke 71 = .ok (.iload 6, 2) := by decide +kernel
theorem dX1_stroke_73 : decode cX1_stroke 73 = .ok (.aload_n 3, 1) := by decide +kernel
theorem dX1_stroke_74 : decode cX1_stroke 74 = .ok (.aload 4, 2) := by decide +kernel
theorem dX1_stroke_76 : decode cX1_stroke 76 = .ok (.invokevirtual 60, 3) := by decide +kernel
theorem dX1_stroke_79 : decode cX1_stroke 79 = .ok (.goto 69, 3) := by decide +kernel
theorem dX1_stroke_82 : decode cX1_stroke 82 = .ok (.aload_n 1, 1) := by decide +kernel
theorem dX1_stroke_83 : decode cX1_stroke 83 = .ok (.getfield 63, 3) := by decide +kernel
theorem dX1_stroke_86 : decode cX1_stroke 86 = .ok (.iload_n 2, 1) := by decide +kernel
theorem dX1_stroke_87 : decode cX1_stroke 87 = .ok (.iaload, 1) := by decide +kernel
theorem dX1_stroke_88 : decode cX1_stroke 88 = .ok (.sipush 300, 3) := by decide +kernel
theorem dX1_stroke_91 : decode cX1_stroke 91 = .ok (.iload 6, 2) := by decide +kernel
theorem dX1_stroke_93 : decode cX1_stroke 93 = .ok (.isub, 1) := by decide +kernel
theorem dX1_stroke_94 : decode cX1_stroke 94 = .ok (.invokestatic 66, 3) := by decide +kernel
theorem dX1_stroke_97 : decode cX1_stroke 97 = .ok (.istore 7, 2) := by decide +kernel
theorem dX1_stroke_99 : decode cX1_stroke 99 = .ok (.aload_n 0, 1) := by decide +kernel
theorem dX1_stroke_100 : decode cX1_stroke 100 = .ok (.aload 5, 2) := by decide +kernel
theorem dX1_stroke_102 : decode cX1_stroke 102 = .ok (.aload_n 0, 1) := by decide +kernel
theorem dX1_stroke_103 : decode cX1_stroke 103 = .ok (.getfield 21, 3) := by decide +kernel
theorem dX1_stroke_106 : decode cX1_stroke 106 = .ok (.aaload, 1) := by decide +kernel
theorem dX1_stroke_107 : decode cX1_stroke 107 = .ok (.aload 5, 2) := by decide +kernel
theorem dX1_stroke_109 : decode cX1_stroke 109 = .ok (.iconst 1, 1) := by decide +kernel
theorem dX1_stroke_110 : decode cX1_stroke 110 = .ok (.aload_n 0, 1) := by decide +kernel
theorem dX1_stroke_111 : decode cX1_stroke 111 = .ok (.getfield 21, 3) := by decide +kernel
theorem dX1_stroke_114 : decode cX1_stroke 114 = .ok (.isub, 1) := by decide +kernel
theorem dX1_stroke_115 : decode cX1_stroke 115 = .ok (.aaload, 1) := by decide +kernel
theorem dX1_stroke_116 : decode cX1_stroke 116 = .ok (.iload 6, 2) := by decide +kernel
theorem dX1_stroke_118 : decode cX1_stroke 118 = .ok (.iload 7, 2) := by decide +kernel
theorem dX1_stroke_120 : decode cX1_stroke 120 = .ok (.aload_n 3, 1) := by decide +kernel
theorem dX1_stroke_121 : decode cX1_stroke 121 = .ok (.aload 4, 2) := by decide +kernel
theorem dX1_stroke_123 : decode cX1_stroke 123 = .ok (.invokevirtual 72, 3) := by decide +kernel
theorem dX1_stroke_126 : decode cX1_stroke 126 = .ok (.goto 22, 3) := by decide +kernel
theorem dX1_stroke_129 : decode cX1_stroke 129 = .ok (.aload 5, 2) := by decide +kernel
theorem dX1_stroke_131 : decode cX1_stroke 131 = .ok (.aload_n 0, 1) := by decide +kernel
theorem dX1_stroke_132 : decode cX1_stroke 132 = .ok (.getfield 21, 3) := by decide +kernel
theorem dX1_stroke_135 : decode cX1_stroke 135 = .ok (.aaload, 1) := by decide +kernel
theorem dX1_stroke_136 : decode cX1_stroke 136 = .ok (.aload_n 0, 1) := by decide +kernel
theorem dX1_stroke_137 : decode cX1_stroke 137 = .ok (.getfield 24, 3) := by decide +kernel
theorem dX1_stroke_140 : decode cX1_stroke 140 = .ok (.iload 6, 2) := by decide +kernel
theorem dX1_stroke_142 : decode cX1_stroke 142 = .ok (.invokevirtual 76, 3) := by decide +kernel
theorem dX1_stroke_145 : decode cX1_stroke 145 = .ok (.goto 3, 3) := by decide +kernel
theorem dX1_stroke_148 : decode cX1_stroke 148 = .ok (.return_, 1) := by decide +kernel
theorem dX1_record_0 : decode cX1_record 0 = .ok (.aload_n 0, 1) := by decide +kernel
theorem dX1_record_1 : decode cX1_record 1 = .ok (.getfield 24, 3) := by decide +kernel
theorem dX1_record_4 : decode cX1_record 4 = .ok (.istore 5, 2) := by decide +kernel
theorem dX1_record_6 : decode cX1_record 6 = .ok (.sipush 300, 3) := by decide +kernel
theorem dX1_record_9 : decode cX1_record 9 = .ok (.iload 5, 2) := by decide +kernel
theorem dX1_record_11 : decode cX1_record 11 = .ok (.iload_n 2, 1) := by decide +kernel
theorem dX1_record_12 : decode cX1_record 12 = .ok (.iadd, 1) := by decide +kernel
theorem dX1_record_13 : decode cX1_record 13 = .ok (.invokestatic 66, 3) := by decide +kernel
theorem dX1_record_16 : decode cX1_record 16 = .ok (.istore 6, 2) := by decide +kernel
theorem dX1_record_18 : decode cX1_record 18 = .ok (.iload 5, 2) := by decide +kernel
theorem dX1_record_20 : decode cX1_record 20 = .ok (.istore 7, 2) := by decide +kernel
theorem dX1_record_22 : decode cX1_record 22 = .ok (.iload 7, 2) := by decide +kernel
theorem dX1_record_24 : decode cX1_record 24 = .ok (.iload 6, 2) := by decide +kernel
theorem dX1_record_26 : decode cX1_record 26 = .ok (.if_icmp .ge 73, 3) := by decide +kernel
theorem dX1_record_29 : decode cX1_record 29 = .ok (.aload_n 1, 1) := by decide +kernel
theorem dX1_record_30 : decode cX1_record 30 = .ok (.iload 7, 2) := by decide +kernel
theorem dX1_record_32 : decode cX1_record 32 = .ok (.invokevirtual 79, 3) := by decide +kernel
theorem dX1_record_35 : decode cX1_record 35 = .ok (.ifCond .eq 7, 3) := by decide +kernel
theorem dX1_record_38 : decode cX1_record 38 = .ok (.iconst 0, 1) := by decide +kernel
theorem dX1_record_39 : decode cX1_record 39 = .ok (.goto 4, 3) := by decide +kernel
theorem dX1_record_42 : decode cX1_record 42 = .ok (.iconst 2, 1) := by decide +kernel
theorem dX1_record_43 : decode cX1_record 43 = .ok (.istore 8, 2) := by decide +kernel
theorem dX1_record_45 : decode cX1_record 45 = .ok (.aload_n 0, 1) := by decide +kernel
theorem dX1_record_46 : decode cX1_record 46 = .ok (.aload_n 1, 1) := by decide +kernel
theorem dX1_record_47 : decode cX1_record 47 = .ok (.iload 7, 2) := by decide +kernel
theorem dX1_record_49 : decode cX1_record 49 = .ok (.aload_n 3, 1) := by decide +kernel
theorem dX1_record_50 : decode cX1_record 50 = .ok (.aload 4, 2) := by decide +kernel
theorem dX1_record_52 : decode cX1_record 52 = .ok (.invokevirtual 83, 3) := by decide +kernel
theorem dX1_record_55 : decode cX1_record 55 = .ok (.aload_n 1, 1) := by decide +kernel
theorem dX1_record_56 : decode cX1_record 56 = .ok (.getfield 86, 3) := by decide +kernel
theorem dX1_record_59 : decode cX1_record 59 = .ok (.iconst 0, 1) := by decide +kernel
theorem dX1_record_60 : decode cX1_record 60 = .ok (.aaload, 1) := by decide +kernel
theorem dX1_record_61 : decode cX1_record 61 = .ok (.iload 7, 2) := by decide +kernel
theorem dX1_record_63 : decode cX1_record 63 = .ok (.aload_n 0, 1) := by decide +kernel
theorem dX1_record_64 : decode cX1_record 64 = .ok (.getfield 33, 3) := by decide +kernel
theorem dX1_record_67 : decode cX1_record 67 = .ok (.iastore, 1) := by decide +kernel
theorem dX1_record_68 : decode cX1_record 68 = .ok (.aload_n 1, 1) := by decide +kernel
theorem dX1_record_69 : decode cX1_record 69 = .ok (.getfield 86, 3) := by decide +kernel
theorem dX1_record_72 : decode cX1_record 72 = .ok (.iconst 1, 1) := by decide +kernel
theorem dX1_record_73 : decode cX1_record 73 = .ok (.aaload, 1) := by decide +kernel
theorem dX1_record_74 : decode cX1_record 74 = .ok (.iload 7, 2) := by decide +kernel
theorem dX1_record_76 : decode cX1_record 76 = .ok (.aload_n 0, 1) := by decide +kernel
theorem dX1_record_77 : decode cX1_record 77 = .ok (.getfield 27, 3) := by decide +kernel
theorem dX1_record_80 : decode cX1_record 80 = .ok (.iastore, 1) := by decide +kernel
theorem dX1_record_81 : decode cX1_record 81 = .ok (.aload_n 1, 1) := by decide +kernel
theorem dX1_record_82 : decode cX1_record 82 = .ok (.getfield 86, 3) := by decide +kernel
theorem dX1_record_85 : decode cX1_record 85 = .ok (.bipush 8, 2) := by decide +kernel
theorem dX1_record_87 : decode cX1_record 87 = .ok (.aaload, 1) := by decide +kernel
theorem dX1_record_88 : decode cX1_record 88 = .ok (.iload 7, 2) := by decide +kernel
theorem dX1_record_90 : decode cX1_record 90 = .ok (.iload 8, 2) := by decide +kernel
theorem dX1_record_92 : decode cX1_record 92 = .ok (.iastore, 1) := by decide +kernel
theorem dX1_record_93 : decode cX1_record 93 = .ok (.iinc 7 1, 3) := by decide +kernel
theorem dX1_record_96 : decode cX1_record 96 = .ok (.goto (-74), 3) := by decide +kernel
theorem dX1_record_99 : decode cX1_record 99 = .ok (.aload_n 0, 1) := by decide +kernel
theorem dX1_record_100 : decode cX1_record 100 = .ok (.aload_n 1, 1) := by decide +kernel
theorem dX1_record_101 : decode cX1_record 101 = .ok (.iload 5, 2) := by decide +kernel
theorem dX1_record_103 : decode cX1_record 103 = .ok (.aload_n 3, 1) := by decide +kernel
theorem dX1_record_104 : decode cX1_record 104 = .ok (.getfield 90, 3) := by decide +kernel
theorem dX1_record_107 : decode cX1_record 107 = .ok (.iconst 0, 1) := by decide +kernel
theorem dX1_record_108 : decode cX1_record 108 = .ok (.iaload, 1) := by decide +kernel
theorem dX1_record_109 : decode cX1_record 109 = .ok (.aload_n 3, 1) := by decide +kernel
theorem dX1_record_110 : decode cX1_record 110 = .ok (.getfield 90, 3) := by decide +kernel
theorem dX1_record_113 : decode cX1_record 113 = .ok (.iconst 1, 1) := by decide +kernel
theorem dX1_record_114 : decode cX1_record 114 = .ok (.iaload, 1) := by decide +kernel
theorem dX1_record_115 : decode cX1_record 115 = .ok (.invokevirtual 93, 3) := by decide +kernel
theorem dX1_record_118 : decode cX1_record 118 = .ok (.return_, 1) := by decide +kernel
theorem dX1_wipe_0 : decode cX1_wipe 0 = .ok (.aload_n 0, 1) := by decide +kernel
theorem dX1_wipe_1 : decode cX1_wipe 1 = .ok (.getfield 24, 3) := by decide +kernel
theorem dX1_wipe_4 : decode cX1_wipe 4 = .ok (.istore 5, 2) := by decide +kernel
theorem dX1_wipe_6 : decode cX1_wipe 6 = .ok (.sipush 300, 3) := by decide +kernel
theorem dX1_wipe_9 : decode cX1_wipe 9 = .ok (.iload 5, 2) := by decide +kernel
theorem dX1_wipe_11 : decode cX1_wipe 11 = .ok (.iload_n 2, 1) := by decide +kernel
theorem dX1_wipe_12 : decode cX1_wipe 12 = .ok (.iadd, 1) := by decide +kernel
theorem dX1_wipe_13 : decode cX1_wipe 13 = .ok (.invokestatic 66, 3) := by decide +kernel
theorem dX1_wipe_16 : decode cX1_wipe 16 = .ok (.istore 6, 2) := by decide +kernel
theorem dX1_wipe_18 : decode cX1_wipe 18 = .ok (.iload 5, 2) := by decide +kernel
theorem dX1_wipe_20 : decode cX1_wipe 20 = .ok (.istore 7, 2) := by decide +kernel
theorem dX1_wipe_22 : decode cX1_wipe 22 = .ok (.iload 7, 2) := by decide +kernel
theorem dX1_wipe_24 : decode cX1_wipe 24 = .ok (.iload 6, 2) := by decide +kernel
theorem dX1_wipe_26 : decode cX1_wipe 26 = .ok (.if_icmp .ge 50, 3) := by decide +kernel
theorem dX1_wipe_29 : decode cX1_wipe 29 = .ok (.aload_n 0, 1) := by decide +kernel
theorem dX1_wipe_30 : decode cX1_wipe 30 = .ok (.aload_n 1, 1) := by decide +kernel
theorem dX1_wipe_31 : decode cX1_wipe 31 = .ok (.iload 7, 2) := by decide +kernel
theorem dX1_wipe_33 : decode cX1_wipe 33 = .ok (.aload_n 3, 1) := by decide +kernel
theorem dX1_wipe_34 : decode cX1_wipe 34 = .ok (.aload 4, 2) := by decide +kernel
theorem dX1_wipe_36 : decode cX1_wipe 36 = .ok (.invokevirtual 83, 3) := by decide +kernel
theorem dX1_wipe_39 : decode cX1_wipe 39 = .ok (.aload_n 1, 1) := by decide +kernel
theorem dX1_wipe_40 : decode cX1_wipe 40 = .ok (.getfield 86, 3) := by decide +kernel
theorem dX1_wipe_43 : decode cX1_wipe 43 = .ok (.iconst 0, 1) := by decide +kernel
theorem dX1_wipe_44 : decode cX1_wipe 44 = .ok (.aaload, 1) := by decide +kernel
theorem dX1_wipe_45 : decode cX1_wipe 45 = .ok (.iload 7, 2) := by decide +kernel
theorem dX1_wipe_47 : decode cX1_wipe 47 = .ok (.iconst 0, 1) := by decide +kernel
theorem dX1_wipe_48 : decode cX1_wipe 48 = .ok (.iastore, 1) := by decide +kernel
theorem dX1_wipe_49 : decode cX1_wipe 49 = .ok (.aload_n 1, 1) := by decide +kernel
theorem dX1_wipe_50 : decode cX1_wipe 50 = .ok (.getfield 86, 3) := by decide +kernel
theorem dX1_wipe_53 : decode cX1_wipe 53 = .ok (.iconst 1, 1) := by decide +kernel
theorem dX1_wipe_54 : decode cX1_wipe 54 = .ok (.aaload, 1) := by decide +kernel
theorem dX1_wipe_55 : decode cX1_wipe 55 = .ok (.iload 7, 2) := by decide +kernel
theorem dX1_wipe_57 : decode cX1_wipe 57 = .ok (.iconst (-1), 1) := by decide +kernel
theorem dX1_wipe_58 : decode cX1_wipe 58 = .ok (.iastore, 1) := by decide +kernel
theorem dX1_wipe_59 : decode cX1_wipe 59 = .ok (.aload_n 1, 1) := by decide +kernel
theorem dX1_wipe_60 : decode cX1_wipe 60 = .ok (.getfield 86, 3) := by decide +kernel
theorem dX1_wipe_63 : decode cX1_wipe 63 = .ok (.bipush 8, 2) := by decide +kernel
theorem dX1_wipe_65 : decode cX1_wipe 65 = .ok (.aaload, 1) := by decide +kernel
theorem dX1_wipe_66 : decode cX1_wipe 66 = .ok (.iload 7, 2) := by decide +kernel
theorem dX1_wipe_68 : decode cX1_wipe 68 = .ok (.iconst 1, 1) := by decide +kernel
theorem dX1_wipe_69 : decode cX1_wipe 69 = .ok (.iastore, 1) := by decide +kernel
theorem dX1_wipe_70 : decode cX1_wipe 70 = .ok (.iinc 7 1, 3) := by decide +kernel
theorem dX1_wipe_73 : decode cX1_wipe 73 = .ok (.goto (-51), 3) := by decide +kernel
theorem dX1_wipe_76 : decode cX1_wipe 76 = .ok (.aload_n 0, 1) := by decide +kernel
theorem dX1_wipe_77 : decode cX1_wipe 77 = .ok (.aload_n 1, 1) := by decide +kernel
theorem dX1_wipe_78 : decode cX1_wipe 78 = .ok (.iload 5, 2) := by decide +kernel
theorem dX1_wipe_80 : decode cX1_wipe 80 = .ok (.aload_n 3, 1) := by decide +kernel
theorem dX1_wipe_81 : decode cX1_wipe 81 = .ok (.getfield 90, 3) := by decide +kernel
theorem dX1_wipe_84 : decode cX1_wipe 84 = .ok (.iconst 2, 1) := by decide +kernel
theorem dX1_wipe_85 : decode cX1_wipe 85 = .ok (.iaload, 1) := by decide +kernel
theorem dX1_wipe_86 : decode cX1_wipe 86 = .ok (.aload_n 3, 1) := by decide +kernel
theorem dX1_wipe_87 : decode cX1_wipe 87 = .ok (.getfield 90, 3) := by decide +kernel
theorem dX1_wipe_90 : decode cX1_wipe 90 = .ok (.iconst 3, 1) := by decide +kernel
theorem dX1_wipe_91 : decode cX1_wipe 91 = .ok (.iaload, 1) := by decide +kernel
theorem dX1_wipe_92 : decode cX1_wipe 92 = .ok (.invokevirtual 93, 3) := by decide +kernel
theorem dX1_wipe_95 : decode cX1_wipe 95 = .ok (.return_, 1) := by decide +kernel
theorem dX1_copy_0 : decode cX1_copy 0 = .ok (.aload_n 0, 1) := by decide +kernel
theorem dX1_copy_1 : decode cX1_copy 1 = .ok (.getfield 24, 3) := by decide +kernel
theorem dX1_copy_4 : decode cX1_copy 4 = .ok (.istore 7, 2) := by decide +kernel
theorem dX1_copy_6 : decode cX1_copy 6 = .ok (.sipush 300, 3) := by decide +kernel
theorem dX1_copy_9 : decode cX1_copy 9 = .ok (.iload 7, 2) := by decide +kernel
theorem dX1_copy_11 : decode cX1_copy 11 = .ok (.iload 4, 2) := by decide +kernel
theorem dX1_copy_13 : decode cX1_copy 13 = .ok (.iadd, 1) := by decide +kernel
theorem dX1_copy_14 : decode cX1_copy 14 = .ok (.invokestatic 66, 3) := by decide +kernel
theorem dX1_copy_17 : decode cX1_copy 17 = .ok (.istore 8, 2) := by decide +kernel
theorem dX1_copy_19 : decode cX1_copy 19 = .ok (.iload 7, 2) := by decide +kernel
theorem dX1_copy_21 : decode cX1_copy 21 = .ok (.istore 9, 2) := by decide +kernel
theorem dX1_copy_23 : decode cX1_copy 23 = .ok (.iload 9, 2) := by decide +kernel
theorem dX1_copy_25 : decode cX1_copy 25 = .ok (.iload 8, 2) := by decide +kernel
theorem dX1_copy_27 : decode cX1_copy 27 = .ok (.if_icmp .ge 40, 3) := by decide +kernel
theorem dX1_copy_30 : decode cX1_copy 30 = .ok (.aload_n 0, 1) := by decide +kernel
theorem dX1_copy_31 : decode cX1_copy 31 = .ok (.aload_n 1, 1) := by decide +kernel
theorem dX1_copy_32 : decode cX1_copy 32 = .ok (.iload 9, 2) := by decide +kernel
theorem dX1_copy_34 : decode cX1_copy 34 = .ok (.aload 5, 2) := by decide +kernel
theorem dX1_copy_36 : decode cX1_copy 36 = .ok (.aload 6, 2) := by decide +kernel
theorem dX1_copy_38 : decode cX1_copy 38 = .ok (.invokevirtual 83, 3) := by decide +kernel
theorem dX1_copy_41 : decode cX1_copy 41 = .ok (.aload_n 1, 1) := by decide +kernel
theorem dX1_copy_42 : decode cX1_copy 42 = .ok (.getfield 86, 3) := by decide +kernel
theorem dX1_copy_45 : decode cX1_copy 45 = .ok (.iload 9, 2) := by decide +kernel
theorem dX1_copy_47 : decode cX1_copy 47 = .ok (.aload_n 2, 1) := by decide +kernel
theorem dX1_copy_48 : decode cX1_copy 48 = .ok (.getfield 86, 3) := by decide +kernel
theorem dX1_copy_51 : decode cX1_copy 51 = .ok (.iload_n 3, 1) := by decide +kernel
theorem dX1_copy_52 : decode cX1_copy 52 = .ok (.iload 9, 2) := by decide +kernel
theorem dX1_copy_54 : decode cX1_copy 54 = .ok (.iadd, 1) := by decide +kernel
theorem dX1_copy_55 : decode cX1_copy 55 = .ok (.iload 7, 2) := by decide +kernel
theorem dX1_copy_57 : decode cX1_copy 57 = .ok (.isub, 1) := by decide +kernel
theorem dX1_copy_58 : decode cX1_copy 58 = .ok (.invokestatic 97, 3) := by decide +kernel
theorem dX1_copy_61 : decode cX1_copy 61 = .ok (.iinc 9 1, 3) := by decide +kernel
theorem dX1_copy_64 : decode cX1_copy 64 = .ok (.goto (-41), 3) := by decide +kernel
theorem dX1_copy_67 : decode cX1_copy 67 = .ok (.aload_n 0, 1) := by decide +kernel
theorem dX1_copy_68 : decode cX1_copy 68 = .ok (.aload_n 1, 1) := by decide +kernel
theorem dX1_copy_69 : decode cX1_copy 69 = .ok (.iload 7, 2) := by decide +kernel
theorem dX1_copy_71 : decode cX1_copy 71 = .ok (.aload 5, 2) := by decide +kernel
theorem dX1_copy_73 : decode cX1_copy 73 = .ok (.getfield 90, 3) := by decide +kernel
theorem dX1_copy_76 : decode cX1_copy 76 = .ok (.iconst 0, 1) := by decide +kernel
theorem dX1_copy_77 : decode cX1_copy 77 = .ok (.iaload, 1) := by decide +kernel
theorem dX1_copy_78 : decode cX1_copy 78 = .ok (.aload 5, 2) := by decide +kernel
theorem dX1_copy_80 : decode cX1_copy 80 = .ok (.getfield 90, 3) := by decide +kernel
theorem dX1_copy_83 : decode cX1_copy 83 = .ok (.iconst 1, 1) := by decide +kernel
theorem dX1_copy_84 : decode cX1_copy 84 = .ok (.iaload, 1) := by decide +kernel
theorem dX1_copy_85 : decode cX1_copy 85 = .ok (.invokevirtual 93, 3) := by decide +kernel
theorem dX1_copy_88 : decode cX1_copy 88 = .ok (.return_, 1) := by decide +kernel
theorem dX1_goOver_0 : decode cX1_goOver 0 = .ok (.aload_n 3, 1) := by decide +kernel
theorem dX1_goOver_1 : decode cX1_goOver 1 = .ok (.getfield 90, 3) := by decide +kernel
theorem dX1_goOver_4 : decode cX1_goOver 4 = .ok (.iconst 4, 1) := by decide +kernel
theorem dX1_goOver_5 : decode cX1_goOver 5 = .ok (.iaload, 1) := by decide +kernel
theorem dX1_goOver_6 : decode cX1_goOver 6 = .ok (.istore 5, 2) := by decide +kernel
theorem dX1_goOver_8 : decode cX1_goOver 8 = .ok (.aload_n 1, 1) := by decide +kernel
theorem dX1_goOver_9 : decode cX1_goOver 9 = .ok (.getfield 86, 3) := by decide +kernel
theorem dX1_goOver_12 : decode cX1_goOver 12 = .ok (.astore 6, 2) := by decide +kernel
theorem dX1_goOver_14 : decode cX1_goOver 14 = .ok (.aload 6, 2) := by decide +kernel
theorem dX1_goOver_16 : decode cX1_goOver 16 = .ok (.bipush 6, 2) := by decide +kernel
theorem dX1_goOver_18 : decode cX1_goOver 18 = .ok (.aaload, 1) := by decide +kernel
theorem dX1_goOver_19 : decode cX1_goOver 19 = .ok (.iload_n 2, 1) := by decide +kernel
theorem dX1_goOver_20 : decode cX1_goOver 20 = .ok (.aload 6, 2) := by decide +kernel
theorem dX1_goOver_22 : decode cX1_goOver 22 = .ok (.bipush 7, 2) := by decide +kernel
theorem dX1_goOver_24 : decode cX1_goOver 24 = .ok (.aaload, 1) := by decide +kernel
theorem dX1_goOver_25 : decode cX1_goOver 25 = .ok (.iload_n 2, 1) := by decide +kernel
theorem dX1_goOver_26 : decode cX1_goOver 26 = .ok (.iaload, 1) := by decide +kernel
theorem dX1_goOver_27 : decode cX1_goOver 27 = .ok (.iload 5, 2) := by decide +kernel
theorem dX1_goOver_29 : decode cX1_goOver 29 = .ok (.if_icmp .le 12, 3) := by decide +kernel
theorem dX1_goOver_32 : decode cX1_goOver 32 = .ok (.aload 6, 2) := by decide +kernel
theorem dX1_goOver_34 : decode cX1_goOver 34 = .ok (.iconst 0, 1) := by decide +kernel
theorem dX1_goOver_35 : decode cX1_goOver 35 = .ok (.aaload, 1) := by decide +kernel
theorem dX1_goOver_36 : decode cX1_goOver 36 = .ok (.iload_n 2, 1) := by decide +kernel
theorem dX1_goOver_37 : decode cX1_goOver 37 = .ok (.iaload, 1) := by decide +kernel
theorem dX1_goOver_38 : decode cX1_goOver 38 = .ok (.goto 4, 3) := by decide +kernel
theorem dX1_goOver_41 : decode cX1_goOver 41 = .ok (.iconst 0, 1) := by decide +kernel
theorem dX1_goOver_42 : decode cX1_goOver 42 = .ok (.iastore, 1) := by decide +kernel
theorem dX1_goOver_43 : decode cX1_goOver 43 = .ok (.aload 6, 2) := by decide +kernel
theorem dX1_goOver_45 : decode cX1_goOver 45 = .ok (.bipush 7, 2) := by decide +kernel
theorem dX1_goOver_47 : decode cX1_goOver 47 = .ok (.aaload, 1) := by decide +kernel
theorem dX1_goOver_48 : decode cX1_goOver 48 = .ok (.iload_n 2, 1) := by decide +kernel
theorem dX1_goOver_49 : decode cX1_goOver 49 = .ok (.iload 5, 2) := by decide +kernel
theorem dX1_goOver_51 : decode cX1_goOver 51 = .ok (.iastore, 1) := by decide +kernel
theorem dX1_goOver_52 : decode cX1_goOver 52 = .ok (.aload 6, 2) := by decide +kernel
theorem dX1_goOver_54 : decode cX1_goOver 54 = .ok (.iconst 2, 1) := by decide +kernel
theorem dX1_goOver_55 : decode cX1_goOver 55 = .ok (.aaload, 1) := by decide +kernel
theorem dX1_goOver_56 : decode cX1_goOver 56 = .ok (.iload_n 2, 1) := by decide +kernel
theorem dX1_goOver_57 : decode cX1_goOver 57 = .ok (.aload_n 3, 1) := by decide +kernel
theorem dX1_goOver_58 : decode cX1_goOver 58 = .ok (.aload 4, 2) := by decide +kernel
theorem dX1_goOver_60 : decode cX1_goOver 60 = .ok (.aload_n 0, 1) := by decide +kernel
theorem dX1_goOver_61 : decode cX1_goOver 61 = .ok (.getfield 30, 3) := by decide +kernel
theorem dX1_goOver_64 : decode cX1_goOver 64 = .ok (.invokevirtual 101, 3) := by decide +kernel
theorem dX1_goOver_67 : decode cX1_goOver 67 = .ok (.invokevirtual 107, 3) := by decide +kernel
theorem dX1_goOver_70 : decode cX1_goOver 70 = .ok (.iastore, 1) := by decide +kernel
theorem dX1_goOver_71 : decode cX1_goOver 71 = .ok (.aload 6, 2) := by decide +kernel
theorem dX1_goOver_73 : decode cX1_goOver 73 = .ok (.iconst 3, 1) := by decide +kernel
theorem dX1_goOver_74 : decode cX1_goOver 74 = .ok (.aaload, 1) := by decide +kernel
theorem dX1_goOver_75 : decode cX1_goOver 75 = .ok (.iload_n 2, 1) := by decide +kernel
theorem dX1_goOver_76 : decode cX1_goOver 76 = .ok (.iconst (-1), 1) := by decide +kernel
theorem dX1_goOver_77 : decode cX1_goOver 77 = .ok (.iastore, 1) := by decide +kernel
theorem dX1_goOver_78 : decode cX1_goOver 78 = .ok (.aload 6, 2) := by decide +kernel
theorem dX1_goOver_80 : decode cX1_goOver 80 = .ok (.iconst 4, 1) := by decide +kernel
theorem dX1_goOver_81 : decode cX1_goOver 81 = .ok (.aaload, 1) := by decide +kernel
theorem dX1_goOver_82 : decode cX1_goOver 82 = .ok (.iload_n 2, 1) := by decide +kernel
theorem dX1_goOver_83 : decode cX1_goOver 83 = .ok (.aload_n 3, 1) := by decide +kernel
theorem dX1_goOver_84 : decode cX1_goOver 84 = .ok (.getfield 90, 3) := by decide +kernel
theorem dX1_goOver_87 : decode cX1_goOver 87 = .ok (.iconst 5, 1) := by decide +kernel
theorem dX1_goOver_88 : decode cX1_goOver 88 = .ok (.iaload, 1) := by decide +kernel
theorem dX1_goOver_89 : decode cX1_goOver 89 = .ok (.iastore, 1) := by decide +kernel
theorem dX1_goOver_90 : decode cX1_goOver 90 = .ok (.aload 6, 2) := by decide +kernel
theorem dX1_goOver_92 : decode cX1_goOver 92 = .ok (.iconst 5, 1) := by decide +kernel
theorem dX1_goOver_93 : decode cX1_goOver 93 = .ok (.aaload, 1) := by decide +kernel
theorem dX1_goOver_94 : decode cX1_goOver 94 = .ok (.iload_n 2, 1) := by decide +kernel
theorem dX1_goOver_95 : decode cX1_goOver 95 = .ok (.iconst 0, 1) := by decide +kernel
theorem dX1_goOver_96 : decode cX1_goOver 96 = .ok (.iastore, 1) := by decide +kernel
theorem dX1_goOver_97 : decode cX1_goOver 97 = .ok (.aload 6, 2) := by decide +kernel
theorem dX1_goOver_99 : decode cX1_goOver 99 = .ok (.bipush 9, 2) := by decide +kernel
theorem dX1_goOver_101 : decode cX1_goOver 101 = .ok (.aaload, 1) := by decide +kernel
theorem dX1_goOver_102 : decode cX1_goOver 102 = .ok (.iload_n 2, 1) := by decide +kernel
theorem dX1_goOver_103 : decode cX1_goOver 103 = .ok (.iconst 0, 1) := by decide +kernel
theorem dX1_goOver_104 : decode cX1_goOver 104 = .ok (.iastore, 1) := by decide +kernel
theorem dX1_goOver_105 : decode cX1_goOver 105 = .ok (.aload_n 0, 1) := by decide +kernel
theorem dX1_goOver_106 : decode cX1_goOver 106 = .ok (.dup, 1) := by decide +kernel
theorem dX1_goOver_107 : decode cX1_goOver 107 = .ok (.getfield 30, 3) := by decide +kernel
theorem dX1_goOver_110 : decode cX1_goOver 110 = .ok (.iconst 1, 1) := by decide +kernel
theorem dX1_goOver_111 : decode cX1_goOver 111 = .ok (.iadd, 1) := by decide +kernel
theorem dX1_goOver_112 : decode cX1_goOver 112 = .ok (.putfield 30, 3) := by decide +kernel
theorem dX1_goOver_115 : decode cX1_goOver 115 = .ok (.aload_n 0, 1) := by decide +kernel
theorem dX1_goOver_116 : decode cX1_goOver 116 = .ok (.iload_n 2, 1) := by decide +kernel
theorem dX1_goOver_117 : decode cX1_goOver 117 = .ok (.iconst 1, 1) := by decide +kernel
theorem dX1_goOver_118 : decode cX1_goOver 118 = .ok (.iadd, 1) := by decide +kernel
theorem dX1_goOver_119 : decode cX1_goOver 119 = .ok (.putfield 24, 3) := by decide +kernel
theorem dX1_goOver_122 : decode cX1_goOver 122 = .ok (.return_, 1) := by decide +kernel
theorem dX1_takeOver_0 : decode cX1_takeOver 0 = .ok (.aload_n 0, 1) := by decide +kernel
theorem dX1_takeOver_1 : decode cX1_takeOver 1 = .ok (.iconst 0, 1) := by decide +kernel
theorem dX1_takeOver_2 : decode cX1_takeOver 2 = .ok (.aaload, 1) := by decide +kernel
theorem dX1_takeOver_3 : decode cX1_takeOver 3 = .ok (.iload_n 1, 1) := by decide +kernel
theorem dX1_takeOver_4 : decode cX1_takeOver 4 = .ok (.aload_n 2, 1) := by decide +kernel
theorem dX1_takeOver_5 : decode cX1_takeOver 5 = .ok (.iconst 0, 1) := by decide +kernel
theorem dX1_takeOver_6 : decode cX1_takeOver 6 = .ok (.aaload, 1) := by decide +kernel
theorem dX1_takeOver_7 : decode cX1_takeOver 7 = .ok (.iload_n 3, 1) := by decide +kernel
theorem dX1_takeOver_8 : decode cX1_takeOver 8 = .ok (.iaload, 1) := by decide +kernel
theorem dX1_takeOver_9 : decode cX1_takeOver 9 = .ok (.iastore, 1) := by decide +kernel
theorem dX1_takeOver_10 : decode cX1_takeOver 10 = .ok (.aload_n 0, 1) := by decide +kernel
theorem dX1_takeOver_11 : decode cX1_takeOver 11 = .ok (.iconst 1, 1) := by decide +kernel
theorem dX1_takeOver_12 : decode cX1_takeOver 12 = .ok (.aaload, 1) := by decide +kernel
theorem dX1_takeOver_13 : decode cX1_takeOver 13 = .ok (.iload_n 1, 1) := by decide +kernel
theorem dX1_takeOver_14 : decode cX1_takeOver 14 = .ok (.aload_n 2, 1) := by decide +kernel
theorem dX1_takeOver_15 : decode cX1_takeOver 15 = .ok (.iconst 1, 1) := by decide +kernel
theorem dX1_takeOver_16 : decode cX1_takeOver 16 = .ok (.aaload, 1) := by decide +kernel
theorem dX1_takeOver_17 : decode cX1_takeOver 17 = .ok (.iload_n 3, 1) := by decide +kernel
theorem dX1_takeOver_18 : decode cX1_takeOver 18 = .ok (.iaload, 1) := by decide +kernel
theorem dX1_takeOver_19 : decode cX1_takeOver 19 = .ok (.iastore, 1) := by decide +kernel
theorem dX1_takeOver_20 : decode cX1_takeOver 20 = .ok (.aload_n 2, 1) := by decide +kernel
theorem dX1_takeOver_21 : decode cX1_takeOver 21 = .ok (.iconst 2, 1) := by decide +kernel
theorem dX1_takeOver_22 : decode cX1_takeOver 22 = .ok (.aaload, 1) := by decide +kernel
theorem dX1_takeOver_23 : decode cX1_takeOver 23 = .ok (.iload_n 3, 1) := by decide +kernel
theorem dX1_takeOver_24 : decode cX1_takeOver 24 = .ok (.iaload, 1) := by decide +kernel
theorem dX1_takeOver_25 : decode cX1_takeOver 25 = .ok (.iconst (-1), 1) := by decide +kernel
theorem dX1_takeOver_26 : decode cX1_takeOver 26 = .ok (.if_icmp .eq 23, 3) := by decide +kernel
theorem dX1_takeOver_29 : decode cX1_takeOver 29 = .ok (.aload_n 0, 1) := by decide +kernel
theorem dX1_takeOver_30 : decode cX1_takeOver 30 = .ok (.iconst 3, 1) := by decide +kernel
theorem dX1_takeOver_31 : decode cX1_takeOver 31 = .ok (.aaload, 1) := by decide +kernel
theorem dX1_takeOver_32 : decode cX1_takeOver 32 = .ok (.iload_n 1, 1) := by decide +kernel
theorem dX1_takeOver_33 : decode cX1_takeOver 33 = .ok (.aload_n 0, 1) := by decide +kernel
theorem dX1_takeOver_34 : decode cX1_takeOver 34 = .ok (.iconst 2, 1) := by decide +kernel
theorem dX1_takeOver_35 : decode cX1_takeOver 35 = .ok (.aaload, 1) := by decide +kernel
theorem dX1_takeOver_36 : decode cX1_takeOver 36 = .ok (.iload_n 1, 1) := by decide +kernel
theorem dX1_takeOver_37 : decode cX1_takeOver 37 = .ok (.iaload, 1) := by decide +kernel
theorem dX1_takeOver_38 : decode cX1_takeOver 38 = .ok (.iastore, 1) := by decide +kernel
theorem dX1_takeOver_39 : decode cX1_takeOver 39 = .ok (.aload_n 0, 1) := by decide +kernel
theorem dX1_takeOver_40 : decode cX1_takeOver 40 = .ok (.iconst 2, 1) := by decide +kernel
theorem dX1_takeOver_41 : decode cX1_takeOver 41 = .ok (.aaload, 1) := by decide +kernel
theorem dX1_takeOver_42 : decode cX1_takeOver 42 = .ok (.iload_n 1, 1) := by decide +kernel
theorem dX1_takeOver_43 : decode cX1_takeOver 43 = .ok (.aload_n 2, 1) := by decide +kernel
theorem dX1_takeOver_44 : decode cX1_takeOver 44 = .ok (.iconst 2, 1) := by decide +kernel
theorem dX1_takeOver_45 : decode cX1_takeOver 45 = .ok (.aaload, 1) := by decide +kernel
theorem dX1_takeOver_46 : decode cX1_takeOver 46 = .ok (.iload_n 3, 1) := by decide +kernel
theorem dX1_takeOver_47 : decode cX1_takeOver 47 = .ok (.iaload, 1) := by decide +kernel
theorem dX1_takeOver_48 : decode cX1_takeOver 48 = .ok (.iastore, 1) := by decide +kernel
theorem dX1_takeOver_49 : decode cX1_takeOver 49 = .ok (.aload_n 0, 1) := by decide +kernel
theorem dX1_takeOver_50 : decode cX1_takeOver 50 = .ok (.iconst 4, 1) := by decide +kernel
theorem dX1_takeOver_51 : decode cX1_takeOver 51 = .ok (.aaload, 1) := by decide +kernel
theorem dX1_takeOver_52 : decode cX1_takeOver 52 = .ok (.iload_n 1, 1) := by decide +kernel
theorem dX1_takeOver_53 : decode cX1_takeOver 53 = .ok (.bipush 99, 2) := by decide +kernel
theorem dX1_takeOver_55 : decode cX1_takeOver 55 = .ok (.aload_n 0, 1) := by decide +kernel
theorem dX1_takeOver_56 : decode cX1_takeOver 56 = .ok (.iconst 4, 1) := by decide +kernel
theorem dX1_takeOver_57 : decode cX1_takeOver 57 = .ok (.aaload, 1) := by decide +kernel
theorem dX1_takeOver_58 : decode cX1_takeOver 58 = .ok (.iload_n 1, 1) := by decide +kernel
theorem dX1_takeOver_59 : decode cX1_takeOver 59 = .ok (.iaload, 1) := by decide +kernel
theorem dX1_takeOver_60 : decode cX1_takeOver 60 = .ok (.aload_n 2, 1) := by decide +kernel
theorem dX1_takeOver_61 : decode cX1_takeOver 61 = .ok (.iconst 4, 1) := by decide +kernel
theorem dX1_takeOver_62 : decode cX1_takeOver 62 = .ok (.aaload, 1) := by decide +kernel
theorem dX1_takeOver_63 : decode cX1_takeOver 63 = .ok (.iload_n 3, 1) := by decide +kernel
theorem dX1_takeOver_64 : decode cX1_takeOver 64 = .ok (.iaload, 1) := by decide +kernel
theorem dX1_takeOver_65 : decode cX1_takeOver 65 = .ok (.iadd, 1) := by decide +kernel
theorem dX1_takeOver_66 : decode cX1_takeOver 66 = .ok (.invokestatic 66, 3) := by decide +kernel
theorem dX1_takeOver_69 : decode cX1_takeOver 69 = .ok (.iastore, 1) := by decide +kernel
theorem dX1_takeOver_70 : decode cX1_takeOver 70 = .ok (.aload_n 0, 1) := by decide +kernel
theorem dX1_takeOver_71 : decode cX1_takeOver 71 = .ok (.bipush 8, 2) := by decide +kernel
theorem dX1_takeOver_73 : decode cX1_takeOver 73 = .ok (.aaload, 1) := by decide +kernel
theorem dX1_takeOver_74 : decode cX1_takeOver 74 = .ok (.iload_n 1, 1) := by decide +kernel
theorem dX1_takeOver_75 : decode cX1_takeOver 75 = .ok (.iconst 3, 1) := by decide +kernel
theorem dX1_takeOver_76 : decode cX1_takeOver 76 = .ok (.iastore, 1) := by decide +kernel
theorem dX1_takeOver_77 : decode cX1_takeOver 77 = .ok (.return_, 1) := by decide +kernel
theorem dX1_leaveMarks_0 : decode cX1_leaveMarks 0 = .ok (.iload_n 2, 1) := by decide +kernel
theorem dX1_leaveMarks_1 : decode cX1_leaveMarks 1 = .ok (.aload_n 0, 1) := by decide +kernel
theorem dX1_leaveMarks_2 : decode cX1_leaveMarks 2 = .ok (.getfield 24, 3) := by decide +kernel
theorem dX1_leaveMarks_5 : decode cX1_leaveMarks 5 = .ok (.if_icmp .ge 27, 3) := by decide +kernel
theorem dX1_leaveMarks_8 : decode cX1_leaveMarks 8 = .ok (.aload_n 1, 1) := by decide +kernel
theorem dX1_leaveMarks_9 : decode cX1_leaveMarks 9 = .ok (.getfield 86, 3) := by decide +kernel
theorem dX1_leaveMarks_12 : decode cX1_leaveMarks 12 = .ok (.iconst 5, 1) := by decide +kernel
theorem dX1_leaveMarks_13 : decode cX1_leaveMarks 13 = .ok (.aaload, 1) := by decide +kernel
theorem dX1_leaveMarks_14 : decode cX1_leaveMarks 14 = .ok (.iload_n 2, 1) := by decide +kernel
theorem dX1_leaveMarks_15 : decode cX1_leaveMarks 15 = .ok (.iload_n 3, 1) := by decide +kernel
theorem dX1_leaveMarks_16 : decode cX1_leaveMarks 16 = .ok (.iastore, 1) := by decide +kernel
theorem dX1_leaveMarks_17 : decode cX1_leaveMarks 17 = .ok (.aload_n 1, 1) := by decide +kernel
theorem dX1_leaveMarks_18 : decode cX1_leaveMarks 18 = .ok (.getfield 86, 3) := by decide +kernel
theorem dX1_leaveMarks_21 : decode cX1_leaveMarks 21 = .ok (.iconst 5, 1) := by decide +kernel
theorem dX1_leaveMarks_22 : decode cX1_leaveMarks 22 = .ok (.aaload, 1) := by decide +kernel
theorem dX1_leaveMarks_23 : decode cX1_leaveMarks 23 = .ok (.aload_n 0, 1) := by decide +kernel
theorem dX1_leaveMarks_24 : decode cX1_leaveMarks 24 = .ok (.getfield 24, 3) := by decide +kernel
theorem dX1_leaveMarks_27 : decode cX1_leaveMarks 27 = .ok (.iconst 1, 1) := by decide +kernel
theorem dX1_leaveMarks_28 : decode cX1_leaveMarks 28 = .ok (.isub, 1) := by decide +kernel
theorem dX1_leaveMarks_29 : decode cX1_leaveMarks 29 = .ok (.iload 4, 2) := by decide +kernel
theorem dX1_leaveMarks_31 : decode cX1_leaveMarks 31 = .ok (.iastore, 1) := by decide +kernel
theorem dX1_leaveMarks_32 : decode cX1_leaveMarks 32 = .ok (.return_, 1) := by decide +kernel
theorem dX2_init_0 : decode cX2_init 0 = .ok (.aload_n 0, 1) := by decide +kernel
theorem dX2_init_1 : decode cX2_init 1 = .ok (.invokespecial 3, 3) := by decide +kernel
theorem dX2_init_4 : decode cX2_init 4 = .ok (.aload_n 0, 1) := by decide +kernel
theorem dX2_init_5 : decode cX2_init 5 = .ok (.sipush 2000, 3) := by decide +kernel
theorem dX2_init_8 : decode cX2_init 8 = .ok (.newarray .int, 2) := by decide +kernel
theorem dX2_init_10 : decode cX2_init 10 = .ok (.putfield 9, 3) := by decide +kernel
theorem dX2_init_13 : decode cX2_init 13 = .ok (.return_, 1) := by decide +kernel
theorem dX2_add_0 : decode cX2_add 0 = .ok (.aload_n 0, 1) := by decide +kernel
theorem dX2_add_1 : decode cX2_add 1 = .ok (.getfield 15, 3) := by decide +kernel
theorem dX2_add_4 : decode cX2_add 4 = .ok (.sipush 2000, 3) := by decide +kernel
theorem dX2_add_7 : decode cX2_add 7 = .ok (.if_icmp .ge 23, 3) := by decide +kernel
theorem dX2_add_10 : decode cX2_add 10 = .ok (.aload_n 0, 1) := by decide +kernel
theorem dX2_add_11 : decode cX2_add 11 = .ok (.getfield 9, 3) := by decide +kernel
theorem dX2_add_14 : decode cX2_add 14 = .ok (.aload_n 0, 1) := by decide +kernel
theorem dX2_add_15 : decode cX2_add 15 = .ok (.getfield 15, 3) := by decide +kernel
theorem dX2_add_18 : decode cX2_add 18 = .ok (.iload_n 1, 1) := by decide +kernel
theorem dX2_add_19 : decode cX2_add 19 = .ok (.iastore, 1) := by decide +kernel
theorem dX2_add_20 : decode cX2_add 20 = .ok (.aload_n 0, 1) := by decide +kernel
theorem dX2_add_21 : decode cX2_add 21 = .ok (.dup, 1) := by decide +kernel
theorem dX2_add_22 : decode cX2_add 22 = .ok (.getfield 15, 3) := by decide +kernel
theorem dX2_add_25 : decode cX2_add 25 = .ok (.iconst 1, 1) := by decide +kernel
theorem dX2_add_26 : decode cX2_add 26 = .ok (.iadd, 1) := by decide +kernel
theorem dX2_add_27 : decode cX2_add 27 = .ok (.putfield 15, 3) := by decide +kernel
theorem dX2_add_30 : decode cX2_add 30 = .ok (.return_, 1) := by decide +kernel
theorem dX2_addDrawn_0 : decode cX2_addDrawn 0 = .ok (.aload_n 0, 1) := by decide +kernel
theorem dX2_addDrawn_1 : decode cX2_addDrawn 1 = .ok (.getfield 15, 3) := by decide +kernel
theorem dX2_addDrawn_4 : decode cX2_addDrawn 4 = .ok (.ifCond .le 17, 3) := by decide +kernel
theorem dX2_addDrawn_7 : decode cX2_addDrawn 7 = .ok (.aload_n 0, 1) := by decide +kernel
theorem dX2_addDrawn_8 : decode cX2_addDrawn 8 = .ok (.getfield 9, 3) := by decide +kernel
theorem dX2_addDrawn_11 : decode cX2_addDrawn 11 = .ok (.aload_n 0, 1) := by decide +kernel
theorem dX2_addDrawn_12 : decode cX2_addDrawn 12 = .ok (.getfield 15, 3) := by decide +kernel
theorem dX2_addDrawn_15 : decode cX2_addDrawn 15 = .ok (.iconst 1, 1) := by decide +kernel
theorem dX2_addDrawn_16 : decode cX2_addDrawn 16 = .ok (.isub, 1) := by decide +kernel
theorem dX2_addDrawn_17 : decode cX2_addDrawn 17 = .ok (.iaload, 1) := by decide +kernel
theorem dX2_addDrawn_18 : decode cX2_addDrawn 18 = .ok (.goto 5, 3) := by decide +kernel
theorem dX2_addDrawn_21 : decode cX2_addDrawn 21 = .ok (.bipush 32, 2) := by decide +kernel
theorem dX2_addDrawn_23 : decode cX2_addDrawn 23 = .ok (.istore_n 1, 1) := by decide +kernel
theorem dX2_addDrawn_24 : decode cX2_addDrawn 24 = .ok (.aload_n 0, 1) := by decide +kernel
theorem dX2_addDrawn_25 : decode cX2_addDrawn 25 = .ok (.ldc 19, 2) := by decide +kernel
theorem dX2_addDrawn_27 : decode cX2_addDrawn 27 = .ok (.aload_n 0, 1) := by decide +kernel
theorem dX2_addDrawn_28 : decode cX2_addDrawn 28 = .ok (.getfield 20, 3) := by decide +kernel
theorem dX2_addDrawn_31 : decode cX2_addDrawn 31 = .ok (.imul, 1) := by decide +kernel
theorem dX2_addDrawn_32 : decode cX2_addDrawn 32 = .ok (.ldc 23, 2) := by decide +kernel
theorem dX2_addDrawn_34 : decode cX2_addDrawn 34 = .ok (.iadd, 1) := by decide +kernel
theorem dX2_addDrawn_35 : decode cX2_addDrawn 35 = .ok (.putfield 20, 3) := by decide +kernel
theorem dX2_addDrawn_38 : decode cX2_addDrawn 38 = .ok (.iload_n 1, 1) := by decide +kernel
theorem dX2_addDrawn_39 : decode cX2_addDrawn 39 = .ok (.aload_n 0, 1) := by decide +kernel
theorem dX2_addDrawn_40 : decode cX2_addDrawn 40 = .ok (.getfield 20, 3) := by decide +kernel
theorem dX2_addDrawn_43 : decode cX2_addDrawn 43 = .ok (.bipush 8, 2) := by decide +kernel
theorem dX2_addDrawn_45 : decode cX2_addDrawn 45 = .ok (.iushr, 1) := by decide +kernel
theorem dX2_addDrawn_46 : decode cX2_addDrawn 46 = .ok (.iconst 3, 1) := by decide +kernel
theorem dX2_addDrawn_47 : decode cX2_addDrawn 47 = .ok (.irem, 1) := by decide +kernel
theorem dX2_addDrawn_48 : decode cX2_addDrawn 48 = .ok (.iadd, 1) := by decide +kernel
theorem dX2_addDrawn_49 : decode cX2_addDrawn 49 = .ok (.iconst 1, 1) := by decide +kernel
theorem dX2_addDrawn_50 : decode cX2_addDrawn 50 = .ok (.isub, 1) := by decide +kernel
theorem dX2_addDrawn_51 : decode cX2_addDrawn 51 = .ok (.istore_n 2, 1) := by decide +kernel
theorem dX2_addDrawn_52 : decode cX2_addDrawn 52 = .ok (.aload_n 0, 1) := by decide +kernel
theorem dX2_addDrawn_53 : decode cX2_addDrawn 53 = .ok (.iconst 0, 1) := by decide +kernel
theorem dX2_addDrawn_54 : decode cX2_addDrawn 54 = .ok (.bipush 63, 2) := by decide +kernel
theorem dX2_addDrawn_56 : decode cX2_addDrawn 56 = .ok (.iload_n 2, 1) := by decide +kernel
theorem dX2_addDrawn_57 : decode cX2_addDrawn 57 = .ok (.invokestatic 24, 3) := by decide +kernel
theorem dX2_addDrawn_60 : decode cX2_addDrawn 60 = .ok (.invokestatic 30, 3) := by decide +kernel
theorem dX2_addDrawn_63 : decode cX2_addDrawn 63 = .ok (.invokevirtual 33, 3) := by decide +kernel
theorem dX2_addDrawn_66 : decode cX2_addDrawn 66 = .ok (.return_, 1) := by decide +kernel
theorem dX2_beatOf_0 : decode cX2_beatOf 0 = .ok (.iload_n 1, 1) := by decide +kernel
theorem dX2_beatOf_1 : decode cX2_beatOf 1 = .ok (.ifCond .lt 20, 3) := by decide +kernel
theorem dX2_beatOf_4 : decode cX2_beatOf 4 = .ok (.iload_n 1, 1) := by decide +kernel
theorem dX2_beatOf_5 : decode cX2_beatOf 5 = .ok (.aload_n 0, 1) := by decide +kernel
theorem dX2_beatOf_6 : decode cX2_beatOf 6 = .ok (.getfield 15, 3) := by decide +kernel
theorem dX2_beatOf_9 : decode cX2_beatOf 9 = .ok (.if_icmp .ge 12, 3) := by decide +kernel
theorem dX2_beatOf_12 : decode cX2_beatOf 12 = .ok (.aload_n 0, 1) := by decide +kernel
theorem dX2_beatOf_13 : decode cX2_beatOf 13 = .ok (.getfield 9, 3) := by decide +kernel
theorem dX2_beatOf_16 : decode cX2_beatOf 16 = .ok (.iload_n 1, 1) := by decide +kernel
theorem dX2_beatOf_17 : decode cX2_beatOf 17 = .ok (.iaload, 1) := by decide +kernel
theorem dX2_beatOf_18 : decode cX2_beatOf 18 = .ok (.goto 4, 3) := by decide +kernel
theorem dX2_beatOf_21 : decode cX2_beatOf 21 = .ok (.iconst (-1), 1) := by decide +kernel
theorem dX2_beatOf_22 : decode cX2_beatOf 22 = .ok (.ireturn, 1) := by decide +kernel
theorem dX2_offFrom_0 : decode cX2_offFrom 0 = .ok (.iconst 0, 1) := by decide +kernel
theorem dX2_offFrom_1 : decode cX2_offFrom 1 = .ok (.istore 6, 2) := by decide +kernel
theorem dX2_offFrom_3 : decode cX2_offFrom 3 = .ok (.iload_n 3, 1) := by decide +kernel
theorem dX2_offFrom_4 : decode cX2_offFrom 4 = .ok (.istore 7, 2) := by decide +kernel
theorem dX2_offFrom_6 : decode cX2_offFrom 6 = .ok (.iload 7, 2) := by decide +kernel
theorem dX2_offFrom_8 : decode cX2_offFrom 8 = .ok (.iload 4, 2) := by decide +kernel
theorem dX2_offFrom_10 : decode cX2_offFrom 10 = .ok (.if_icmp .gt 46, 3) := by decide +kernel
theorem dX2_offFrom_13 : decode cX2_offFrom 13 = .ok (.aload_n 2, 1) := by decide +kernel
theorem dX2_offFrom_14 : decode cX2_offFrom 14 = .ok (.iload 7, 2) := by decide +kernel
theorem dX2_offFrom_16 : decode cX2_offFrom 16 = .ok (.iaload, 1) := by decide +kernel
theorem dX2_offFrom_17 : decode cX2_offFrom 17 = .ok (.iconst (-1), 1) := by decide +kernel
theorem dX2_offFrom_18 : decode cX2_offFrom 18 = .ok (.if_icmp .eq 32, 3) := by decide +kernel
theorem dX2_offFrom_21 : decode cX2_offFrom 21 = .ok (.iload 6, 2) := by decide +kernel
theorem dX2_offFrom_23 : decode cX2_offFrom 23 = .ok (.aload_n 2, 1) := by decide +kernel
theorem dX2_offFrom_24 : decode cX2_offFrom 24 = .ok (.iload 7, 2) := by decide +kernel
theorem dX2_offFrom_26 : decode cX2_offFrom 26 = .ok (.iaload, 1) := by decide +kernel
theorem dX2_offFrom_27 : decode cX2_offFrom 27 = .ok (.iload 5, 2) := by decide +kernel
theorem dX2_offFrom_29 : decode cX2_offFrom 29 = .ok (.imul, 1) := by decide +kernel
theorem dX2_offFrom_30 : decode cX2_offFrom 30 = .ok (.bipush 100, 2) := by decide +kernel
theorem dX2_offFrom_32 : decode cX2_offFrom 32 = .ok (.idiv, 1) := by decide +kernel
theorem dX2_offFrom_33 : decode cX2_offFrom 33 = .ok (.aload_n 0, 1) := by decide +kernel
theorem dX2_offFrom_34 : decode cX2_offFrom 34 = .ok (.iload_n 1, 1) := by decide +kernel
theorem dX2_offFrom_35 : decode cX2_offFrom 35 = .ok (.iload 7, 2) := by decide +kernel
theorem dX2_offFrom_37 : decode cX2_offFrom 37 = .ok (.iadd, 1) := by decide +kernel
theorem dX2_offFrom_38 : decode cX2_offFrom 38 = .ok (.iload_n 3, 1) := by decide +kernel
theorem dX2_offFrom_39 : decode cX2_offFrom 39 = .ok (.isub, 1) := by decide +kernel
theorem dX2_offFrom_40 : decode cX2_offFrom 40 = .ok (.invokevirtual 37, 3) := by decide +kernel
theorem dX2_offFrom_43 : decode cX2_offFrom 43 = .ok (.isub, 1) := by decide +kernel
theorem dX2_offFrom_44 : decode cX2_offFrom 44 = .ok (.invokestatic 41, 3) := by decide +kernel
theorem dX2_offFrom_47 : decode cX2_offFrom 47 = .ok (.iadd, 1) := by decide +kernel
theorem dX2_offFrom_48 : decode cX2_offFrom 48 = .ok (.istore 6, 2) := by decide +kernel
theorem dX2_offFrom_50 : decode cX2_offFrom 50 = .ok (.iinc 7 1, 3) := by decide +kernel
theorem dX2_offFrom_53 : decode cX2_offFrom 53 = .ok (.goto (-47), 3) := by decide +kernel
theorem dX2_offFrom_56 : decode cX2_offFrom 56 = .ok (.iload 6, 2) := by decide +kernel
theorem dX2_offFrom_58 : decode cX2_offFrom 58 = .ok (.ireturn, 1) := by decide +kernel
theorem dX3_init_0 : decode cX3_init 0 = .ok (.aload_n 0, 1) := by decide +kernel
theorem dX3_init_1 : decode cX3_init 1 = .ok (.invokespecial 3, 3) := by decide +kernel
theorem dX3_init_4 : decode cX3_init 4 = .ok (.aload_n 0, 1) := by decide +kernel
theorem dX3_init_5 : decode cX3_init 5 = .ok (.getstatic 9, 3) := by decide +kernel
theorem dX3_init_8 : decode cX3_init 8 = .ok (.invokevirtual 13, 3) := by decide +kernel
theorem dX3_init_11 : decode cX3_init 11 = .ok (.checkcast 14, 3) := by decide +kernel
theorem dX3_init_14 : decode cX3_init 14 = .ok (.putfield 18, 3) := by decide +kernel
theorem dX3_init_17 : decode cX3_init 17 = .ok (.return_, 1) := by decide +kernel
theorem dX3_forget_0 : decode cX3_forget 0 = .ok (.getstatic 9, 3) := by decide +kernel
theorem dX3_forget_3 : decode cX3_forget 3 = .ok (.iconst 0, 1) := by decide +kernel
theorem dX3_forget_4 : decode cX3_forget 4 = .ok (.aload_n 0, 1) := by decide +kernel
theorem dX3_forget_5 : decode cX3_forget 5 = .ok (.getfield 18, 3) := by decide +kernel
theorem dX3_forget_8 : decode cX3_forget 8 = .ok (.iconst 0, 1) := by decide +kernel
theorem dX3_forget_9 : decode cX3_forget 9 = .ok (.bipush 8, 2) := by decide +kernel
theorem dX3_forget_11 : decode cX3_forget 11 = .ok (.invokestatic 23, 3) := by decide +kernel
theorem dX3_forget_14 : decode cX3_forget 14 = .ok (.aload_n 0, 1) := by decide +kernel
theorem dX3_forget_15 : decode cX3_forget 15 = .ok (.iconst 0, 1) := by decide +kernel
theorem dX3_forget_16 : decode cX3_forget 16 = .ok (.putfield 29, 3) := by decide +kernel
theorem dX3_forget_19 : decode cX3_forget 19 = .ok (.aload_n 0, 1) := by decide +kernel
theorem dX3_forget_20 : decode cX3_forget 20 = .ok (.iconst 0, 1) := by decide +kernel
theorem dX3_forget_21 : decode cX3_forget 21 = .ok (.putfield 33, 3) := by decide +kernel
theorem dX3_forget_24 : decode cX3_forget 24 = .ok (.return_, 1) := by decide +kernel
theorem dX3_isTold_0 : decode cX3_isTold 0 = .ok (.aload_n 0, 1) := by decide +kernel
theorem dX3_isTold_1 : decode cX3_isTold 1 = .ok (.getfield 29, 3) := by decide +kernel
theorem dX3_isTold_4 : decode cX3_isTold 4 = .ok (.iload_n 1, 1) := by decide +kernel
theorem dX3_isTold_5 : decode cX3_isTold 5 = .ok (.ishr, 1) := by decide +kernel
theorem dX3_isTold_6 : decode cX3_isTold 6 = .ok (.iconst 1, 1) := by decide +kernel
theorem dX3_isTold_7 : decode cX3_isTold 7 = .ok (.iand, 1) := by decide +kernel
theorem dX3_isTold_8 : decode cX3_isTold 8 = .ok (.iconst 1, 1) := by decide +kernel
theorem dX3_isTold_9 : decode cX3_isTold 9 = .ok (.if_icmp .ne 7, 3) := by decide +kernel
theorem dX3_isTold_12 : decode cX3_isTold 12 = .ok (.iconst 1, 1) := by decide +kernel
theorem dX3_isTold_13 : decode cX3_isTold 13 = .ok (.goto 4, 3) := by decide +kernel
theorem dX3_isTold_16 : decode cX3_isTold 16 = .ok (.iconst 0, 1) := by decide +kernel
theorem dX3_isTold_17 : decode cX3_isTold 17 = .ok (.ireturn, 1) := by decide +kernel
theorem dX3_tell_0 : decode cX3_tell 0 = .ok (.aload_n 0, 1) := by decide +kernel
theorem dX3_tell_1 : decode cX3_tell 1 = .ok (.getfield 18, 3) := by decide +kernel
theorem dX3_tell_4 : decode cX3_tell 4 = .ok (.iload_n 1, 1) := by decide +kernel
theorem dX3_tell_5 : decode cX3_tell 5 = .ok (.iload_n 2, 1) := by decide +kernel
theorem dX3_tell_6 : decode cX3_tell 6 = .ok (.iastore, 1) := by decide +kernel
theorem dX3_tell_7 : decode cX3_tell 7 = .ok (.aload_n 0, 1) := by decide +kernel
theorem dX3_tell_8 : decode cX3_tell 8 = .ok (.dup, 1) := by decide +kernel
theorem dX3_tell_9 : decode cX3_tell 9 = .ok (.getfield 29, 3) := by decide +kernel
theorem dX3_tell_12 : decode cX3_tell 12 = .ok (.iconst 1, 1) := by decide +kernel
theorem dX3_tell_13 : decode cX3_tell 13 = .ok (.iload_n 1, 1) := by decide +kernel
theorem dX3_tell_14 : decode cX3_tell 14 = .ok (.ishl, 1) := by decide +kernel
theorem dX3_tell_15 : decode cX3_tell 15 = .ok (.ior, 1) := by decide +kernel
theorem dX3_tell_16 : decode cX3_tell 16 = .ok (.putfield 29, 3) := by decide +kernel
theorem dX3_tell_19 : decode cX3_tell 19 = .ok (.aload_n 0, 1) := by decide +kernel
theorem dX3_tell_20 : decode cX3_tell 20 = .ok (.dup, 1) := by decide +kernel
theorem dX3_tell_21 : decode cX3_tell 21 = .ok (.getfield 33, 3) := by decide +kernel
theorem dX3_tell_24 : decode cX3_tell 24 = .ok (.iconst 1, 1) := by decide +kernel
theorem dX3_tell_25 : decode cX3_tell 25 = .ok (.iadd, 1) := by decide +kernel
theorem dX3_tell_26 : decode cX3_tell 26 = .ok (.putfield 33, 3) := by decide +kernel
theorem dX3_tell_29 : decode cX3_tell 29 = .ok (.return_, 1) := by decide +kernel
theorem dX3_leaves_0 : decode cX3_leaves 0 = .ok (.iload_n 1, 1) := by decide +kernel
theorem dX3_leaves_1 : decode cX3_leaves 1 = .ok (.aload_n 0, 1) := by decide +kernel
theorem dX3_leaves_2 : decode cX3_leaves 2 = .ok (.getfield 18, 3) := by decide +kernel
theorem dX3_leaves_5 : decode cX3_leaves 5 = .ok (.iconst 0, 1) := by decide +kernel
theorem dX3_leaves_6 : decode cX3_leaves 6 = .ok (.iaload, 1) := by decide +kernel
theorem dX3_leaves_7 : decode cX3_leaves 7 = .ok (.if_icmp .eq 33, 3) := by decide +kernel
theorem dX3_leaves_10 : decode cX3_leaves 10 = .ok (.iload_n 1, 1) := by decide +kernel
theorem dX3_leaves_11 : decode cX3_leaves 11 = .ok (.aload_n 0, 1) := by decide +kernel
theorem dX3_leaves_12 : decode cX3_leaves 12 = .ok (.getfield 18, 3) := by decide +kernel
theorem dX3_leaves_15 : decode cX3_leaves 15 = .ok (.iconst 1, 1) := by decide +kernel
theorem dX3_leaves_16 : decode cX3_leaves 16 = .ok (.iaload, 1) := by decide +kernel
theorem dX3_leaves_17 : decode cX3_leaves 17 = .ok (.if_icmp .eq 23, 3) := by decide +kernel
theorem dX3_leaves_20 : decode cX3_leaves 20 = .ok (.iload_n 1, 1) := by decide +kernel
theorem dX3_leaves_21 : decode cX3_leaves 21 = .ok (.aload_n 0, 1) := by decide +kernel
theorem dX3_leaves_22 : decode cX3_leaves 22 = .ok (.getfield 18, 3) := by decide +kernel
theorem dX3_leaves_25 : decode cX3_leaves 25 = .ok (.iconst 2, 1) := by decide +kernel
theorem dX3_leaves_26 : decode cX3_leaves 26 = .ok (.iaload, 1) := by decide +kernel
theorem dX3_leaves_27 : decode cX3_leaves 27 = .ok (.if_icmp .eq 13, 3) := by decide +kernel
theorem dX3_leaves_30 : decode cX3_leaves 30 = .ok (.iload_n 1, 1) := by decide +kernel
theorem dX3_leaves_31 : decode cX3_leaves 31 = .ok (.aload_n 0, 1) := by decide +kernel
theorem dX3_leaves_32 : decode cX3_leaves 32 = .ok (.getfield 18, 3) := by decide +kernel
theorem dX3_leaves_35 : decode cX3_leaves 35 = .ok (.iconst 3, 1) := by decide +kernel
theorem dX3_leaves_36 : decode cX3_leaves 36 = .ok (.iaload, 1) := by decide +kernel
theorem dX3_leaves_37 : decode cX3_leaves 37 = .ok (.if_icmp .ne 7, 3) := by decide +kernel
theorem dX3_leaves_40 : decode cX3_leaves 40 = .ok (.iconst 1, 1) := by decide +kernel
theorem dX3_leaves_41 : decode cX3_leaves 41 = .ok (.goto 4, 3) := by decide +kernel
theorem dX3_leaves_44 : decode cX3_leaves 44 = .ok (.iconst 0, 1) := by decide +kernel
theorem dX3_leaves_45 : decode cX3_leaves 45 = .ok (.ireturn, 1) := by decide +kernel
theorem dX3_beatLeft_0 : decode cX3_beatLeft 0 = .ok (.aload_n 0, 1) := by decide +kernel
theorem dX3_beatLeft_1 : decode cX3_beatLeft 1 = .ok (.getfield 18, 3) := by decide +kernel
theorem dX3_beatLeft_4 : decode cX3_beatLeft 4 = .ok (.bipush 6, 2) := by decide +kernel
theorem dX3_beatLeft_6 : decode cX3_beatLeft 6 = .ok (.iaload, 1) := by decide +kernel
theorem dX3_beatLeft_7 : decode cX3_beatLeft 7 = .ok (.ifCond .eq 18, 3) := by decide +kernel
theorem dX3_beatLeft_10 : decode cX3_beatLeft 10 = .ok (.iload_n 1, 1) := by decide +kernel
theorem dX3_beatLeft_11 : decode cX3_beatLeft 11 = .ok (.iconst (-1), 1) := by decide +kernel
theorem dX3_beatLeft_12 : decode cX3_beatLeft 12 = .ok (.if_icmp .eq 13, 3) := by decide +kernel
theorem dX3_beatLeft_15 : decode cX3_beatLeft 15 = .ok (.aload_n 0, 1) := by decide +kernel
theorem dX3_beatLeft_16 : decode cX3_beatLeft 16 = .ok (.getfield 18, 3) := by decide +kernel
theorem dX3_beatLeft_19 : decode cX3_beatLeft 19 = .ok (.bipush 7, 2) := by decide +kernel
theorem dX3_beatLeft_21 : decode cX3_beatLeft 21 = .ok (.iaload, 1) := by decide +kernel
theorem dX3_beatLeft_22 : decode cX3_beatLeft 22 = .ok (.ifCond .ne 5, 3) := by decide +kernel
theorem dX3_beatLeft_25 : decode cX3_beatLeft 25 = .ok (.iconst (-1), 1) := by decide +kernel
theorem dX3_beatLeft_26 : decode cX3_beatLeft 26 = .ok (.ireturn, 1) := by decide +kernel
theorem dX3_beatLeft_27 : decode cX3_beatLeft 27 = .ok (.bipush 63, 2) := by decide +kernel
theorem dX3_beatLeft_29 : decode cX3_beatLeft 29 = .ok (.iload_n 1, 1) := by decide +kernel
theorem dX3_beatLeft_30 : decode cX3_beatLeft 30 = .ok (.bipush 100, 2) := by decide +kernel
theorem dX3_beatLeft_32 : decode cX3_beatLeft 32 = .ok (.imul, 1) := by decide +kernel
theorem dX3_beatLeft_33 : decode cX3_beatLeft 33 = .ok (.aload_n 0, 1) := by decide +kernel
theorem dX3_beatLeft_34 : decode cX3_beatLeft 34 = .ok (.getfield 18, 3) := by decide +kernel
theorem dX3_beatLeft_37 : decode cX3_beatLeft 37 = .ok (.bipush 7, 2) := by decide +kernel
theorem dX3_beatLeft_39 : decode cX3_beatLeft 39 = .ok (.iaload, 1) := by decide +kernel
theorem dX3_beatLeft_40 : decode cX3_beatLeft 40 = .ok (.idiv, 1) := by decide +kernel
theorem dX3_beatLeft_41 : decode cX3_beatLeft 41 = .ok (.invokestatic 36, 3) := by decide +kernel
theorem dX3_beatLeft_44 : decode cX3_beatLeft 44 = .ok (.ireturn, 1) := by decide +kernel
theorem dX5_init_0 : decode cX5_init 0 = .ok (.aload_n 0, 1) := by decide +kernel
theorem dX5_init_1 : decode cX5_init 1 = .ok (.invokespecial 3, 3) := by decide +kernel
theorem dX5_init_4 : decode cX5_init 4 = .ok (.aload_n 0, 1) := by decide +kernel
theorem dX5_init_5 : decode cX5_init 5 = .ok (.bipush 12, 2) := by decide +kernel
theorem dX5_init_7 : decode cX5_init 7 = .ok (.newarray .int, 2) := by decide +kernel
theorem dX5_init_9 : decode cX5_init 9 = .ok (.putfield 9, 3) := by decide +kernel
theorem dX5_init_12 : decode cX5_init 12 = .ok (.aload_n 0, 1) := by decide +kernel
theorem dX5_init_13 : decode cX5_init 13 = .ok (.bipush 12, 2) := by decide +kernel
theorem dX5_init_15 : decode cX5_init 15 = .ok (.newarray .int, 2) := by decide +kernel
theorem dX5_init_17 : decode cX5_init 17 = .ok (.putfield 15, 3) := by decide +kernel
theorem dX5_init_20 : decode cX5_init 20 = .ok (.aload_n 0, 1) := by decide +kernel
theorem dX5_init_21 : decode cX5_init 21 = .ok (.sipush 600, 3) := by decide +kernel
theorem dX5_init_24 : decode cX5_init 24 = .ok (.newarray .int, 2) := by decide +kernel
theorem dX5_init_26 : decode cX5_init 26 = .ok (.putfield 18, 3) := by decide +kernel
theorem dX5_init_29 : decode cX5_init 29 = .ok (.aload_n 0, 1) := by decide +kernel
theorem dX5_init_30 : decode cX5_init 30 = .ok (.bipush 64, 2) := by decide +kernel
theorem dX5_init_32 : decode cX5_init 32 = .ok (.newarray .int, 2) := by decide +kernel
theorem dX5_init_34 : decode cX5_init 34 = .ok (.putfield 21, 3) := by decide +kernel
theorem dX5_init_37 : decode cX5_init 37 = .ok (.return_, 1) := by decide +kernel
theorem dX5_forget_0 : decode cX5_forget 0 = .ok (.aload_n 0, 1) := by decide +kernel
theorem dX5_forget_1 : decode cX5_forget 1 = .ok (.iconst 0, 1) := by decide +kernel
theorem dX5_forget_2 : decode cX5_forget 2 = .ok (.putfield 24, 3) := by decide +kernel
theorem dX5_forget_5 : decode cX5_forget 5 = .ok (.aload_n 0, 1) := by decide +kernel
theorem dX5_forget_6 : decode cX5_forget 6 = .ok (.iconst 0, 1) := by decide +kernel
theorem dX5_forget_7 : decode cX5_forget 7 = .ok (.putfield 28, 3) := by decide +kernel
theorem dX5_forget_10 : decode cX5_forget 10 = .ok (.return_, 1) := by decide +kernel
theorem dX5_addLine_0 : decode cX5_addLine 0 = .ok (.aload_n 0, 1) := by decide +kernel
theorem dX5_addLine_1 : decode cX5_addLine 1 = .ok (.getfield 24, 3) := by decide +kernel
theorem dX5_addLine_4 : decode cX5_addLine 4 = .ok (.bipush 12, 2) := by decide +kernel
theorem dX5_addLine_6 : decode cX5_addLine 6 = .ok (.if_icmp .ge 36, 3) := by decide +kernel
theorem dX5_addLine_9 : decode cX5_addLine 9 = .ok (.aload_n 0, 1) := by decide +kernel
theorem dX5_addLine_10 : decode cX5_addLine 10 = .ok (.getfield 9, 3) := by decide +kernel
theorem dX5_addLine_13 : decode cX5_addLine 13 = .ok (.aload_n 0, 1) := by decide +kernel
theorem dX5_addLine_14 : decode cX5_addLine 14 = .ok (.getfield 24, 3) := by decide +kernel
theorem dX5_addLine_17 : decode cX5_addLine 17 = .ok (.iload_n 1, 1) := by decide +kernel
theorem dX5_addLine_18 : decode cX5_addLine 18 = .ok (.iastore, 1) := by decide +kernel
theorem dX5_addLine_19 : decode cX5_addLine 19 = .ok (.aload_n 0, 1) := by decide +kernel
theorem dX5_addLine_20 : decode cX5_addLine 20 = .ok (.getfield 15, 3) := by decide +kernel
theorem dX5_addLine_23 : decode cX5_addLine 23 = .ok (.aload_n 0, 1) := by decide +kernel
theorem dX5_addLine_24 : decode cX5_addLine 24 = .ok (.getfield 24, 3) := by decide +kernel
theorem dX5_addLine_27 : decode cX5_addLine 27 = .ok (.aload_n 0, 1) := by decide +kernel
theorem dX5_addLine_28 : decode cX5_addLine 28 = .ok (.getfield 28, 3) := by decide +kernel
theorem dX5_addLine_31 : decode cX5_addLine 31 = .ok (.iastore, 1) := by decide +kernel
theorem dX5_addLine_32 : decode cX5_addLine 32 = .ok (.aload_n 0, 1) := by decide +kernel
theorem dX5_addLine_33 : decode cX5_addLine 33 = .ok (.dup, 1) := by decide +kernel
theorem dX5_addLine_34 : decode cX5_addLine 34 = .ok (.getfield 24, 3) := by decide +kernel
theorem dX5_addLine_37 : decode cX5_addLine 37 = .ok (.iconst 1, 1) := by decide +kernel
theorem dX5_addLine_38 : decode cX5_addLine 38 = .ok (.iadd, 1) := by decide +kernel
theorem dX5_addLine_39 : decode cX5_addLine 39 = .ok (.putfield 24, 3) := by decide +kernel
theorem dX5_addLine_42 : decode cX5_addLine 42 = .ok (.return_, 1) := by decide +kernel
theorem dX5_addStep_0 : decode cX5_addStep 0 = .ok (.aload_n 0, 1) := by decide +kernel
theorem dX5_addStep_1 : decode cX5_addStep 1 = .ok (.getfield 28, 3) := by decide +kernel
theorem dX5_addStep_4 : decode cX5_addStep 4 = .ok (.sipush 600, 3) := by decide +kernel
theorem dX5_addStep_7 : decode cX5_addStep 7 = .ok (.if_icmp .ge 27, 3) := by decide +kernel
theorem dX5_addStep_10 : decode cX5_addStep 10 = .ok (.aload_n 0, 1) := by decide +kernel
theorem dX5_addStep_11 : decode cX5_addStep 11 = .ok (.getfield 18, 3) := by decide +kernel
theorem dX5_addStep_14 : decode cX5_addStep 14 = .ok (.aload_n 0, 1) := by decide +kernel
theorem dX5_addStep_15 : decode cX5_addStep 15 = .ok (.getfield 28, 3) := by decide +kernel
theorem dX5_addStep_18 : decode cX5_addStep 18 = .ok (.iload_n 2, 1) := by decide +kernel
theorem dX5_addStep_19 : decode cX5_addStep 19 = .ok (.iconst 4, 1) := by decide +kernel
theorem dX5_addStep_20 : decode cX5_addStep 20 = .ok (.ishl, 1) := by decide +kernel
theorem dX5_addStep_21 : decode cX5_addStep 21 = .ok (.iload_n 1, 1) := by decide +kernel
theorem dX5_addStep_22 : decode cX5_addStep 22 = .ok (.ior, 1) := by decide +kernel
theorem dX5_addStep_23 : decode cX5_addStep 23 = .ok (.iastore, 1) := by decide +kernel
theorem dX5_addStep_24 : decode cX5_addStep 24 = .ok (.aload_n 0, 1) := by decide +kernel
theorem dX5_addStep_25 : decode cX5_addStep 25 = .ok (.dup, 1) := by decide +kernel
theorem dX5_addStep_26 : decode cX5_addStep 26 = .ok (.getfield 28, 3) := by decide +kernel
theorem dX5_addStep_29 : decode cX5_addStep 29 = .ok (.iconst 1, 1) := by decide +kernel
theorem dX5_addStep_30 : decode cX5_addStep 30 = .ok (.iadd, 1) := by decide +kernel
theorem dX5_addStep_31 : decode cX5_addStep 31 = .ok (.putfield 28, 3) := by decide +kernel
theorem dX5_addStep_34 : decode cX5_addStep 34 = .ok (.return_, 1) := by decide +kernel
theorem dX5_judge_0 : decode cX5_judge 0 = .ok (.iconst 0, 1) := by decide +kernel
theorem dX5_judge_1 : decode cX5_judge 1 = .ok (.istore_n 2, 1) := by decide +kernel
theorem dX5_judge_2 : decode cX5_judge 2 = .ok (.iload_n 2, 1) := by decide +kernel
theorem dX5_judge_3 : decode cX5_judge 3 = .ok (.aload_n 0, 1) := by decide +kernel
theorem dX5_judge_4 : decode cX5_judge 4 = .ok (.getfield 24, 3) := by decide +kernel
theorem dX5_judge_7 : decode cX5_judge 7 = .ok (.if_icmp .ge 57, 3) := by decide +kernel
theorem dX5_judge_10 : decode cX5_judge 10 = .ok (.iload_n 2, 1) := by decide +kernel
theorem dX5_judge_11 : decode cX5_judge 11 = .ok (.iconst 1, 1) := by decide +kernel
theorem dX5_judge_12 : decode cX5_judge 12 = .ok (.iadd, 1) := by decide +kernel
theorem dX5_judge_13 : decode cX5_judge 13 = .ok (.aload_n 0, 1) := by decide +kernel
theorem dX5_judge_14 : decode cX5_judge 14 = .ok (.getfield 24, 3) := by decide +kernel
theorem dX5_judge_17 : decode cX5_judge 17 = .ok (.if_icmp .ge 14, 3) := by decide +kernel
theorem dX5_judge_20 : decode cX5_judge 20 = .ok (.aload_n 0, 1) := by decide +kernel
theorem dX5_judge_21 : decode cX5_judge 21 = .ok (.getfield 15, 3) := by decide +kernel
theorem dX5_judge_24 : decode cX5_judge 24 = .ok (.iload_n 2, 1) := by decide +kernel
theorem dX5_judge_25 : decode cX5_judge 25 = .ok (.iconst 1, 1) := by decide +kernel
theorem dX5_judge_26 : decode cX5_judge 26 = .ok (.iadd, 1) := by decide +kernel
theorem dX5_judge_27 : decode cX5_judge 27 = .ok (.iaload, 1) := by decide +kernel
theorem dX5_judge_28 : decode cX5_judge 28 = .ok (.goto 7, 3) := by decide +kernel
theorem dX5_judge_31 : decode cX5_judge 31 = .ok (.aload_n 0, 1) := by decide +kernel
theorem dX5_judge_32 : decode cX5_judge 32 = .ok (.getfield 28, 3) := by decide +kernel
theorem dX5_judge_35 : decode cX5_judge 35 = .ok (.istore_n 3, 1) := by decide +kernel
theorem dX5_judge_36 : decode cX5_judge 36 = .ok (.aload_n 0, 1) := by decide +kernel
theorem dX5_judge_37 : decode cX5_judge 37 = .ok (.aload_n 0, 1) := by decide +kernel
theorem dX5_judge_38 : decode cX5_judge 38 = .ok (.getfield 15, 3) := by decide +kernel
theorem dX5_judge_41 : decode cX5_judge 41 = .ok (.iload_n 2, 1) := by decide +kernel
theorem dX5_judge_42 : decode cX5_judge 42 = .ok (.iaload, 1) := by decide +kernel
theorem dX5_judge_43 : decode cX5_judge 43 = .ok (.iload_n 3, 1) := by decide +kernel
theorem dX5_judge_44 : decode cX5_judge 44 = .ok (.aload_n 1, 1) := by decide +kernel
theorem dX5_judge_45 : decode cX5_judge 45 = .ok (.invokevirtual 31, 3) := by decide +kernel
theorem dX5_judge_48 : decode cX5_judge 48 = .ok (.ifCond .eq 10, 3) := by decide +kernel
theorem dX5_judge_51 : decode cX5_judge 51 = .ok (.aload_n 0, 1) := by decide +kernel
theorem dX5_judge_52 : decode cX5_judge 52 = .ok (.getfield 9, 3) := by decide +kernel
theorem dX5_judge_55 : decode cX5_judge 55 = .ok (.iload_n 2, 1) := by decide +kernel
theorem dX5_judge_56 : decode cX5_judge 56 = .ok (.iaload, 1) := by decide +kernel
theorem dX5_judge_57 : decode cX5_judge 57 = .ok (.ireturn, 1) := by decide +kernel
theorem dX5_judge_58 : decode cX5_judge 58 = .ok (.iinc 2 1, 3) := by decide +kernel
theorem dX5_judge_61 : decode cX5_judge 61 = .ok (.goto (-59), 3) := by decide +kernel
theorem dX5_judge_64 : decode cX5_judge 64 = .ok (.iconst 0, 1) := by decide +kernel
theorem dX5_judge_65 : decode cX5_judge 65 = .ok (.ireturn, 1) := by decide +kernel
theorem dX5_isSo_0 : decode cX5_isSo 0 = .ok (.aload_n 0, 1) := by decide +kernel
theorem dX5_isSo_1 : decode cX5_isSo 1 = .ok (.iconst 0, 1) := by decide +kernel
theorem dX5_isSo_2 : decode cX5_isSo 2 = .ok (.putfield 35, 3) := by decide +kernel
theorem dX5_isSo_5 : decode cX5_isSo 5 = .ok (.iload_n 1, 1) := by decide +kernel
theorem dX5_isSo_6 : decode cX5_isSo 6 = .ok (.istore 4, 2) := by decide +kernel
theorem dX5_isSo_8 : decode cX5_isSo 8 = .ok (.iload 4, 2) := by decide +kernel
theorem dX5_isSo_10 : decode cX5_isSo 10 = .ok (.iload_n 2, 1) := by decide +kernel
theorem dX5_isSo_11 : decode cX5_isSo 11 = .ok (.if_icmp .ge 128, 3) := by decide +kernel
theorem dX5_isSo_14 : decode cX5_isSo 14 = .ok (.aload_n 0, 1) := by decide +kernel
theorem dX5_isSo_15 : decode cX5_isSo 15 = .ok (.getfield 18, 3) := by decide +kernel
theorem dX5_isSo_18 : decode cX5_isSo 18 = .ok (.iload 4, 2) := by decide +kernel
theorem dX5_isSo_20 : decode cX5_isSo 20 = .ok (.iaload, 1) := by decide +kernel
theorem dX5_isSo_21 : decode cX5_isSo 21 = .ok (.bipush 15, 2) := by decide +kernel
theorem dX5_isSo_23 : decode cX5_isSo 23 = .ok (.iand, 1) := by decide +kernel
theorem dX5_isSo_24 : decode cX5_isSo 24 = .ok (.istore 5, 2) := by decide +kernel
theorem dX5_isSo_26 : decode cX5_isSo 26 = .ok (.aload_n 0, 1) := by decide +kernel
theorem dX5_isSo_27 : decode cX5_isSo 27 = .ok (.getfield 18, 3) := by decide +kernel
theorem dX5_isSo_30 : decode cX5_isSo 30 = .ok (.iload 4, 2) := by decide +kernel
theorem dX5_isSo_32 : decode cX5_isSo 32 = .ok (.iaload, 1) := by decide +kernel
theorem dX5_isSo_33 : decode cX5_isSo 33 = .ok (.iconst 4, 1) := by decide +kernel
theorem dX5_isSo_34 : decode cX5_isSo 34 = .ok (.ishr, 1) := by decide +kernel
theorem dX5_isSo_35 : decode cX5_isSo 35 = .ok (.istore 6, 2) := by decide +kernel
theorem dX5_isSo_37 : decode cX5_isSo 37 = .ok (.iload 5, 2) := by decide +kernel
theorem dX5_isSo_39 : decode cX5_isSo 39 = .ok (.bipush 11, 2) := by decide +kernel
theorem dX5_isSo_41 : decode cX5_isSo 41 = .ok (.if_icmp .ne 12, 3) := by decide +kernel
theorem dX5_isSo_44 : decode cX5_isSo 44 = .ok (.aload_n 0, 1) := by decide +kernel
theorem dX5_isSo_45 : decode cX5_isSo 45 = .ok (.iload 6, 2) := by decide +kernel
theorem dX5_isSo_47 : decode cX5_isSo 47 = .ok (.invokevirtual 38, 3) := by decide +kernel
theorem dX5_isSo_50 : decode cX5_isSo 50 = .ok (.goto 83, 3) := by decide +kernel
theorem dX5_isSo_53 : decode cX5_isSo 53 = .ok (.iload 5, 2) := by decide +kernel
theorem dX5_isSo_55 : decode cX5_isSo 55 = .ok (.bipush 12, 2) := by decide +kernel
theorem dX5_isSo_57 : decode cX5_isSo 57 = .ok (.if_icmp .ne 30, 3) := by decide +kernel
theorem dX5_isSo_60 : decode cX5_isSo 60 = .ok (.aload_n 0, 1) := by decide +kernel
theorem dX5_isSo_61 : decode cX5_isSo 61 = .ok (.iload 6, 2) := by decide +kernel
theorem dX5_isSo_63 : decode cX5_isSo 63 = .ok (.ifCond .lt 17, 3) := by decide +kernel
theorem dX5_isSo_66 : decode cX5_isSo 66 = .ok (.iload 6, 2) := by decide +kernel
theorem dX5_isSo_68 : decode cX5_isSo 68 = .ok (.bipush 9, 2) := by decide +kernel
theorem dX5_isSo_70 : decode cX5_isSo 70 = .ok (.if_icmp .ge 10, 3) := by decide +kernel
theorem dX5_isSo_73 : decode cX5_isSo 73 = .ok (.aload_n 3, 1) := by decide +kernel
theorem dX5_isSo_74 : decode cX5_isSo 74 = .ok (.iload 6, 2) := by decide +kernel
theorem dX5_isSo_76 : decode cX5_isSo 76 = .ok (.iaload, 1) := by decide +kernel
theorem dX5_isSo_77 : decode cX5_isSo 77 = .ok (.goto 4, 3) := by decide +kernel
theorem dX5_isSo_80 : decode cX5_isSo 80 = .ok (.iconst 0, 1) := by decide +kernel
theorem dX5_isSo_81 : decode cX5_isSo 81 = .ok (.invokevirtual 38, 3) := by decide +kernel
theorem dX5_isSo_84 : decode cX5_isSo 84 = .ok (.goto 49, 3) := by decide +kernel
theorem dX5_isSo_87 : decode cX5_isSo 87 = .ok (.iload 5, 2) := by decide +kernel
theorem dX5_isSo_89 : decode cX5_isSo 89 = .ok (.iconst 3, 1) := by decide +kernel
theorem dX5_isSo_90 : decode cX5_isSo 90 = .ok (.if_icmp .ne 22, 3) := by decide +kernel
theorem dX5_isSo_93 : decode cX5_isSo 93 = .ok (.aload_n 0, 1) := by decide +kernel
theorem dX5_isSo_94 : decode cX5_isSo 94 = .ok (.aload_n 0, 1) := by decide +kernel
theorem dX5_isSo_95 : decode cX5_isSo 95 = .ok (.invokevirtual 42, 3) := by decide +kernel
theorem dX5_isSo_98 : decode cX5_isSo 98 = .ok (.ifCond .ne 7, 3) := by decide +kernel
theorem dX5_isSo_101 : decode cX5_isSo 101 = .ok (.iconst 1, 1) := by decide +kernel
theorem dX5_isSo_102 : decode cX5_isSo 102 = .ok (.goto 4, 3) := by decide +kernel
theorem dX5_isSo_105 : decode cX5_isSo 105 = .ok (.iconst 0, 1) := by decide +kernel
theorem dX5_isSo_106 : decode cX5_isSo 106 = .ok (.invokevirtual 38, 3) := by decide +kernel
theorem dX5_isSo_109 : decode cX5_isSo 109 = .ok (.goto 24, 3) := by decide +kernel
theorem dX5_isSo_112 : decode cX5_isSo 112 = .ok (.aload_n 0, 1) := by decide +kernel
theorem dX5_isSo_113 : decode cX5_isSo 113 = .ok (.invokevirtual 42, 3) := by decide +kernel
theorem dX5_isSo_116 : decode cX5_isSo 116 = .ok (.istore 7, 2) := by decide +kernel
theorem dX5_isSo_118 : decode cX5_isSo 118 = .ok (.aload_n 0, 1) := by decide +kernel
theorem dX5_isSo_119 : decode cX5_isSo 119 = .ok (.iload 5, 2) := by decide +kernel
theorem dX5_isSo_121 : decode cX5_isSo 121 = .ok (.aload_n 0, 1) := by decide +kernel
theorem dX5_isSo_122 : decode cX5_isSo 122 = .ok (.invokevirtual 42, 3) := by decide +kernel
theorem dX5_isSo_125 : decode cX5_isSo 125 = .ok (.iload 7, 2) := by decide +kernel
theorem dX5_isSo_127 : decode cX5_isSo 127 = .ok (.invokestatic 46, 3) := by decide +kernel
theorem dX5_isSo_130 : decode cX5_isSo 130 = .ok (.invokevirtual 38, 3) := by decide +kernel
theorem dX5_isSo_133 : decode cX5_isSo 133 = .ok (.iinc 4 1, 3) := by decide +kernel
theorem dX5_isSo_136 : decode cX5_isSo 136 = .ok (.goto (-128), 3) := by decide +kernel
theorem dX5_isSo_139 : decode cX5_isSo 139 = .ok (.aload_n 0, 1) := by decide +kernel
theorem dX5_isSo_140 : decode cX5_isSo 140 = .ok (.invokevirtual 42, 3) := by decide +kernel
theorem dX5_isSo_143 : decode cX5_isSo 143 = .ok (.ifCond .eq 7, 3) := by decide +kernel
theorem dX5_isSo_146 : decode cX5_isSo 146 = .ok (.iconst 1, 1) := by decide +kernel
theorem dX5_isSo_147 : decode cX5_isSo 147 = .ok (.goto 4, 3) := by decide +kernel
theorem dX5_isSo_150 : decode cX5_isSo 150 = .ok (.iconst 0, 1) := by decide +kernel
theorem dX5_isSo_151 : decode cX5_isSo 151 = .ok (.ireturn, 1) := by decide +kernel
theorem dX5_push_0 : decode cX5_push 0 = .ok (.aload_n 0, 1) := by decide +kernel
theorem dX5_push_1 : decode cX5_push 1 = .ok (.getfield 35, 3) := by decide +kernel
theorem dX5_push_4 : decode cX5_push 4 = .ok (.bipush 64, 2) := by decide +kernel
theorem dX5_push_6 : decode cX5_push 6 = .ok (.if_icmp .ge 23, 3) := by decide +kernel
theorem dX5_push_9 : decode cX5_push 9 = .ok (.aload_n 0, 1) := by decide +kernel
theorem dX5_push_10 : decode cX5_push 10 = .ok (.getfield 21, 3) := by decide +kernel
theorem dX5_push_13 : decode cX5_push 13 = .ok (.aload_n 0, 1) := by decide +kernel
theorem dX5_push_14 : decode cX5_push 14 = .ok (.getfield 35, 3) := by decide +kernel
theorem dX5_push_17 : decode cX5_push 17 = .ok (.iload_n 1, 1) := by decide +kernel
theorem dX5_push_18 : decode cX5_push 18 = .ok (.iastore, 1) := by decide +kernel
theorem dX5_push_19 : decode cX5_push 19 = .ok (.aload_n 0, 1) := by decide +kernel
theorem dX5_push_20 : decode cX5_push 20 = .ok (.dup, 1) := by decide +kernel
theorem dX5_push_21 : decode cX5_push 21 = .ok (.getfield 35, 3) := by decide +kernel
theorem dX5_push_24 : decode cX5_push 24 = .ok (.iconst 1, 1) := by decide +kernel
theorem dX5_push_25 : decode cX5_push 25 = .ok (.iadd, 1) := by decide +kernel
theorem dX5_push_26 : decode cX5_push 26 = .ok (.putfield 35, 3) := by decide +kernel
theorem dX5_push_29 : decode cX5_push 29 = .ok (.return_, 1) := by decide +kernel
theorem dX5_pull_0 : decode cX5_pull 0 = .ok (.aload_n 0, 1) := by decide +kernel
theorem dX5_pull_1 : decode cX5_pull 1 = .ok (.getfield 35, 3) := by decide +kernel
theorem dX5_pull_4 : decode cX5_pull 4 = .ok (.ifCond .ne 5, 3) := by decide +kernel
theorem dX5_pull_7 : decode cX5_pull 7 = .ok (.iconst 0, 1) := by decide +kernel
theorem dX5_pull_8 : decode cX5_pull 8 = .ok (.ireturn, 1) := by decide +kernel
theorem dX5_pull_9 : decode cX5_pull 9 = .ok (.aload_n 0, 1) := by decide +kernel
theorem dX5_pull_10 : decode cX5_pull 10 = .ok (.dup, 1) := by decide +kernel
theorem dX5_pull_11 : decode cX5_pull 11 = .ok (.getfield 35, 3) := by decide +kernel
theorem dX5_pull_14 : decode cX5_pull 14 = .ok (.iconst 1, 1) := by decide +kernel
theorem dX5_pull_15 : decode cX5_pull 15 = .ok (.isub, 1) := by decide +kernel
theorem dX5_pull_16 : decode cX5_pull 16 = .ok (.putfield 35, 3) := by decide +kernel
theorem dX5_pull_19 : decode cX5_pull 19 = .ok (.aload_n 0, 1) := by decide +kernel
theorem dX5_pull_20 : decode cX5_pull 20 = .ok (.getfield 21, 3) := by decide +kernel
theorem dX5_pull_23 : decode cX5_pull 23 = .ok (.aload_n 0, 1) := by decide +kernel
theorem dX5_pull_24 : decode cX5_pull 24 = .ok (.getfield 35, 3) := by decide +kernel
theorem dX5_pull_27 : decode cX5_pull 27 = .ok (.iaload, 1) := by decide +kernel
theorem dX5_pull_28 : decode cX5_pull 28 = .ok (.ireturn, 1) := by decide +kernel
theorem dX5_combine_0 : decode cX5_combine 0 = .ok (.iload_n 0, 1) := by decide +kernel
theorem dX5_combine_1 : decode cX5_combine 1 = .ok (.tableswitch 104 1 9 #[51, 55, 104, 59, 70, 81, 92, 96, 100], 51) := by decide +kernel
theorem dX5_combine_52 : decode cX5_combine 52 = .ok (.iload_n 1, 1) := by decide +kernel
theorem dX5_combine_53 : decode cX5_combine 53 = .ok (.iload_n 2, 1) := by decide +kernel
theorem dX5_combine_54 : decode cX5_combine 54 = .ok (.ior, 1) := by decide +kernel
theorem dX5_combine_55 : decode cX5_combine 55 = .ok (.ireturn, 1) := by decide +kernel
theorem dX5_combine_56 : decode cX5_combine 56 = .ok (.iload_n 1, 1) := by decide +kernel
theorem dX5_combine_57 : decode cX5_combine 57 = .ok (.iload_n 2, 1) := by decide +kernel
theorem dX5_combine_58 : decode cX5_combine 58 = .ok (.iand, 1) := by decide +kernel
theorem dX5_combine_59 : decode cX5_combine 59 = .ok (.ireturn, 1) := by decide +kernel
theorem dX5_combine_60 : decode cX5_combine 60 = .ok (.iload_n 1, 1) := by decide +kernel
theorem dX5_combine_61 : decode cX5_combine 61 = .ok (.iload_n 2, 1) := by decide +kernel
theorem dX5_combine_62 : decode cX5_combine 62 = .ok (.if_icmp .ge 7, 3) := by decide +kernel
theorem dX5_combine_65 : decode cX5_combine 65 = .ok (.iconst 1, 1) := by decide +kernel
theorem dX5_combine_66 : decode cX5_combine 66 = .ok (.goto 4, 3) := by decide +kernel
theorem dX5_combine_69 : decode cX5_combine 69 = .ok (.iconst 0, 1) := by decide +kernel
theorem dX5_combine_70 : decode cX5_combine 70 = .ok (.ireturn, 1) := by decide +kernel
theorem dX5_combine_71 : decode cX5_combine 71 = .ok (.iload_n 1, 1) := by decide +kernel
theorem dX5_combine_72 : decode cX5_combine 72 = .ok (.iload_n 2, 1) := by decide +kernel
theorem dX5_combine_73 : decode cX5_combine 73 = .ok (.if_icmp .ne 7, 3) := by decide +kernel
theorem dX5_combine_76 : decode cX5_combine 76 = .ok (.iconst 1, 1) := by decide +kernel
theorem dX5_combine_77 : decode cX5_combine 77 = .ok (.goto 4, 3) := by decide +kernel
theorem dX5_combine_80 : decode cX5_combine 80 = .ok (.iconst 0, 1) := by decide +kernel
theorem dX5_combine_81 : decode cX5_combine 81 = .ok (.ireturn, 1) := by decide +kernel
theorem dX5_combine_82 : decode cX5_combine 82 = .ok (.iload_n 1, 1) := by decide +kernel
theorem dX5_combine_83 : decode cX5_combine 83 = .ok (.iload_n 2, 1) := by decide +kernel
theorem dX5_combine_84 : decode cX5_combine 84 = .ok (.if_icmp .le 7, 3) := by decide +kernel
theorem dX5_combine_87 : decode cX5_combine 87 = .ok (.iconst 1, 1) := by decide +kernel
theorem dX5_combine_88 : decode cX5_combine 88 = .ok (.goto 4, 3) := by decide +kernel
theorem dX5_combine_91 : decode cX5_combine 91 = .ok (.iconst 0, 1) := by decide +kernel
theorem dX5_combine_92 : decode cX5_combine 92 = .ok (.ireturn, 1) := by decide +kernel
theorem dX5_combine_93 : decode cX5_combine 93 = .ok (.iload_n 1, 1) := by decide +kernel
theorem dX5_combine_94 : decode cX5_combine 94 = .ok (.iload_n 2, 1) := by decide +kernel
theorem dX5_combine_95 : decode cX5_combine 95 = .ok (.iadd, 1) := by decide +kernel
theorem dX5_combine_96 : decode cX5_combine 96 = .ok (.ireturn, 1) := by decide +kernel
theorem dX5_combine_97 : decode cX5_combine 97 = .ok (.iload_n 1, 1) := by decide +kernel
theorem dX5_combine_98 : decode cX5_combine 98 = .ok (.iload_n 2, 1) := by decide +kernel
theorem dX5_combine_99 : decode cX5_combine 99 = .ok (.isub, 1) := by decide +kernel
theorem dX5_combine_100 : decode cX5_combine 100 = .ok (.ireturn, 1) := by decide +kernel
theorem dX5_combine_101 : decode cX5_combine 101 = .ok (.iload_n 1, 1) := by decide +kernel
theorem dX5_combine_102 : decode cX5_combine 102 = .ok (.iload_n 2, 1) := by decide +kernel
theorem dX5_combine_103 : decode cX5_combine 103 = .ok (.imul, 1) := by decide +kernel
theorem dX5_combine_104 : decode cX5_combine 104 = .ok (.ireturn, 1) := by decide +kernel
theorem dX5_combine_105 : decode cX5_combine 105 = .ok (.iload_n 2, 1) := by decide +kernel
theorem dX5_combine_106 : decode cX5_combine 106 = .ok (.ifCond .ne 7, 3) := by decide +kernel
theorem dX5_combine_109 : decode cX5_combine 109 = .ok (.iconst 0, 1) := by decide +kernel
theorem dX5_combine_110 : decode cX5_combine 110 = .ok (.goto 6, 3) := by decide +kernel
theorem dX5_combine_113 : decode cX5_combine 113 = .ok (.iload_n 1, 1) := by decide +kernel
theorem dX5_combine_114 : decode cX5_combine 114 = .ok (.iload_n 2, 1) := by decide +kernel
theorem dX5_combine_115 : decode cX5_combine 115 = .ok (.idiv, 1) := by decide +kernel
theorem dX5_combine_116 : decode cX5_combine 116 = .ok (.ireturn, 1) := by decide +kernel
theorem dX6_init_0 : decode cX6_init 0 = .ok (.aload_n 0, 1) := by decide +kernel
theorem dX6_init_1 : decode cX6_init 1 = .ok (.invokespecial 3, 3) := by decide +kernel
theorem dX6_init_4 : decode cX6_init 4 = .ok (.aload_n 0, 1) := by decide +kernel
theorem dX6_init_5 : decode cX6_init 5 = .ok (.sipush 2000, 3) := by decide +kernel
theorem dX6_init_8 : decode cX6_init 8 = .ok (.newarray .int, 2) := by decide +kernel
theorem dX6_init_10 : decode cX6_init 10 = .ok (.putfield 9, 3) := by decide +kernel
theorem dX6_init_13 : decode cX6_init 13 = .ok (.return_, 1) := by decide +kernel
theorem dX6_slideAlong_0 : decode cX6_slideAlong 0 = .ok (.aload_n 0, 1) := by decide +kernel
theorem dX6_slideAlong_1 : decode cX6_slideAlong 1 = .ok (.iconst 0, 1) := by decide +kernel
theorem dX6_slideAlong_2 : decode cX6_slideAlong 2 = .ok (.putfield 15, 3) := by decide +kernel
theorem dX6_slideAlong_5 : decode cX6_slideAlong 5 = .ok (.aload_n 0, 1) := by decide +kernel
theorem dX6_slideAlong_6 : decode cX6_slideAlong 6 = .ok (.iconst (-1), 1) := by decide +kernel
theorem dX6_slideAlong_7 : decode cX6_slideAlong 7 = .ok (.putfield 19, 3) := by decide +kernel
theorem dX6_slideAlong_10 : decode cX6_slideAlong 10 = .ok (.aload_n 0, 1) := by decide +kernel
theorem dX6_slideAlong_11 : decode cX6_slideAlong 11 = .ok (.iconst (-1), 1) := by decide +kernel
theorem dX6_slideAlong_12 : decode cX6_slideAlong 12 = .ok (.putfield 22, 3) := by decide +kernel
theorem dX6_slideAlong_15 : decode cX6_slideAlong 15 = .ok (.aload_n 0, 1) := by decide +kernel
theorem dX6_slideAlong_16 : decode cX6_slideAlong 16 = .ok (.iconst (-1), 1) := by decide +kernel
theorem dX6_slideAlong_17 : decode cX6_slideAlong 17 = .ok (.putfield 25, 3) := by decide +kernel
theorem dX6_slideAlong_20 : decode cX6_slideAlong 20 = .ok (.aload_n 1, 1) := by decide +kernel
theorem dX6_slideAlong_21 : decode cX6_slideAlong 21 = .ok (.getfield 28, 3) := by decide +kernel
theorem dX6_slideAlong_24 : decode cX6_slideAlong 24 = .ok (.iload 4, 2) := by decide +kernel
theorem dX6_slideAlong_26 : decode cX6_slideAlong 26 = .ok (.iload_n 3, 1) := by decide +kernel
theorem dX6_slideAlong_27 : decode cX6_slideAlong 27 = .ok (.isub, 1) := by decide +kernel
theorem dX6_slideAlong_28 : decode cX6_slideAlong 28 = .ok (.iconst 1, 1) := by decide +kernel
theorem dX6_slideAlong_29 : decode cX6_slideAlong 29 = .ok (.iadd, 1) := by decide +kernel
theorem dX6_slideAlong_30 : decode cX6_slideAlong 30 = .ok (.isub, 1) := by decide +kernel
theorem dX6_slideAlong_31 : decode cX6_slideAlong 31 = .ok (.istore 7, 2) := by decide +kernel
theorem dX6_slideAlong_33 : decode cX6_slideAlong 33 = .ok (.iconst 0, 1) := by decide +kernel
theorem dX6_slideAlong_34 : decode cX6_slideAlong 34 = .ok (.istore 8, 2) := by decide +kernel
theorem dX6_slideAlong_36 : decode cX6_slideAlong 36 = .ok (.iload 8, 2) := by decide +kernel
theorem dX6_slideAlong_38 : decode cX6_slideAlong 38 = .ok (.iload 7, 2) := by decide +kernel
theorem dX6_slideAlong_40 : decode cX6_slideAlong 40 = .ok (.if_icmp .gt 89, 3) := by decide +kernel
theorem dX6_slideAlong_43 : decode cX6_slideAlong 43 = .ok (.aload_n 1, 1) := by decide +kernel
theorem dX6_slideAlong_44 : decode cX6_slideAlong 44 = .ok (.iload 8, 2) := by decide +kernel
theorem dX6_slideAlong_46 : decode cX6_slideAlong 46 = .ok (.aload_n 2, 1) := by decide +kernel
theorem dX6_slideAlong_47 : decode cX6_slideAlong 47 = .ok (.iload_n 3, 1) := by decide +kernel
theorem dX6_slideAlong_48 : decode cX6_slideAlong 48 = .ok (.iload 4, 2) := by decide +kernel
theorem dX6_slideAlong_50 : decode cX6_slideAlong 50 = .ok (.iload 5, 2) := by decide +kernel
theorem dX6_slideAlong_52 : decode cX6_slideAlong 52 = .ok (.invokevirtual 33, 3) := by decide +kernel
theorem dX6_slideAlong_55 : decode cX6_slideAlong 55 = .ok (.istore 9, 2) := by decide +kernel
theorem dX6_slideAlong_57 : decode cX6_slideAlong 57 = .ok (.iload 9, 2) := by decide +kernel
theorem dX6_slideAlong_59 : decode cX6_slideAlong 59 = .ok (.iload 6, 2) := by decide +kernel
theorem dX6_slideAlong_61 : decode cX6_slideAlong 61 = .ok (.if_icmp .gt 33, 3) := by decide +kernel
theorem dX6_slideAlong_64 : decode cX6_slideAlong 64 = .ok (.aload_n 0, 1) := by decide +kernel
theorem dX6_slideAlong_65 : decode cX6_slideAlong 65 = .ok (.aload_n 0, 1) := by decide +kernel
theorem dX6_slideAlong_66 : decode cX6_slideAlong 66 = .ok (.getfield 15, 3) := by decide +kernel
theorem dX6_slideAlong_69 : decode cX6_slideAlong 69 = .ok (.ifCond .ne 8, 3) := by decide +kernel
theorem dX6_slideAlong_72 : decode cX6_slideAlong 72 = .ok (.iload 8, 2) := by decide +kernel
theorem dX6_slideAlong_74 : decode cX6_slideAlong 74 = .ok (.goto 7, 3) := by decide +kernel
theorem dX6_slideAlong_77 : decode cX6_slideAlong 77 = .ok (.aload_n 0, 1) := by decide +kernel
theorem dX6_slideAlong_78 : decode cX6_slideAlong 78 = .ok (.getfield 19, 3) := by decide +kernel
theorem dX6_slideAlong_81 : decode cX6_slideAlong 81 = .ok (.putfield 19, 3) := by decide +kernel
theorem dX6_slideAlong_84 : decode cX6_slideAlong 84 = .ok (.aload_n 0, 1) := by decide +kernel
theorem dX6_slideAlong_85 : decode cX6_slideAlong 85 = .ok (.dup, 1) := by decide +kernel
theorem dX6_slideAlong_86 : decode cX6_slideAlong 86 = .ok (.getfield 15, 3) := by decide +kernel
theorem dX6_slideAlong_89 : decode cX6_slideAlong 89 = .ok (.iconst 1, 1) := by decide +kernel
theorem dX6_slideAlong_90 : decode cX6_slideAlong 90 = .ok (.iadd, 1) := by decide +kernel
theorem dX6_slideAlong_91 : decode cX6_slideAlong 91 = .ok (.putfield 15, 3) := by decide +kernel
theorem dX6_slideAlong_94 : decode cX6_slideAlong 94 = .ok (.aload_n 0, 1) := by decide +kernel
theorem dX6_slideAlong_95 : decode cX6_slideAlong 95 = .ok (.getfield 22, 3) := by decide +kernel
theorem dX6_slideAlong_98 : decode cX6_slideAlong 98 = .ok (.iconst (-1), 1) := by decide +kernel
theorem dX6_slideAlong_99 : decode cX6_slideAlong 99 = .ok (.if_icmp .eq 12, 3) := by decide +kernel
theorem dX6_slideAlong_102 : decode cX6_slideAlong 102 = .ok (.iload 9, 2) := by decide +kernel
theorem dX6_slideAlong_104 : decode cX6_slideAlong 104 = .ok (.aload_n 0, 1) := by decide +kernel
theorem dX6_slideAlong_105 : decode cX6_slideAlong 105 = .ok (.getfield 25, 3) := by decide +kernel
theorem dX6_slideAlong_108 : decode cX6_slideAlong 108 = .ok (.if_icmp .ge 15, 3) := by decide +kernel
theorem dX6_slideAlong_111 : decode cX6_slideAlong 111 = .ok (.aload_n 0, 1) := by decide +kernel
theorem dX6_slideAlong_112 : decode cX6_slideAlong 112 = .ok (.iload 8, 2) := by decide +kernel
theorem dX6_slideAlong_114 : decode cX6_slideAlong 114 = .ok (.putfield 22, 3) := by decide +kernel
theorem dX6_slideAlong_117 : decode cX6_slideAlong 117 = .ok (.aload_n 0, 1) := by decide +kernel
theorem dX6_slideAlong_118 : decode cX6_slideAlong 118 = .ok (.iload 9, 2) := by decide +kernel
theorem dX6_slideAlong_120 : decode cX6_slideAlong 120 = .ok (.putfield 25, 3) := by decide +kernel
theorem dX6_slideAlong_123 : decode cX6_slideAlong 123 = .ok (.iinc 8 1, 3) := by decide +kernel
theorem dX6_slideAlong_126 : decode cX6_slideAlong 126 = .ok (.goto (-90), 3) := by decide +kernel
theorem dX6_slideAlong_129 : decode cX6_slideAlong 129 = .ok (.return_, 1) := by decide +kernel
theorem dX6_fewestPlaces_0 : decode cX6_fewestPlaces 0 = .ok (.aload_n 0, 1) := by decide +kernel
theorem dX6_fewestPlaces_1 : decode cX6_fewestPlaces 1 = .ok (.getfield 9, 3) := by decide +kernel
theorem dX6_fewestPlaces_4 : decode cX6_fewestPlaces 4 = .ok (.iconst 0, 1) := by decide +kernel
theorem dX6_fewestPlaces_5 : decode cX6_fewestPlaces 5 = .ok (.invokestatic 37, 3) := by decide +kernel
theorem dX6_fewestPlaces_8 : decode cX6_fewestPlaces 8 = .ok (.iload_n 3, 1) := by decide +kernel
theorem dX6_fewestPlaces_9 : decode cX6_fewestPlaces 9 = .ok (.istore 6, 2) := by decide +kernel
theorem dX6_fewestPlaces_11 : decode cX6_fewestPlaces 11 = .ok (.iload 6, 2) := by decide +kernel
theorem dX6_fewestPlaces_13 : decode cX6_fewestPlaces 13 = .ok (.iload 4, 2) := by decide +kernel
theorem dX6_fewestPlaces_15 : decode cX6_fewestPlaces 15 = .ok (.if_icmp .gt 108, 3) := by decide +kernel
theorem dX6_fewestPlaces_18 : decode cX6_fewestPlaces 18 = .ok (.iload 6, 2) := by decide +kernel
theorem dX6_fewestPlaces_20 : decode cX6_fewestPlaces 20 = .ok (.iload_n 3, 1) := by decide +kernel
theorem dX6_fewestPlaces_21 : decode cX6_fewestPlaces 21 = .ok (.isub, 1) := by decide +kernel
theorem dX6_fewestPlaces_22 : decode cX6_fewestPlaces 22 = .ok (.istore 7, 2) := by decide +kernel
theorem dX6_fewestPlaces_24 : decode cX6_fewestPlaces 24 = .ok (.iconst 0, 1) := by decide +kernel
theorem dX6_fewestPlaces_25 : decode cX6_fewestPlaces 25 = .ok (.istore 8, 2) := by decide +kernel
theorem dX6_fewestPlaces_27 : decode cX6_fewestPlaces 27 = .ok (.iconst 0, 1) := by decide +kernel
theorem dX6_fewestPlaces_28 : decode cX6_fewestPlaces 28 = .ok (.istore 9, 2) := by decide +kernel
theorem dX6_fewestPlaces_30 : decode cX6_fewestPlaces 30 = .ok (.iload 9, 2) := by decide +kernel
theorem dX6_fewestPlaces_32 : decode cX6_fewestPlaces 32 = .ok (.iload 7, 2) := by decide +kernel
theorem dX6_fewestPlaces_34 : decode cX6_fewestPlaces 34 = .ok (.iadd, 1) := by decide +kernel
theorem dX6_fewestPlaces_35 : decode cX6_fewestPlaces 35 = .ok (.aload_n 1, 1) := by decide +kernel
theorem dX6_fewestPlaces_36 : decode cX6_fewestPlaces 36 = .ok (.getfield 28, 3) := by decide +kernel
theorem dX6_fewestPlaces_39 : decode cX6_fewestPlaces 39 = .ok (.if_icmp .ge 67, 3) := by decide +kernel
theorem dX6_fewestPlaces_42 : decode cX6_fewestPlaces 42 = .ok (.aload_n 2, 1) := by decide +kernel
theorem dX6_fewestPlaces_43 : decode cX6_fewestPlaces 43 = .ok (.iload 6, 2) := by decide +kernel
theorem dX6_fewestPlaces_45 : decode cX6_fewestPlaces 45 = .ok (.iaload, 1) := by decide +kernel
theorem dX6_fewestPlaces_46 : decode cX6_fewestPlaces 46 = .ok (.iconst (-1), 1) := by decide +kernel
theorem dX6_fewestPlaces_47 : decode cX6_fewestPlaces 47 = .ok (.if_icmp .eq 31, 3) := by decide +kernel
theorem dX6_fewestPlaces_50 : decode cX6_fewestPlaces 50 = .ok (.aload_n 0, 1) := by decide +kernel
theorem dX6_fewestPlaces_51 : decode cX6_fewestPlaces 51 = .ok (.getfield 9, 3) := by decide +kernel
theorem dX6_fewestPlaces_54 : decode cX6_fewestPlaces 54 = .ok (.iload 9, 2) := by decide +kernel
theorem dX6_fewestPlaces_56 : decode cX6_fewestPlaces 56 = .ok (.dup2, 1) := by decide +kernel
theorem dX6_fewestPlaces_57 : decode cX6_fewestPlaces 57 = .ok (.iaload, 1) := by decide +kernel
theorem dX6_fewestPlaces_58 : decode cX6_fewestPlaces 58 = .ok (.aload_n 2, 1) := by decide +kernel
theorem dX6_fewestPlaces_59 : decode cX6_fewestPlaces 59 = .ok (.iload 6, 2) := by decide +kernel
theorem dX6_fewestPlaces_61 : decode cX6_fewestPlaces 61 = .ok (.iaload, 1) := by decide +kernel
theorem dX6_fewestPlaces_62 : decode cX6_fewestPlaces 62 = .ok (.aload_n 1, 1) := by decide +kernel
theorem dX6_fewestPlaces_63 : decode cX6_fewestPlaces 63 = .ok (.getfield 43, 3) := by decide +kernel
theorem dX6_fewestPlaces_66 : decode cX6_fewestPlaces 66 = .ok (.iload 9, 2) := by decide +kernel
theorem dX6_fewestPlaces_68 : decode cX6_fewestPlaces 68 = .ok (.iload 7, 2) := by decide +kernel
theorem dX6_fewestPlaces_70 : decode cX6_fewestPlaces 70 = .ok (.iadd, 1) := by decide +kernel
theorem dX6_fewestPlaces_71 : decode cX6_fewestPlaces 71 = .ok (.iaload, 1) := by decide +kernel
theorem dX6_fewestPlaces_72 : decode cX6_fewestPlaces 72 = .ok (.isub, 1) := by decide +kernel
theorem dX6_fewestPlaces_73 : decode cX6_fewestPlaces 73 = .ok (.invokestatic 46, 3) := by decide +kernel
theorem dX6_fewestPlaces_76 : decode cX6_fewestPlaces 76 = .ok (.iadd, 1) := by decide +kernel
theorem dX6_fewestPlaces_77 : decode cX6_fewestPlaces 77 = .ok (.iastore, 1) := by decide +kernel
theorem dX6_fewestPlaces_78 : decode cX6_fewestPlaces 78 = .ok (.iload 8, 2) := by decide +kernel
theorem dX6_fewestPlaces_80 : decode cX6_fewestPlaces 80 = .ok (.aload_n 0, 1) := by decide +kernel
theorem dX6_fewestPlaces_81 : decode cX6_fewestPlaces 81 = .ok (.getfield 9, 3) := by decide +kernel
theorem dX6_fewestPlaces_84 : decode cX6_fewestPlaces 84 = .ok (.iload 9, 2) := by decide +kernel
theorem dX6_fewestPlaces_86 : decode cX6_fewestPlaces 86 = .ok (.iaload, 1) := by decide +kernel
theorem dX6_fewestPlaces_87 : decode cX6_fewestPlaces 87 = .ok (.iload 5, 2) := by decide +kernel
theorem dX6_fewestPlaces_89 : decode cX6_fewestPlaces 89 = .ok (.if_icmp .gt 7, 3) := by decide +kernel
theorem dX6_fewestPlaces_92 : decode cX6_fewestPlaces 92 = .ok (.iconst 1, 1) := by decide +kernel
theorem dX6_fewestPlaces_93 : decode cX6_fewestPlaces 93 = .ok (.goto 4, 3) := by decide +kernel
theorem dX6_fewestPlaces_96 : decode cX6_fewestPlaces 96 = .ok (.iconst 0, 1) := by decide +kernel
theorem dX6_fewestPlaces_97 : decode cX6_fewestPlaces 97 = .ok (.iadd, 1) := by decide +kernel
theorem dX6_fewestPlaces_98 : decode cX6_fewestPlaces 98 = .ok (.istore 8, 2) := by decide +kernel
theorem dX6_fewestPlaces_100 : decode cX6_fewestPlaces 100 = .ok (.iinc 9 1, 3) := by decide +kernel
theorem dX6_fewestPlaces_103 : decode cX6_fewestPlaces 103 = .ok (.goto (-73), 3) := by decide +kernel
theorem dX6_fewestPlaces_106 : decode cX6_fewestPlaces 106 = .ok (.iload 8, 2) := by decide +kernel
theorem dX6_fewestPlaces_108 : decode cX6_fewestPlaces 108 = .ok (.iconst 1, 1) := by decide +kernel
theorem dX6_fewestPlaces_109 : decode cX6_fewestPlaces 109 = .ok (.if_icmp .ne 8, 3) := by decide +kernel
theorem dX6_fewestPlaces_112 : decode cX6_fewestPlaces 112 = .ok (.iload 7, 2) := by decide +kernel
theorem dX6_fewestPlaces_114 : decode cX6_fewestPlaces 114 = .ok (.iconst 1, 1) := by decide +kernel
theorem dX6_fewestPlaces_115 : decode cX6_fewestPlaces 115 = .ok (.iadd, 1) := by decide +kernel
theorem dX6_fewestPlaces_116 : decode cX6_fewestPlaces 116 = .ok (.ireturn, 1) := by decide +kernel
theorem dX6_fewestPlaces_117 : decode cX6_fewestPlaces 117 = .ok (.iinc 6 1, 3) := by decide +kernel
theorem dX6_fewestPlaces_120 : decode cX6_fewestPlaces 120 = .ok (.goto (-109), 3) := by decide +kernel
theorem dX6_fewestPlaces_123 : decode cX6_fewestPlaces 123 = .ok (.iconst (-1), 1) := by decide +kernel
theorem dX6_fewestPlaces_124 : decode cX6_fewestPlaces 124 = .ok (.ireturn, 1) := by decide +kernel
theorem dX7_init_0 : decode cX7_init 0 = .ok (.aload_n 0, 1) := by decide +kernel
theorem dX7_init_1 : decode cX7_init 1 = .ok (.invokespecial 3, 3) := by decide +kernel
theorem dX7_init_4 : decode cX7_init 4 = .ok (.aload_n 0, 1) := by decide +kernel
theorem dX7_init_5 : decode cX7_init 5 = .ok (.bipush 40, 2) := by decide +kernel
theorem dX7_init_7 : decode cX7_init 7 = .ok (.newarray .int, 2) := by decide +kernel
theorem dX7_init_9 : decode cX7_init 9 = .ok (.putfield 9, 3) := by decide +kernel
theorem dX7_init_12 : decode cX7_init 12 = .ok (.aload_n 0, 1) := by decide +kernel
theorem dX7_init_13 : decode cX7_init 13 = .ok (.bipush 40, 2) := by decide +kernel
theorem dX7_init_15 : decode cX7_init 15 = .ok (.newarray .int, 2) := by decide +kernel
theorem dX7_init_17 : decode cX7_init 17 = .ok (.putfield 15, 3) := by decide +kernel
theorem dX7_init_20 : decode cX7_init 20 = .ok (.aload_n 0, 1) := by decide +kernel
theorem dX7_init_21 : decode cX7_init 21 = .ok (.bipush 40, 2) := by decide +kernel
theorem dX7_init_23 : decode cX7_init 23 = .ok (.newarray .int, 2) := by decide +kernel
theorem dX7_init_25 : decode cX7_init 25 = .ok (.putfield 18, 3) := by decide +kernel
theorem dX7_init_28 : decode cX7_init 28 = .ok (.return_, 1) := by decide +kernel
theorem dX7_add_0 : decode cX7_add 0 = .ok (.aload_n 0, 1) := by decide +kernel
theorem dX7_add_1 : decode cX7_add 1 = .ok (.getfield 21, 3) := by decide +kernel
theorem dX7_add_4 : decode cX7_add 4 = .ok (.bipush 40, 2) := by decide +kernel
theorem dX7_add_6 : decode cX7_add 6 = .ok (.if_icmp .ge 43, 3) := by decide +kernel
theorem dX7_add_9 : decode cX7_add 9 = .ok (.aload_n 0, 1) := by decide +kernel
theorem dX7_add_10 : decode cX7_add 10 = .ok (.getfield 9, 3) := by decide +kernel
theorem dX7_add_13 : decode cX7_add 13 = .ok (.aload_n 0, 1) := by decide +kernel
theorem dX7_add_14 : decode cX7_add 14 = .ok (.getfield 21, 3) := by decide +kernel
theorem dX7_add_17 : decode cX7_add 17 = .ok (.iload_n 1, 1) := by decide +kernel
theorem dX7_add_18 : decode cX7_add 18 = .ok (.iastore, 1) := by decide +kernel
theorem dX7_add_19 : decode cX7_add 19 = .ok (.aload_n 0, 1) := by decide +kernel
theorem dX7_add_20 : decode cX7_add 20 = .ok (.getfield 15, 3) := by decide +kernel
theorem dX7_add_23 : decode cX7_add 23 = .ok (.aload_n 0, 1) := by decide +kernel
theorem dX7_add_24 : decode cX7_add 24 = .ok (.getfield 21, 3) := by decide +kernel
theorem dX7_add_27 : decode cX7_add 27 = .ok (.iload_n 2, 1) := by decide +kernel
theorem dX7_add_28 : decode cX7_add 28 = .ok (.iastore, 1) := by decide +kernel
theorem dX7_add_29 : decode cX7_add 29 = .ok (.aload_n 0, 1) := by decide +kernel
theorem dX7_add_30 : decode cX7_add 30 = .ok (.getfield 18, 3) := by decide +kernel
theorem dX7_add_33 : decode cX7_add 33 = .ok (.aload_n 0, 1) := by decide +kernel
theorem dX7_add_34 : decode cX7_add 34 = .ok (.getfield 21, 3) := by decide +kernel
theorem dX7_add_37 : decode cX7_add 37 = .ok (.iload_n 3, 1) := by decide +kernel
theorem dX7_add_38 : decode cX7_add 38 = .ok (.iastore, 1) := by decide +kernel
theorem dX7_add_39 : decode cX7_add 39 = .ok (.aload_n 0, 1) := by decide +kernel
theorem dX7_add_40 : decode cX7_add 40 = .ok (.dup, 1) := by decide +kernel
theorem dX7_add_41 : decode cX7_add 41 = .ok (.getfield 21, 3) := by decide +kernel
theorem dX7_add_44 : decode cX7_add 44 = .ok (.iconst 1, 1) := by decide +kernel
theorem dX7_add_45 : decode cX7_add 45 = .ok (.iadd, 1) := by decide +kernel
theorem dX7_add_46 : decode cX7_add 46 = .ok (.putfield 21, 3) := by decide +kernel
theorem dX7_add_49 : decode cX7_add 49 = .ok (.return_, 1) := by decide +kernel
theorem dX8_init_0 : decode cX8_init 0 = .ok (.aload_n 0, 1) := by decide +kernel
theorem dX8_init_1 : decode cX8_init 1 = .ok (.invokespecial 3, 3) := by decide +kernel
theorem dX8_init_4 : decode cX8_init 4 = .ok (.aload_n 0, 1) := by decide +kernel
theorem dX8_init_5 : decode cX8_init 5 = .ok (.bipush 40, 2) := by decide +kernel
theorem dX8_init_7 : decode cX8_init 7 = .ok (.newarray .int, 2) := by decide +kernel
theorem dX8_init_9 : decode cX8_init 9 = .ok (.putfield 9, 3) := by decide +kernel
theorem dX8_init_12 : decode cX8_init 12 = .ok (.aload_n 0, 1) := by decide +kernel
theorem dX8_init_13 : decode cX8_init 13 = .ok (.bipush 40, 2) := by decide +kernel
theorem dX8_init_15 : decode cX8_init 15 = .ok (.bipush 40, 2) := by decide +kernel
theorem dX8_init_17 : decode cX8_init 17 = .ok (.multianewarray 15 2, 4) := by decide +kernel
theorem dX8_init_21 : decode cX8_init 21 = .ok (.putfield 17, 3) := by decide +kernel
theorem dX8_init_24 : decode cX8_init 24 = .ok (.return_, 1) := by decide +kernel
theorem dX8_fewest_0 : decode cX8_fewest 0 = .ok (.iconst 0, 1) := by decide +kernel
theorem dX8_fewest_1 : decode cX8_fewest 1 = .ok (.istore 4, 2) := by decide +kernel
theorem dX8_fewest_3 : decode cX8_fewest 3 = .ok (.iload 4, 2) := by decide +kernel
theorem dX8_fewest_5 : decode cX8_fewest 5 = .ok (.iload_n 3, 1) := by decide +kernel
theorem dX8_fewest_6 : decode cX8_fewest 6 = .ok (.if_icmp .ge 54, 3) := by decide +kernel
theorem dX8_fewest_9 : decode cX8_fewest 9 = .ok (.aload_n 1, 1) := by decide +kernel
theorem dX8_fewest_10 : decode cX8_fewest 10 = .ok (.getfield 20, 3) := by decide +kernel
theorem dX8_fewest_13 : decode cX8_fewest 13 = .ok (.iconst 0, 1) := by decide +kernel
theorem dX8_fewest_14 : decode cX8_fewest 14 = .ok (.aaload, 1) := by decide +kernel
theorem dX8_fewest_15 : decode cX8_fewest 15 = .ok (.iload_n 2, 1) := by decide +kernel
theorem dX8_fewest_16 : decode cX8_fewest 16 = .ok (.iload 4, 2) := by decide +kernel
theorem dX8_fewest_18 : decode cX8_fewest 18 = .ok (.iadd, 1) := by decide +kernel
theorem dX8_fewest_19 : decode cX8_fewest 19 = .ok (.iaload, 1) := by decide +kernel
theorem dX8_fewest_20 : decode cX8_fewest 20 = .ok (.ifCond .ne 7, 3) := by decide +kernel
theorem dX8_fewest_23 : decode cX8_fewest 23 = .ok (.iconst 0, 1) := by decide +kernel
theorem dX8_fewest_24 : decode cX8_fewest 24 = .ok (.goto 4, 3) := by decide +kernel
theorem dX8_fewest_27 : decode cX8_fewest 27 = .ok (.iconst 1, 1) := by decide +kernel
theorem dX8_fewest_28 : decode cX8_fewest 28 = .ok (.istore 5, 2) := by decide +kernel
theorem dX8_fewest_30 : decode cX8_fewest 30 = .ok (.aload_n 0, 1) := by decide +kernel
theorem dX8_fewest_31 : decode cX8_fewest 31 = .ok (.getfield 9, 3) := by decide +kernel
theorem dX8_fewest_34 : decode cX8_fewest 34 = .ok (.iload 4, 2) := by decide +kernel
theorem dX8_fewest_36 : decode cX8_fewest 36 = .ok (.iconst 2, 1) := by decide +kernel
theorem dX8_fewest_37 : decode cX8_fewest 37 = .ok (.aload_n 1, 1) := by decide +kernel
theorem dX8_fewest_38 : decode cX8_fewest 38 = .ok (.getfield 20, 3) := by decide +kernel
theorem dX8_fewest_41 : decode cX8_fewest 41 = .ok (.bipush 7, 2) := by decide +kernel
theorem dX8_fewest_43 : decode cX8_fewest 43 = .ok (.aaload, 1) := by decide +kernel
theorem dX8_fewest_44 : decode cX8_fewest 44 = .ok (.iload_n 2, 1) := by decide +kernel
theorem dX8_fewest_45 : decode cX8_fewest 45 = .ok (.iload 4, 2) := by decide +kernel
theorem dX8_fewest_47 : decode cX8_fewest 47 = .ok (.iadd, 1) := by decide +kernel
theorem dX8_fewest_48 : decode cX8_fewest 48 = .ok (.iaload, 1) := by decide +kernel
theorem dX8_fewest_49 : decode cX8_fewest 49 = .ok (.imul, 1) := by decide +kernel
theorem dX8_fewest_50 : decode cX8_fewest 50 = .ok (.iload 5, 2) := by decide +kernel
theorem dX8_fewest_52 : decode cX8_fewest 52 = .ok (.iadd, 1) := by decide +kernel
theorem dX8_fewest_53 : decode cX8_fewest 53 = .ok (.iastore, 1) := by decide +kernel
theorem dX8_fewest_54 : decode cX8_fewest 54 = .ok (.iinc 4 1, 3) := by decide +kernel
theorem dX8_fewest_57 : decode cX8_fewest 57 = .ok (.goto (-54), 3) := by decide +kernel
theorem dX8_fewest_60 : decode cX8_fewest 60 = .ok (.iload_n 3, 1) := by decide +kernel
theorem dX8_fewest_61 : decode cX8_fewest 61 = .ok (.iconst 1, 1) := by decide +kernel
theorem dX8_fewest_62 : decode cX8_fewest 62 = .ok (.isub, 1) := by decide +kernel
theorem dX8_fewest_63 : decode cX8_fewest 63 = .ok (.istore 4, 2) := by decide +kernel
theorem dX8_fewest_65 : decode cX8_fewest 65 = .ok (.iload 4, 2) := by decide +kernel
theorem dX8_fewest_67 : decode cX8_fewest 67 = .ok (.ifCond .lt 43, 3) := by decide +kernel
theorem dX8_fewest_70 : decode cX8_fewest 70 = .ok (.iload 4, 2) := by decide +kernel
theorem dX8_fewest_72 : decode cX8_fewest 72 = .ok (.istore 5, 2) := by decide +kernel
theorem dX8_fewest_74 : decode cX8_fewest 74 = .ok (.iload 5, 2) := by decide +kernel
theorem dX8_fewest_76 : decode cX8_fewest 76 = .ok (.iload_n 3, 1) := by decide +kernel
theorem dX8_fewest_77 : decode cX8_fewest 77 = .ok (.if_icmp .ge 27, 3) := by decide +kernel
theorem dX8_fewest_80 : decode cX8_fewest 80 = .ok (.aload_n 0, 1) := by decide +kernel
theorem dX8_fewest_81 : decode cX8_fewest 81 = .ok (.getfield 17, 3) := by decide +kernel
theorem dX8_fewest_84 : decode cX8_fewest 84 = .ok (.iload 4, 2) := by decide +kernel
theorem dX8_fewest_86 : decode cX8_fewest 86 = .ok (.aaload, 1) := by decide +kernel
theorem dX8_fewest_87 : decode cX8_fewest 87 = .ok (.iload 5, 2) := by decide +kernel
theorem dX8_fewest_89 : decode cX8_fewest 89 = .ok (.aload_n 0, 1) := by decide +kernel
theorem dX8_fewest_90 : decode cX8_fewest 90 = .ok (.iload 4, 2) := by decide +kernel
theorem dX8_fewest_92 : decode cX8_fewest 92 = .ok (.iload 5, 2) := by decide +kernel
theorem dX8_fewest_94 : decode cX8_fewest 94 = .ok (.invokevirtual 25, 3) := by decide +kernel
theorem dX8_fewest_97 : decode cX8_fewest 97 = .ok (.iastore, 1) := by decide +kernel
theorem dX8_fewest_98 : decode cX8_fewest 98 = .ok (.iinc 5 1, 3) := by decide +kernel
theorem dX8_fewest_101 : decode cX8_fewest 101 = .ok (.goto (-27), 3) := by decide +kernel
theorem dX8_fewest_104 : decode cX8_fewest 104 = .ok (.iinc 4 (-1), 3) := by decide +kernel
theorem dX8_fewest_107 : decode cX8_fewest 107 = .ok (.goto (-42), 3) := by decide +kernel
theorem dX8_fewest_110 : decode cX8_fewest 110 = .ok (.aload_n 0, 1) := by decide +kernel
theorem dX8_fewest_111 : decode cX8_fewest 111 = .ok (.getfield 17, 3) := by decide +kernel
theorem dX8_fewest_114 : decode cX8_fewest 114 = .ok (.iconst 0, 1) := by decide +kernel
theorem dX8_fewest_115 : decode cX8_fewest 115 = .ok (.aaload, 1) := by decide +kernel
theorem dX8_fewest_116 : decode cX8_fewest 116 = .ok (.iload_n 3, 1) := by decide +kernel
theorem dX8_fewest_117 : decode cX8_fewest 117 = .ok (.iconst 1, 1) := by decide +kernel
theorem dX8_fewest_118 : decode cX8_fewest 118 = .ok (.isub, 1) := by decide +kernel
theorem dX8_fewest_119 : decode cX8_fewest 119 = .ok (.iaload, 1) := by decide +kernel
theorem dX8_fewest_120 : decode cX8_fewest 120 = .ok (.ireturn, 1) := by decide +kernel
theorem dX8_fewestOf_0 : decode cX8_fewestOf 0 = .ok (.iconst 1, 1) := by decide +kernel
theorem dX8_fewestOf_1 : decode cX8_fewestOf 1 = .ok (.aload_n 0, 1) := by decide +kernel
theorem dX8_fewestOf_2 : decode cX8_fewestOf 2 = .ok (.iload_n 1, 1) := by decide +kernel
theorem dX8_fewestOf_3 : decode cX8_fewestOf 3 = .ok (.iconst 1, 1) := by decide +kernel
theorem dX8_fewestOf_4 : decode cX8_fewestOf 4 = .ok (.iadd, 1) := by decide +kernel
theorem dX8_fewestOf_5 : decode cX8_fewestOf 5 = .ok (.iload_n 2, 1) := by decide +kernel
theorem dX8_fewestOf_6 : decode cX8_fewestOf 6 = .ok (.invokevirtual 29, 3) := by decide +kernel
theorem dX8_fewestOf_9 : decode cX8_fewestOf 9 = .ok (.iadd, 1) := by decide +kernel
theorem dX8_fewestOf_10 : decode cX8_fewestOf 10 = .ok (.istore_n 3, 1) := by decide +kernel
theorem dX8_fewestOf_11 : decode cX8_fewestOf 11 = .ok (.iload_n 1, 1) := by decide +kernel
theorem dX8_fewestOf_12 : decode cX8_fewestOf 12 = .ok (.iconst 1, 1) := by decide +kernel
theorem dX8_fewestOf_13 : decode cX8_fewestOf 13 = .ok (.iadd, 1) := by decide +kernel
theorem dX8_fewestOf_14 : decode cX8_fewestOf 14 = .ok (.istore 4, 2) := by decide +kernel
theorem dX8_fewestOf_16 : decode cX8_fewestOf 16 = .ok (.iload 4, 2) := by decide +kernel
theorem dX8_fewestOf_18 : decode cX8_fewestOf 18 = .ok (.iload_n 2, 1) := by decide +kernel
theorem dX8_fewestOf_19 : decode cX8_fewestOf 19 = .ok (.if_icmp .gt 51, 3) := by decide +kernel
theorem dX8_fewestOf_22 : decode cX8_fewestOf 22 = .ok (.aload_n 0, 1) := by decide +kernel
theorem dX8_fewestOf_23 : decode cX8_fewestOf 23 = .ok (.getfield 9, 3) := by decide +kernel
theorem dX8_fewestOf_26 : decode cX8_fewestOf 26 = .ok (.iload 4, 2) := by decide +kernel
theorem dX8_fewestOf_28 : decode cX8_fewestOf 28 = .ok (.iaload, 1) := by decide +kernel
theorem dX8_fewestOf_29 : decode cX8_fewestOf 29 = .ok (.aload_n 0, 1) := by decide +kernel
theorem dX8_fewestOf_30 : decode cX8_fewestOf 30 = .ok (.getfield 9, 3) := by decide +kernel
theorem dX8_fewestOf_33 : decode cX8_fewestOf 33 = .ok (.iload_n 1, 1) := by decide +kernel
theorem dX8_fewestOf_34 : decode cX8_fewestOf 34 = .ok (.iaload, 1) := by decide +kernel
theorem dX8_fewestOf_35 : decode cX8_fewestOf 35 = .ok (.if_icmp .ne 29, 3) := by decide +kernel
theorem dX8_fewestOf_38 : decode cX8_fewestOf 38 = .ok (.iload_n 3, 1) := by decide +kernel
theorem dX8_fewestOf_39 : decode cX8_fewestOf 39 = .ok (.aload_n 0, 1) := by decide +kernel
theorem dX8_fewestOf_40 : decode cX8_fewestOf 40 = .ok (.iload_n 1, 1) := by decide +kernel
theorem dX8_fewestOf_41 : decode cX8_fewestOf 41 = .ok (.iconst 1, 1) := by decide +kernel
theorem dX8_fewestOf_42 : decode cX8_fewestOf 42 = .ok (.iadd, 1) := by decide +kernel
theorem dX8_fewestOf_43 : decode cX8_fewestOf 43 = .ok (.iload 4, 2) := by decide +kernel
theorem dX8_fewestOf_45 : decode cX8_fewestOf 45 = .ok (.iconst 1, 1) := by decide +kernel
theorem dX8_fewestOf_46 : decode cX8_fewestOf 46 = .ok (.isub, 1) := by decide +kernel
theorem dX8_fewestOf_47 : decode cX8_fewestOf 47 = .ok (.invokevirtual 29, 3) := by decide +kernel
theorem dX8_fewestOf_50 : decode cX8_fewestOf 50 = .ok (.aload_n 0, 1) := by decide +kernel
theorem dX8_fewestOf_51 : decode cX8_fewestOf 51 = .ok (.getfield 17, 3) := by decide +kernel
theorem dX8_fewestOf_54 : decode cX8_fewestOf 54 = .ok (.iload 4, 2) := by decide +kernel
theorem dX8_fewestOf_56 : decode cX8_fewestOf 56 = .ok (.aaload, 1) := by decide +kernel
theorem dX8_fewestOf_57 : decode cX8_fewestOf 57 = .ok (.iload_n 2, 1) := by decide +kernel
theorem dX8_fewestOf_58 : decode cX8_fewestOf 58 = .ok (.iaload, 1) := by decide +kernel
theorem dX8_fewestOf_59 : decode cX8_fewestOf 59 = .ok (.iadd, 1) := by decide +kernel
theorem dX8_fewestOf_60 : decode cX8_fewestOf 60 = .ok (.invokestatic 32, 3) := by decide +kernel
theorem dX8_fewestOf_63 : decode cX8_fewestOf 63 = .ok (.istore_n 3, 1) := by decide +kernel
theorem dX8_fewestOf_64 : decode cX8_fewestOf 64 = .ok (.iinc 4 1, 3) := by decide +kernel
theorem dX8_fewestOf_67 : decode cX8_fewestOf 67 = .ok (.goto (-51), 3) := by decide +kernel
theorem dX8_fewestOf_70 : decode cX8_fewestOf 70 = .ok (.iload_n 3, 1) := by decide +kernel
theorem dX8_fewestOf_71 : decode cX8_fewestOf 71 = .ok (.ireturn, 1) := by decide +kernel
theorem dX8_between_0 : decode cX8_between 0 = .ok (.iload_n 1, 1) := by decide +kernel
theorem dX8_between_1 : decode cX8_between 1 = .ok (.iload_n 2, 1) := by decide +kernel
theorem dX8_between_2 : decode cX8_between 2 = .ok (.if_icmp .le 7, 3) := by decide +kernel
theorem dX8_between_5 : decode cX8_between 5 = .ok (.iconst 0, 1) := by decide +kernel
theorem dX8_between_6 : decode cX8_between 6 = .ok (.goto 11, 3) := by decide +kernel
theorem dX8_between_9 : decode cX8_between 9 = .ok (.aload_n 0, 1) := by decide +kernel
theorem dX8_between_10 : decode cX8_between 10 = .ok (.getfield 17, 3) := by decide +kernel
theorem dX8_between_13 : decode cX8_between 13 = .ok (.iload_n 1, 1) := by decide +kernel
theorem dX8_between_14 : decode cX8_between 14 = .ok (.aaload, 1) := by decide +kernel
theorem dX8_between_15 : decode cX8_between 15 = .ok (.iload_n 2, 1) := by decide +kernel
theorem dX8_between_16 : decode cX8_between 16 = .ok (.iaload, 1) := by decide +kernel
theorem dX8_between_17 : decode cX8_between 17 = .ok (.ireturn, 1) := by decide +kernel
theorem dJ9_abs_0f7a4_0 : decode cJ9_abs_0f7a4 0 = .ok (.iload_n 0, 1) := by decide +kernel
theorem dJ9_abs_0f7a4_1 : decode cJ9_abs_0f7a4 1 = .ok (.ifCond .ge 8, 3) := by decide +kernel
theorem dJ9_abs_0f7a4_4 : decode cJ9_abs_0f7a4 4 = .ok (.iload_n 0, 1) := by decide +kernel
theorem dJ9_abs_0f7a4_5 : decode cJ9_abs_0f7a4 5 = .ok (.ineg, 1) := by decide +kernel
theorem dJ9_abs_0f7a4_6 : decode cJ9_abs_0f7a4 6 = .ok (.goto 4, 3) := by decide +kernel
theorem dJ9_abs_0f7a4_9 : decode cJ9_abs_0f7a4 9 = .ok (.iload_n 0, 1) := by decide +kernel
theorem dJ9_abs_0f7a4_10 : decode cJ9_abs_0f7a4 10 = .ok (.ireturn, 1) := by decide +kernel
theorem dJ9_max_7cf53_0 : decode cJ9_max_7cf53 0 = .ok (.iload_n 0, 1) := by decide +kernel
theorem dJ9_max_7cf53_1 : decode cJ9_max_7cf53 1 = .ok (.iload_n 1, 1) := by decide +kernel
theorem dJ9_max_7cf53_2 : decode cJ9_max_7cf53 2 = .ok (.if_icmp .lt 7, 3) := by decide +kernel
theorem dJ9_max_7cf53_5 : decode cJ9_max_7cf53 5 = .ok (.iload_n 0, 1) := by decide +kernel
theorem dJ9_max_7cf53_6 : decode cJ9_max_7cf53 6 = .ok (.goto 4, 3) := by decide +kernel
theorem dJ9_max_7cf53_9 : decode cJ9_max_7cf53 9 = .ok (.iload_n 1, 1) := by decide +kernel
theorem dJ9_max_7cf53_10 : decode cJ9_max_7cf53 10 = .ok (.ireturn, 1) := by decide +kernel
theorem dJ9_min_7cf53_0 : decode cJ9_min_7cf53 0 = .ok (.iload_n 0, 1) := by decide +kernel
theorem dJ9_min_7cf53_1 : decode cJ9_min_7cf53 1 = .ok (.iload_n 1, 1) := by decide +kernel
theorem dJ9_min_7cf53_2 : decode cJ9_min_7cf53 2 = .ok (.if_icmp .gt 7, 3) := by decide +kernel
theorem dJ9_min_7cf53_5 : decode cJ9_min_7cf53 5 = .ok (.iload_n 0, 1) := by decide +kernel
theorem dJ9_min_7cf53_6 : decode cJ9_min_7cf53 6 = .ok (.goto 4, 3) := by decide +kernel
theorem dJ9_min_7cf53_9 : decode cJ9_min_7cf53 9 = .ok (.iload_n 1, 1) := by decide +kernel
theorem dJ9_min_7cf53_10 : decode cJ9_min_7cf53 10 = .ok (.ireturn, 1) := by decide +kernel
theorem dJ0_length_8abf5_0 : decode cJ0_length_8abf5 0 = .ok (.aload_n 0, 1) := by decide +kernel
theorem dJ0_length_8abf5_1 : decode cJ0_length_8abf5 1 = .ok (.getfield 9, 3) := by decide +kernel
theorem dJ0_length_8abf5_4 : decode cJ0_length_8abf5 4 = .ok (.arraylength, 1) := by decide +kernel
theorem dJ0_length_8abf5_5 : decode cJ0_length_8abf5 5 = .ok (.aload_n 0, 1) := by decide +kernel
theorem dJ0_length_8abf5_6 : decode cJ0_length_8abf5 6 = .ok (.invokevirtual 335, 3) := by decide +kernel
theorem dJ0_length_8abf5_9 : decode cJ0_length_8abf5 9 = .ok (.ishr, 1) := by decide +kernel
theorem dJ0_length_8abf5_10 : decode cJ0_length_8abf5 10 = .ok (.ireturn, 1) := by decide +kernel
theorem dJ0_charAt_5068e_0 : decode cJ0_charAt_5068e 0 = .ok (.aload_n 0, 1) := by decide +kernel
theorem dJ0_charAt_5068e_1 : decode cJ0_charAt_5068e 1 = .ok (.invokevirtual 492, 3) := by decide +kernel
theorem dJ0_charAt_5068e_4 : decode cJ0_charAt_5068e 4 = .ok (.ifCond .eq 12, 3) := by decide +kernel
theorem dJ0_charAt_5068e_7 : decode cJ0_charAt_5068e 7 = .ok (.aload_n 0, 1) := by decide +kernel
theorem dJ0_charAt_5068e_8 : decode cJ0_charAt_5068e 8 = .ok (.getfield 9, 3) := by decide +kernel
theorem dJ0_charAt_5068e_11 : decode cJ0_charAt_5068e 11 = .ok (.iload_n 1, 1) := by decide +kernel
theorem dJ0_charAt_5068e_12 : decode cJ0_charAt_5068e 12 = .ok (.invokestatic 495, 3) := by decide +kernel
theorem dJ0_charAt_5068e_15 : decode cJ0_charAt_5068e 15 = .ok (.ireturn, 1) := by decide +kernel
theorem dJ0_charAt_5068e_16 : decode cJ0_charAt_5068e 16 = .ok (.aload_n 0, 1) := by decide +kernel
theorem dJ0_charAt_5068e_17 : decode cJ0_charAt_5068e 17 = .ok (.getfield 9, 3) := by decide +kernel
theorem dJ0_charAt_5068e_20 : decode cJ0_charAt_5068e 20 = .ok (.iload_n 1, 1) := by decide +kernel
theorem dJ0_charAt_5068e_21 : decode cJ0_charAt_5068e 21 = .ok (.invokestatic 498, 3) := by decide +kernel
theorem dJ0_charAt_5068e_24 : decode cJ0_charAt_5068e 24 = .ok (.ireturn, 1) := by decide +kernel
theorem dJ0_coder_7d493_0 : decode cJ0_coder_7d493 0 = .ok (.getstatic 38, 3) := by decide +kernel
theorem dJ0_coder_7d493_3 : decode cJ0_coder_7d493 3 = .ok (.ifCond .eq 10, 3) := by decide +kernel
theorem dJ0_coder_7d493_6 : decode cJ0_coder_7d493 6 = .ok (.aload_n 0, 1) := by decide +kernel
theorem dJ0_coder_7d493_7 : decode cJ0_coder_7d493 7 = .ok (.getfield 15, 3) := by decide +kernel
theorem dJ0_coder_7d493_10 : decode cJ0_coder_7d493 10 = .ok (.goto 4, 3) := by decide +kernel
theorem dJ0_coder_7d493_13 : decode cJ0_coder_7d493 13 = .ok (.iconst 1, 1) := by decide +kernel
theorem dJ0_coder_7d493_14 : decode cJ0_coder_7d493 14 = .ok (.ireturn, 1) := by decide +kernel
