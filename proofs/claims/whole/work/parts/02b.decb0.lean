theorem dX4_init_0 : decode cX4_init 0 = .ok (.aload_n 0, 1) := by decide +kernel
theorem dX4_init_1 : decode cX4_init 1 = .ok (.invokespecial 3, 3) := by decide +kernel
theorem dX4_init_4 : decode cX4_init 4 = .ok (.aload_n 0, 1) := by decide +kernel
theorem dX4_init_5 : decode cX4_init 5 = .ok (.new 9, 3) := by decide +kernel
theorem dX4_init_8 : decode cX4_init 8 = .ok (.dup, 1) := by decide +kernel
theorem dX4_init_9 : decode cX4_init 9 = .ok (.invokespecial 11, 3) := by decide +kernel
theorem dX4_init_12 : decode cX4_init 12 = .ok (.putfield 12, 3) := by decide +kernel
theorem dX4_init_15 : decode cX4_init 15 = .ok (.aload_n 0, 1) := by decide +kernel
theorem dX4_init_16 : decode cX4_init 16 = .ok (.bipush 64, 2) := by decide +kernel
theorem dX4_init_18 : decode cX4_init 18 = .ok (.newarray .int, 2) := by decide +kernel
theorem dX4_init_20 : decode cX4_init 20 = .ok (.putfield 18, 3) := by decide +kernel
theorem dX4_init_23 : decode cX4_init 23 = .ok (.aload_n 0, 1) := by decide +kernel
theorem dX4_init_24 : decode cX4_init 24 = .ok (.iconst (-1), 1) := by decide +kernel
theorem dX4_init_25 : decode cX4_init 25 = .ok (.putfield 22, 3) := by decide +kernel
theorem dX4_init_28 : decode cX4_init 28 = .ok (.return_, 1) := by decide +kernel
theorem dX4_refuse_0 : decode cX4_refuse 0 = .ok (.aload_n 0, 1) := by decide +kernel
theorem dX4_refuse_1 : decode cX4_refuse 1 = .ok (.iload_n 1, 1) := by decide +kernel
theorem dX4_refuse_2 : decode cX4_refuse 2 = .ok (.putfield 26, 3) := by decide +kernel
theorem dX4_refuse_5 : decode cX4_refuse 5 = .ok (.aload_n 0, 1) := by decide +kernel
theorem dX4_refuse_6 : decode cX4_refuse 6 = .ok (.aload_n 0, 1) := by decide +kernel
theorem dX4_refuse_7 : decode cX4_refuse 7 = .ok (.getfield 12, 3) := by decide +kernel
theorem dX4_refuse_10 : decode cX4_refuse 10 = .ok (.getfield 29, 3) := by decide +kernel
theorem dX4_refuse_13 : decode cX4_refuse 13 = .ok (.aload_n 0, 1) := by decide +kernel
theorem dX4_refuse_14 : decode cX4_refuse 14 = .ok (.getfield 12, 3) := by decide +kernel
theorem dX4_refuse_17 : decode cX4_refuse 17 = .ok (.getfield 32, 3) := by decide +kernel
theorem dX4_refuse_20 : decode cX4_refuse 20 = .ok (.iaload, 1) := by decide +kernel
theorem dX4_refuse_21 : decode cX4_refuse 21 = .ok (.putfield 22, 3) := by decide +kernel
theorem dX4_refuse_24 : decode cX4_refuse 24 = .ok (.iconst 0, 1) := by decide +kernel
theorem dX4_refuse_25 : decode cX4_refuse 25 = .ok (.ireturn, 1) := by decide +kernel
theorem dX4_hasFault_0 : decode cX4_hasFault 0 = .ok (.aload_n 0, 1) := by decide +kernel
theorem dX4_hasFault_1 : decode cX4_hasFault 1 = .ok (.getfield 26, 3) := by decide +kernel
theorem dX4_hasFault_4 : decode cX4_hasFault 4 = .ok (.ifCond .eq 7, 3) := by decide +kernel
theorem dX4_hasFault_7 : decode cX4_hasFault 7 = .ok (.iconst 1, 1) := by decide +kernel
theorem dX4_hasFault_8 : decode cX4_hasFault 8 = .ok (.goto 4, 3) := by decide +kernel
theorem dX4_hasFault_11 : decode cX4_hasFault 11 = .ok (.iconst 0, 1) := by decide +kernel
theorem dX4_hasFault_12 : decode cX4_hasFault 12 = .ok (.ireturn, 1) := by decide +kernel
theorem dX4_readMachine_0 : decode cX4_readMachine 0 = .ok (.aload_n 1, 1) := by decide +kernel
theorem dX4_readMachine_1 : decode cX4_readMachine 1 = .ok (.invokevirtual 35, 3) := by decide +kernel
theorem dX4_readMachine_4 : decode cX4_readMachine 4 = .ok (.aload_n 0, 1) := by decide +kernel
theorem dX4_readMachine_5 : decode cX4_readMachine 5 = .ok (.getfield 12, 3) := by decide +kernel
theorem dX4_readMachine_8 : decode cX4_readMachine 8 = .ok (.ldc 40, 2) := by decide +kernel
theorem dX4_readMachine_10 : decode cX4_readMachine 10 = .ok (.invokevirtual 42, 3) := by decide +kernel
theorem dX4_readMachine_13 : decode cX4_readMachine 13 = .ok (.iconst 0, 1) := by decide +kernel
theorem dX4_readMachine_14 : decode cX4_readMachine 14 = .ok (.istore_n 2, 1) := by decide +kernel
theorem dX4_readMachine_15 : decode cX4_readMachine 15 = .ok (.iload_n 2, 1) := by decide +kernel
theorem dX4_readMachine_16 : decode cX4_readMachine 16 = .ok (.sipush 600, 3) := by decide +kernel
theorem dX4_readMachine_19 : decode cX4_readMachine 19 = .ok (.if_icmp .ge 31, 3) := by decide +kernel
theorem dX4_readMachine_22 : decode cX4_readMachine 22 = .ok (.aload_n 0, 1) := by decide +kernel
theorem dX4_readMachine_23 : decode cX4_readMachine 23 = .ok (.getfield 12, 3) := by decide +kernel
theorem dX4_readMachine_26 : decode cX4_readMachine 26 = .ok (.invokevirtual 46, 3) := by decide +kernel
theorem dX4_readMachine_29 : decode cX4_readMachine 29 = .ok (.ifCond .eq 21, 3) := by decide +kernel
theorem dX4_readMachine_32 : decode cX4_readMachine 32 = .ok (.aload_n 0, 1) := by decide +kernel
theorem dX4_readMachine_33 : decode cX4_readMachine 33 = .ok (.invokevirtual 50, 3) := by decide +kernel
theorem dX4_readMachine_36 : decode cX4_readMachine 36 = .ok (.ifCond .ne 14, 3) := by decide +kernel
theorem dX4_readMachine_39 : decode cX4_readMachine 39 = .ok (.aload_n 0, 1) := by decide +kernel
theorem dX4_readMachine_40 : decode cX4_readMachine 40 = .ok (.aload_n 1, 1) := by decide +kernel
theorem dX4_readMachine_41 : decode cX4_readMachine 41 = .ok (.invokevirtual 54, 3) := by decide +kernel
theorem dX4_readMachine_44 : decode cX4_readMachine 44 = .ok (.iinc 2 1, 3) := by decide +kernel
theorem dX4_readMachine_47 : decode cX4_readMachine 47 = .ok (.goto (-32), 3) := by decide +kernel
theorem dX4_readMachine_50 : decode cX4_readMachine 50 = .ok (.aload_n 0, 1) := by decide +kernel
theorem dX4_readMachine_51 : decode cX4_readMachine 51 = .ok (.invokevirtual 50, 3) := by decide +kernel
theorem dX4_readMachine_54 : decode cX4_readMachine 54 = .ok (.ifCond .ne 7, 3) := by decide +kernel
theorem dX4_readMachine_57 : decode cX4_readMachine 57 = .ok (.iconst 1, 1) := by decide +kernel
theorem dX4_readMachine_58 : decode cX4_readMachine 58 = .ok (.goto 4, 3) := by decide +kernel
theorem dX4_readMachine_61 : decode cX4_readMachine 61 = .ok (.iconst 0, 1) := by decide +kernel
theorem dX4_readMachine_62 : decode cX4_readMachine 62 = .ok (.ireturn, 1) := by decide +kernel
theorem dX4_readMachineLine_0 : decode cX4_readMachineLine 0 = .ok (.aload_n 0, 1) := by decide +kernel
theorem dX4_readMachineLine_1 : decode cX4_readMachineLine 1 = .ok (.getfield 12, 3) := by decide +kernel
theorem dX4_readMachineLine_4 : decode cX4_readMachineLine 4 = .ok (.invokevirtual 58, 3) := by decide +kernel
theorem dX4_readMachineLine_7 : decode cX4_readMachineLine 7 = .ok (.istore_n 2, 1) := by decide +kernel
theorem dX4_readMachineLine_8 : decode cX4_readMachineLine 8 = .ok (.aload_n 0, 1) := by decide +kernel
theorem dX4_readMachineLine_9 : decode cX4_readMachineLine 9 = .ok (.getfield 12, 3) := by decide +kernel
theorem dX4_readMachineLine_12 : decode cX4_readMachineLine 12 = .ok (.invokevirtual 46, 3) := by decide +kernel
theorem dX4_readMachineLine_15 : decode cX4_readMachineLine 15 = .ok (.iconst 2, 1) := by decide +kernel
theorem dX4_readMachineLine_16 : decode cX4_readMachineLine 16 = .ok (.if_icmp .eq 12, 3) := by decide +kernel
theorem dX4_readMachineLine_19 : decode cX4_readMachineLine 19 = .ok (.aload_n 0, 1) := by decide +kernel
theorem dX4_readMachineLine_20 : decode cX4_readMachineLine 20 = .ok (.iconst 1, 1) := by decide +kernel
theorem dX4_readMachineLine_21 : decode cX4_readMachineLine 21 = .ok (.invokevirtual 61, 3) := by decide +kernel
theorem dX4_readMachineLine_24 : decode cX4_readMachineLine 24 = .ok (.pop, 1) := by decide +kernel
theorem dX4_readMachineLine_25 : decode cX4_readMachineLine 25 = .ok (.goto 50, 3) := by decide +kernel
theorem dX4_readMachineLine_28 : decode cX4_readMachineLine 28 = .ok (.aload_n 1, 1) := by decide +kernel
theorem dX4_readMachineLine_29 : decode cX4_readMachineLine 29 = .ok (.iload_n 2, 1) := by decide +kernel
theorem dX4_readMachineLine_30 : decode cX4_readMachineLine 30 = .ok (.invokevirtual 65, 3) := by decide +kernel
theorem dX4_readMachineLine_33 : decode cX4_readMachineLine 33 = .ok (.ifCond .eq 12, 3) := by decide +kernel
theorem dX4_readMachineLine_36 : decode cX4_readMachineLine 36 = .ok (.aload_n 0, 1) := by decide +kernel
theorem dX4_readMachineLine_37 : decode cX4_readMachineLine 37 = .ok (.iconst 3, 1) := by decide +kernel
theorem dX4_readMachineLine_38 : decode cX4_readMachineLine 38 = .ok (.invokevirtual 61, 3) := by decide +kernel
theorem dX4_readMachineLine_41 : decode cX4_readMachineLine 41 = .ok (.pop, 1) := by decide +kernel
theorem dX4_readMachineLine_42 : decode cX4_readMachineLine 42 = .ok (.goto 33, 3) := by decide +kernel
theorem dX4_readMachineLine_45 : decode cX4_readMachineLine 45 = .ok (.aload_n 0, 1) := by decide +kernel
theorem dX4_readMachineLine_46 : decode cX4_readMachineLine 46 = .ok (.getfield 12, 3) := by decide +kernel
theorem dX4_readMachineLine_49 : decode cX4_readMachineLine 49 = .ok (.invokevirtual 69, 3) := by decide +kernel
theorem dX4_readMachineLine_52 : decode cX4_readMachineLine 52 = .ok (.aload_n 1, 1) := by decide +kernel
theorem dX4_readMachineLine_53 : decode cX4_readMachineLine 53 = .ok (.iload_n 2, 1) := by decide +kernel
theorem dX4_readMachineLine_54 : decode cX4_readMachineLine 54 = .ok (.aload_n 0, 1) := by decide +kernel
theorem dX4_readMachineLine_55 : decode cX4_readMachineLine 55 = .ok (.getstatic 72, 3) := by decide +kernel
theorem dX4_readMachineLine_58 : decode cX4_readMachineLine 58 = .ok (.iload_n 2, 1) := by decide +kernel
theorem dX4_readMachineLine_59 : decode cX4_readMachineLine 59 = .ok (.iaload, 1) := by decide +kernel
theorem dX4_readMachineLine_60 : decode cX4_readMachineLine 60 = .ok (.getstatic 75, 3) := by decide +kernel
theorem dX4_readMachineLine_63 : decode cX4_readMachineLine 63 = .ok (.iload_n 2, 1) := by decide +kernel
theorem dX4_readMachineLine_64 : decode cX4_readMachineLine 64 = .ok (.iaload, 1) := by decide +kernel
theorem dX4_readMachineLine_65 : decode cX4_readMachineLine 65 = .ok (.invokevirtual 78, 3) := by decide +kernel
theorem dX4_readMachineLine_68 : decode cX4_readMachineLine 68 = .ok (.invokevirtual 82, 3) := by decide +kernel
theorem dX4_readMachineLine_71 : decode cX4_readMachineLine 71 = .ok (.aload_n 0, 1) := by decide +kernel
theorem dX4_readMachineLine_72 : decode cX4_readMachineLine 72 = .ok (.invokevirtual 86, 3) := by decide +kernel
theorem dX4_readMachineLine_75 : decode cX4_readMachineLine 75 = .ok (.return_, 1) := by decide +kernel
theorem dX4_readStory_0 : decode cX4_readStory 0 = .ok (.aload_n 1, 1) := by decide +kernel
theorem dX4_readStory_1 : decode cX4_readStory 1 = .ok (.iconst 0, 1) := by decide +kernel
theorem dX4_readStory_2 : decode cX4_readStory 2 = .ok (.putfield 89, 3) := by decide +kernel
theorem dX4_readStory_5 : decode cX4_readStory 5 = .ok (.aload_n 0, 1) := by decide +kernel
theorem dX4_readStory_6 : decode cX4_readStory 6 = .ok (.getfield 12, 3) := by decide +kernel
theorem dX4_readStory_9 : decode cX4_readStory 9 = .ok (.ldc 94, 2) := by decide +kernel
theorem dX4_readStory_11 : decode cX4_readStory 11 = .ok (.invokevirtual 42, 3) := by decide +kernel
theorem dX4_readStory_14 : decode cX4_readStory 14 = .ok (.iconst 0, 1) := by decide +kernel
theorem dX4_readStory_15 : decode cX4_readStory 15 = .ok (.istore_n 2, 1) := by decide +kernel
theorem dX4_readStory_16 : decode cX4_readStory 16 = .ok (.iload_n 2, 1) := by decide +kernel
theorem dX4_readStory_17 : decode cX4_readStory 17 = .ok (.sipush 600, 3) := by decide +kernel
theorem dX4_readStory_20 : decode cX4_readStory 20 = .ok (.if_icmp .ge 31, 3) := by decide +kernel
theorem dX4_readStory_23 : decode cX4_readStory 23 = .ok (.aload_n 0, 1) := by decide +kernel
theorem dX4_readStory_24 : decode cX4_readStory 24 = .ok (.getfield 12, 3) := by decide +kernel
theorem dX4_readStory_27 : decode cX4_readStory 27 = .ok (.invokevirtual 46, 3) := by decide +kernel
theorem dX4_readStory_30 : decode cX4_readStory 30 = .ok (.ifCond .eq 21, 3) := by decide +kernel
theorem dX4_readStory_33 : decode cX4_readStory 33 = .ok (.aload_n 0, 1) := by decide +kernel
theorem dX4_readStory_34 : decode cX4_readStory 34 = .ok (.invokevirtual 50, 3) := by decide +kernel
theorem dX4_readStory_37 : decode cX4_readStory 37 = .ok (.ifCond .ne 14, 3) := by decide +kernel
theorem dX4_readStory_40 : decode cX4_readStory 40 = .ok (.aload_n 0, 1) := by decide +kernel
theorem dX4_readStory_41 : decode cX4_readStory 41 = .ok (.aload_n 1, 1) := by decide +kernel
theorem dX4_readStory_42 : decode cX4_readStory 42 = .ok (.invokevirtual 96, 3) := by decide +kernel
theorem dX4_readStory_45 : decode cX4_readStory 45 = .ok (.iinc 2 1, 3) := by decide +kernel
theorem dX4_readStory_48 : decode cX4_readStory 48 = .ok (.goto (-32), 3) := by decide +kernel
theorem dX4_readStory_51 : decode cX4_readStory 51 = .ok (.aload_n 0, 1) := by decide +kernel
theorem dX4_readStory_52 : decode cX4_readStory 52 = .ok (.invokevirtual 50, 3) := by decide +kernel
theorem dX4_readStory_55 : decode cX4_readStory 55 = .ok (.ifCond .ne 7, 3) := by decide +kernel
theorem dX4_readStory_58 : decode cX4_readStory 58 = .ok (.iconst 1, 1) := by decide +kernel
theorem dX4_readStory_59 : decode cX4_readStory 59 = .ok (.goto 4, 3) := by decide +kernel
theorem dX4_readStory_62 : decode cX4_readStory 62 = .ok (.iconst 0, 1) := by decide +kernel
theorem dX4_readStory_63 : decode cX4_readStory 63 = .ok (.ireturn, 1) := by decide +kernel
theorem dX4_readAct_0 : decode cX4_readAct 0 = .ok (.aload_n 0, 1) := by decide +kernel
theorem dX4_readAct_1 : decode cX4_readAct 1 = .ok (.getfield 12, 3) := by decide +kernel
theorem dX4_readAct_4 : decode cX4_readAct 4 = .ok (.invokevirtual 58, 3) := by decide +kernel
theorem dX4_readAct_7 : decode cX4_readAct 7 = .ok (.istore_n 2, 1) := by decide +kernel
theorem dX4_readAct_8 : decode cX4_readAct 8 = .ok (.aload_n 0, 1) := by decide +kernel
theorem dX4_readAct_9 : decode cX4_readAct 9 = .ok (.getfield 12, 3) := by decide +kernel
theorem dX4_readAct_12 : decode cX4_readAct 12 = .ok (.invokevirtual 46, 3) := by decide +kernel
theorem dX4_readAct_15 : decode cX4_readAct 15 = .ok (.iconst 2, 1) := by decide +kernel
theorem dX4_readAct_16 : decode cX4_readAct 16 = .ok (.if_icmp .eq 12, 3) := by decide +kernel
theorem dX4_readAct_19 : decode cX4_readAct 19 = .ok (.aload_n 0, 1) := by decide +kernel
theorem dX4_readAct_20 : decode cX4_readAct 20 = .ok (.iconst 1, 1) := by decide +kernel
theorem dX4_readAct_21 : decode cX4_readAct 21 = .ok (.invokevirtual 61, 3) := by decide +kernel
theorem dX4_readAct_24 : decode cX4_readAct 24 = .ok (.pop, 1) := by decide +kernel
theorem dX4_readAct_25 : decode cX4_readAct 25 = .ok (.goto 75, 3) := by decide +kernel
theorem dX4_readAct_28 : decode cX4_readAct 28 = .ok (.aload_n 1, 1) := by decide +kernel
theorem dX4_readAct_29 : decode cX4_readAct 29 = .ok (.getfield 89, 3) := by decide +kernel
theorem dX4_readAct_32 : decode cX4_readAct 32 = .ok (.bipush 40, 2) := by decide +kernel
theorem dX4_readAct_34 : decode cX4_readAct 34 = .ok (.if_icmp .lt 12, 3) := by decide +kernel
theorem dX4_readAct_37 : decode cX4_readAct 37 = .ok (.aload_n 0, 1) := by decide +kernel
theorem dX4_readAct_38 : decode cX4_readAct 38 = .ok (.iconst 3, 1) := by decide +kernel
theorem dX4_readAct_39 : decode cX4_readAct 39 = .ok (.invokevirtual 61, 3) := by decide +kernel
theorem dX4_readAct_42 : decode cX4_readAct 42 = .ok (.pop, 1) := by decide +kernel
theorem dX4_readAct_43 : decode cX4_readAct 43 = .ok (.goto 57, 3) := by decide +kernel
theorem dX4_readAct_46 : decode cX4_readAct 46 = .ok (.aload_n 0, 1) := by decide +kernel
theorem dX4_readAct_47 : decode cX4_readAct 47 = .ok (.getfield 12, 3) := by decide +kernel
theorem dX4_readAct_50 : decode cX4_readAct 50 = .ok (.invokevirtual 69, 3) := by decide +kernel
theorem dX4_readAct_53 : decode cX4_readAct 53 = .ok (.aload_n 0, 1) := by decide +kernel
theorem dX4_readAct_54 : decode cX4_readAct 54 = .ok (.getstatic 100, 3) := by decide +kernel
theorem dX4_readAct_57 : decode cX4_readAct 57 = .ok (.iload_n 2, 1) := by decide +kernel
theorem dX4_readAct_58 : decode cX4_readAct 58 = .ok (.iaload, 1) := by decide +kernel
theorem dX4_readAct_59 : decode cX4_readAct 59 = .ok (.getstatic 103, 3) := by decide +kernel
theorem dX4_readAct_62 : decode cX4_readAct 62 = .ok (.iload_n 2, 1) := by decide +kernel
theorem dX4_readAct_63 : decode cX4_readAct 63 = .ok (.iaload, 1) := by decide +kernel
theorem dX4_readAct_64 : decode cX4_readAct 64 = .ok (.invokevirtual 78, 3) := by decide +kernel
theorem dX4_readAct_67 : decode cX4_readAct 67 = .ok (.istore_n 3, 1) := by decide +kernel
theorem dX4_readAct_68 : decode cX4_readAct 68 = .ok (.iload_n 2, 1) := by decide +kernel
theorem dX4_readAct_69 : decode cX4_readAct 69 = .ok (.bipush 8, 2) := by decide +kernel
theorem dX4_readAct_71 : decode cX4_readAct 71 = .ok (.if_icmp .ne 14, 3) := by decide +kernel
theorem dX4_readAct_74 : decode cX4_readAct 74 = .ok (.aload_n 0, 1) := by decide +kernel
theorem dX4_readAct_75 : decode cX4_readAct 75 = .ok (.iconst 1, 1) := by decide +kernel
theorem dX4_readAct_76 : decode cX4_readAct 76 = .ok (.sipush 300, 3) := by decide +kernel
theorem dX4_readAct_79 : decode cX4_readAct 79 = .ok (.invokevirtual 78, 3) := by decide +kernel
theorem dX4_readAct_82 : decode cX4_readAct 82 = .ok (.goto 4, 3) := by decide +kernel
theorem dX4_readAct_85 : decode cX4_readAct 85 = .ok (.iconst 0, 1) := by decide +kernel
theorem dX4_readAct_86 : decode cX4_readAct 86 = .ok (.istore 4, 2) := by decide +kernel
theorem dX4_readAct_88 : decode cX4_readAct 88 = .ok (.aload_n 1, 1) := by decide +kernel
theorem dX4_readAct_89 : decode cX4_readAct 89 = .ok (.iload_n 2, 1) := by decide +kernel
theorem dX4_readAct_90 : decode cX4_readAct 90 = .ok (.iload_n 3, 1) := by decide +kernel
theorem dX4_readAct_91 : decode cX4_readAct 91 = .ok (.iload 4, 2) := by decide +kernel
theorem dX4_readAct_93 : decode cX4_readAct 93 = .ok (.invokevirtual 106, 3) := by decide +kernel
theorem dX4_readAct_96 : decode cX4_readAct 96 = .ok (.aload_n 0, 1) := by decide +kernel
theorem dX4_readAct_97 : decode cX4_readAct 97 = .ok (.invokevirtual 86, 3) := by decide +kernel
theorem dX4_readAct_100 : decode cX4_readAct 100 = .ok (.return_, 1) := by decide +kernel
theorem dX4_readNumber_0 : decode cX4_readNumber 0 = .ok (.aload_n 0, 1) := by decide +kernel
theorem dX4_readNumber_1 : decode cX4_readNumber 1 = .ok (.getfield 12, 3) := by decide +kernel
theorem dX4_readNumber_4 : decode cX4_readNumber 4 = .ok (.invokevirtual 58, 3) := by decide +kernel
theorem dX4_readNumber_7 : decode cX4_readNumber 7 = .ok (.istore_n 3, 1) := by decide +kernel
theorem dX4_readNumber_8 : decode cX4_readNumber 8 = .ok (.aload_n 0, 1) := by decide +kernel
theorem dX4_readNumber_9 : decode cX4_readNumber 9 = .ok (.invokevirtual 50, 3) := by decide +kernel
theorem dX4_readNumber_12 : decode cX4_readNumber 12 = .ok (.ifCond .eq 5, 3) := by decide +kernel
theorem dX4_readNumber_15 : decode cX4_readNumber 15 = .ok (.iconst 0, 1) := by decide +kernel
theorem dX4_readNumber_16 : decode cX4_readNumber 16 = .ok (.ireturn, 1) := by decide +kernel
theorem dX4_readNumber_17 : decode cX4_readNumber 17 = .ok (.aload_n 0, 1) := by decide +kernel
theorem dX4_readNumber_18 : decode cX4_readNumber 18 = .ok (.getfield 12, 3) := by decide +kernel
theorem dX4_readNumber_21 : decode cX4_readNumber 21 = .ok (.invokevirtual 46, 3) := by decide +kernel
theorem dX4_readNumber_24 : decode cX4_readNumber 24 = .ok (.iconst 3, 1) := by decide +kernel
theorem dX4_readNumber_25 : decode cX4_readNumber 25 = .ok (.if_icmp .eq 12, 3) := by decide +kernel
theorem dX4_readNumber_28 : decode cX4_readNumber 28 = .ok (.aload_n 0, 1) := by decide +kernel
theorem dX4_readNumber_29 : decode cX4_readNumber 29 = .ok (.iconst 1, 1) := by decide +kernel
theorem dX4_readNumber_30 : decode cX4_readNumber 30 = .ok (.invokevirtual 61, 3) := by decide +kernel
theorem dX4_readNumber_33 : decode cX4_readNumber 33 = .ok (.pop, 1) := by decide +kernel
theorem dX4_readNumber_34 : decode cX4_readNumber 34 = .ok (.goto 18, 3) := by decide +kernel
theorem dX4_readNumber_37 : decode cX4_readNumber 37 = .ok (.iload_n 3, 1) := by decide +kernel
theorem dX4_readNumber_38 : decode cX4_readNumber 38 = .ok (.iload_n 1, 1) := by decide +kernel
theorem dX4_readNumber_39 : decode cX4_readNumber 39 = .ok (.iload_n 2, 1) := by decide +kernel
theorem dX4_readNumber_40 : decode cX4_readNumber 40 = .ok (.invokestatic 110, 3) := by decide +kernel
theorem dX4_readNumber_43 : decode cX4_readNumber 43 = .ok (.ifCond .ne 9, 3) := by decide +kernel
theorem dX4_readNumber_46 : decode cX4_readNumber 46 = .ok (.aload_n 0, 1) := by decide +kernel
theorem dX4_readNumber_47 : decode cX4_readNumber 47 = .ok (.iconst 2, 1) := by decide +kernel
theorem dX4_readNumber_48 : decode cX4_readNumber 48 = .ok (.invokevirtual 61, 3) := by decide +kernel
theorem dX4_readNumber_51 : decode cX4_readNumber 51 = .ok (.pop, 1) := by decide +kernel
theorem dX4_readNumber_52 : decode cX4_readNumber 52 = .ok (.aload_n 0, 1) := by decide +kernel
theorem dX4_readNumber_53 : decode cX4_readNumber 53 = .ok (.getfield 12, 3) := by decide +kernel
theorem dX4_readNumber_56 : decode cX4_readNumber 56 = .ok (.invokevirtual 69, 3) := by decide +kernel
theorem dX4_readNumber_59 : decode cX4_readNumber 59 = .ok (.iload_n 3, 1) := by decide +kernel
theorem dX4_readNumber_60 : decode cX4_readNumber 60 = .ok (.ireturn, 1) := by decide +kernel
theorem dX4_readLineEnd_0 : decode cX4_readLineEnd 0 = .ok (.aload_n 0, 1) := by decide +kernel
theorem dX4_readLineEnd_1 : decode cX4_readLineEnd 1 = .ok (.invokevirtual 50, 3) := by decide +kernel
theorem dX4_readLineEnd_4 : decode cX4_readLineEnd 4 = .ok (.ifCond .ne 21, 3) := by decide +kernel
theorem dX4_readLineEnd_7 : decode cX4_readLineEnd 7 = .ok (.aload_n 0, 1) := by decide +kernel
theorem dX4_readLineEnd_8 : decode cX4_readLineEnd 8 = .ok (.getfield 12, 3) := by decide +kernel
theorem dX4_readLineEnd_11 : decode cX4_readLineEnd 11 = .ok (.bipush 59, 2) := by decide +kernel
theorem dX4_readLineEnd_13 : decode cX4_readLineEnd 13 = .ok (.invokevirtual 114, 3) := by decide +kernel
theorem dX4_readLineEnd_16 : decode cX4_readLineEnd 16 = .ok (.ifCond .ne 9, 3) := by decide +kernel
theorem dX4_readLineEnd_19 : decode cX4_readLineEnd 19 = .ok (.aload_n 0, 1) := by decide +kernel
theorem dX4_readLineEnd_20 : decode cX4_readLineEnd 20 = .ok (.iconst 1, 1) := by decide +kernel
theorem dX4_readLineEnd_21 : decode cX4_readLineEnd 21 = .ok (.invokevirtual 61, 3) := by decide +kernel
theorem dX4_readLineEnd_24 : decode cX4_readLineEnd 24 = .ok (.pop, 1) := by decide +kernel
theorem dX4_readLineEnd_25 : decode cX4_readLineEnd 25 = .ok (.aload_n 0, 1) := by decide +kernel
theorem dX4_readLineEnd_26 : decode cX4_readLineEnd 26 = .ok (.getfield 12, 3) := by decide +kernel
theorem dX4_readLineEnd_29 : decode cX4_readLineEnd 29 = .ok (.invokevirtual 69, 3) := by decide +kernel
theorem dX4_readLineEnd_32 : decode cX4_readLineEnd 32 = .ok (.return_, 1) := by decide +kernel
theorem dX4_readReader_0 : decode cX4_readReader 0 = .ok (.aload_n 1, 1) := by decide +kernel
theorem dX4_readReader_1 : decode cX4_readReader 1 = .ok (.invokevirtual 118, 3) := by decide +kernel
theorem dX4_readReader_4 : decode cX4_readReader 4 = .ok (.aload_n 0, 1) := by decide +kernel
theorem dX4_readReader_5 : decode cX4_readReader 5 = .ok (.getfield 12, 3) := by decide +kernel
theorem dX4_readReader_8 : decode cX4_readReader 8 = .ok (.ldc 121, 2) := by decide +kernel
theorem dX4_readReader_10 : decode cX4_readReader 10 = .ok (.invokevirtual 42, 3) := by decide +kernel
theorem dX4_readReader_13 : decode cX4_readReader 13 = .ok (.iconst 1, 1) := by decide +kernel
theorem dX4_readReader_14 : decode cX4_readReader 14 = .ok (.istore_n 2, 1) := by decide +kernel
theorem dX4_readReader_15 : decode cX4_readReader 15 = .ok (.iconst 0, 1) := by decide +kernel
theorem dX4_readReader_16 : decode cX4_readReader 16 = .ok (.istore_n 3, 1) := by decide +kernel
theorem dX4_readReader_17 : decode cX4_readReader 17 = .ok (.iload_n 3, 1) := by decide +kernel
theorem dX4_readReader_18 : decode cX4_readReader 18 = .ok (.sipush 600, 3) := by decide +kernel
theorem dX4_readReader_21 : decode cX4_readReader 21 = .ok (.if_icmp .gt 151, 3) := by decide +kernel
theorem dX4_readReader_24 : decode cX4_readReader 24 = .ok (.iload_n 2, 1) := by decide +kernel
theorem dX4_readReader_25 : decode cX4_readReader 25 = .ok (.ifCond .eq 147, 3) := by decide +kernel
theorem dX4_readReader_28 : decode cX4_readReader 28 = .ok (.iload_n 2, 1) := by decide +kernel
theorem dX4_readReader_29 : decode cX4_readReader 29 = .ok (.iconst 1, 1) := by decide +kernel
theorem dX4_readReader_30 : decode cX4_readReader 30 = .ok (.if_icmp .ne 15, 3) := by decide +kernel
theorem dX4_readReader_33 : decode cX4_readReader 33 = .ok (.aload_n 0, 1) := by decide +kernel
theorem dX4_readReader_34 : decode cX4_readReader 34 = .ok (.getfield 12, 3) := by decide +kernel
theorem dX4_readReader_37 : decode cX4_readReader 37 = .ok (.invokevirtual 46, 3) := by decide +kernel
theorem dX4_readReader_40 : decode cX4_readReader 40 = .ok (.ifCond .ne 5, 3) := by decide +kernel
theorem dX4_readReader_43 : decode cX4_readReader 43 = .ok (.iconst 1, 1) := by decide +kernel
theorem dX4_readReader_44 : decode cX4_readReader 44 = .ok (.ireturn, 1) := by decide +kernel
theorem dX4_readReader_45 : decode cX4_readReader 45 = .ok (.iload_n 2, 1) := by decide +kernel
theorem dX4_readReader_46 : decode cX4_readReader 46 = .ok (.tableswitch 107 1 6 #[38, 47, 71, 80, 89, 98], 38) := by decide +kernel
theorem dX4_readReader_84 : decode cX4_readReader 84 = .ok (.aload_n 0, 1) := by decide +kernel
theorem dX4_readReader_85 : decode cX4_readReader 85 = .ok (.aload_n 1, 1) := by decide +kernel
theorem dX4_readReader_86 : decode cX4_readReader 86 = .ok (.invokevirtual 123, 3) := by decide +kernel
theorem dX4_readReader_89 : decode cX4_readReader 89 = .ok (.istore_n 2, 1) := by decide +kernel
theorem dX4_readReader_90 : decode cX4_readReader 90 = .ok (.goto 69, 3) := by decide +kernel
theorem dX4_readReader_93 : decode cX4_readReader 93 = .ok (.aload_n 0, 1) := by decide +kernel
theorem dX4_readReader_94 : decode cX4_readReader 94 = .ok (.getfield 12, 3) := by decide +kernel
theorem dX4_readReader_97 : decode cX4_readReader 97 = .ok (.iconst 4, 1) := by decide +kernel
theorem dX4_readReader_98 : decode cX4_readReader 98 = .ok (.invokevirtual 127, 3) := by decide +kernel
theorem dX4_readReader_101 : decode cX4_readReader 101 = .ok (.ifCond .eq 7, 3) := by decide +kernel
theorem dX4_readReader_104 : decode cX4_readReader 104 = .ok (.iconst 3, 1) := by decide +kernel
theorem dX4_readReader_105 : decode cX4_readReader 105 = .ok (.goto 8, 3) := by decide +kernel
theorem dX4_readReader_108 : decode cX4_readReader 108 = .ok (.aload_n 0, 1) := by decide +kernel
theorem dX4_readReader_109 : decode cX4_readReader 109 = .ok (.iconst 1, 1) := by decide +kernel
theorem dX4_readReader_110 : decode cX4_readReader 110 = .ok (.invokevirtual 61, 3) := by decide +kernel
theorem dX4_readReader_113 : decode cX4_readReader 113 = .ok (.istore_n 2, 1) := by decide +kernel
theorem dX4_readReader_114 : decode cX4_readReader 114 = .ok (.goto 45, 3) := by decide +kernel
theorem dX4_readReader_117 : decode cX4_readReader 117 = .ok (.aload_n 0, 1) := by decide +kernel
theorem dX4_readReader_118 : decode cX4_readReader 118 = .ok (.aload_n 1, 1) := by decide +kernel
theorem dX4_readReader_119 : decode cX4_readReader 119 = .ok (.invokevirtual 130, 3) := by decide +kernel
theorem dX4_readReader_122 : decode cX4_readReader 122 = .ok (.istore_n 2, 1) := by decide +kernel
theorem dX4_readReader_123 : decode cX4_readReader 123 = .ok (.goto 36, 3) := by decide +kernel
theorem dX4_readReader_126 : decode cX4_readReader 126 = .ok (.aload_n 0, 1) := by decide +kernel
theorem dX4_readReader_127 : decode cX4_readReader 127 = .ok (.aload_n 1, 1) := by decide +kernel
theorem dX4_readReader_128 : decode cX4_readReader 128 = .ok (.invokevirtual 133, 3) := by decide +kernel
theorem dX4_readReader_131 : decode cX4_readReader 131 = .ok (.istore_n 2, 1) := by decide +kernel
theorem dX4_readReader_132 : decode cX4_readReader 132 = .ok (.goto 27, 3) := by decide +kernel
theorem dX4_readReader_135 : decode cX4_readReader 135 = .ok (.aload_n 0, 1) := by decide +kernel
theorem dX4_readReader_136 : decode cX4_readReader 136 = .ok (.aload_n 1, 1) := by decide +kernel
theorem dX4_readReader_137 : decode cX4_readReader 137 = .ok (.invokevirtual 136, 3) := by decide +kernel
theorem dX4_readReader_140 : decode cX4_readReader 140 = .ok (.istore_n 2, 1) := by decide +kernel
theorem dX4_readReader_141 : decode cX4_readReader 141 = .ok (.goto 18, 3) := by decide +kernel
theorem dX4_readReader_144 : decode cX4_readReader 144 = .ok (.aload_n 0, 1) := by decide +kernel
theorem dX4_readReader_145 : decode cX4_readReader 145 = .ok (.aload_n 1, 1) := by decide +kernel
theorem dX4_readReader_146 : decode cX4_readReader 146 = .ok (.invokevirtual 139, 3) := by decide +kernel
theorem dX4_readReader_149 : decode cX4_readReader 149 = .ok (.istore_n 2, 1) := by decide +kernel
theorem dX4_readReader_150 : decode cX4_readReader 150 = .ok (.goto 9, 3) := by decide +kernel
theorem dX4_readReader_153 : decode cX4_readReader 153 = .ok (.aload_n 0, 1) := by decide +kernel
theorem dX4_readReader_154 : decode cX4_readReader 154 = .ok (.aload_n 1, 1) := by decide +kernel
theorem dX4_readReader_155 : decode cX4_readReader 155 = .ok (.invokevirtual 142, 3) := by decide +kernel
theorem dX4_readReader_158 : decode cX4_readReader 158 = .ok (.istore_n 2, 1) := by decide +kernel
theorem dX4_readReader_159 : decode cX4_readReader 159 = .ok (.aload_n 0, 1) := by decide +kernel
theorem dX4_readReader_160 : decode cX4_readReader 160 = .ok (.getfield 12, 3) := by decide +kernel
theorem dX4_readReader_163 : decode cX4_readReader 163 = .ok (.invokevirtual 69, 3) := by decide +kernel
theorem dX4_readReader_166 : decode cX4_readReader 166 = .ok (.iinc 3 1, 3) := by decide +kernel
theorem dX4_readReader_169 : decode cX4_readReader 169 = .ok (.goto (-152), 3) := by decide +kernel
theorem dX4_readReader_172 : decode cX4_readReader 172 = .ok (.iconst 0, 1) := by decide +kernel
theorem dX4_readReader_173 : decode cX4_readReader 173 = .ok (.ireturn, 1) := by decide +kernel
theorem dX4_readAnswer_0 : decode cX4_readAnswer 0 = .ok (.aload_n 0, 1) := by decide +kernel
theorem dX4_readAnswer_1 : decode cX4_readAnswer 1 = .ok (.getfield 12, 3) := by decide +kernel
theorem dX4_readAnswer_4 : decode cX4_readAnswer 4 = .ok (.invokevirtual 46, 3) := by decide +kernel
theorem dX4_readAnswer_7 : decode cX4_readAnswer 7 = .ok (.iconst 2, 1) := by decide +kernel
theorem dX4_readAnswer_8 : decode cX4_readAnswer 8 = .ok (.if_icmp .ne 14, 3) := by decide +kernel
theorem dX4_readAnswer_11 : decode cX4_readAnswer 11 = .ok (.aload_n 0, 1) := by decide +kernel
theorem dX4_readAnswer_12 : decode cX4_readAnswer 12 = .ok (.getfield 12, 3) := by decide +kernel
theorem dX4_readAnswer_15 : decode cX4_readAnswer 15 = .ok (.invokevirtual 58, 3) := by decide +kernel
theorem dX4_readAnswer_18 : decode cX4_readAnswer 18 = .ok (.iconst 3, 1) := by decide +kernel
theorem dX4_readAnswer_19 : decode cX4_readAnswer 19 = .ok (.if_icmp .le 9, 3) := by decide +kernel
theorem dX4_readAnswer_22 : decode cX4_readAnswer 22 = .ok (.aload_n 0, 1) := by decide +kernel
theorem dX4_readAnswer_23 : decode cX4_readAnswer 23 = .ok (.iconst 1, 1) := by decide +kernel
theorem dX4_readAnswer_24 : decode cX4_readAnswer 24 = .ok (.invokevirtual 61, 3) := by decide +kernel
theorem dX4_readAnswer_27 : decode cX4_readAnswer 27 = .ok (.ireturn, 1) := by decide +kernel
theorem dX4_readAnswer_28 : decode cX4_readAnswer 28 = .ok (.aload_n 1, 1) := by decide +kernel
theorem dX4_readAnswer_29 : decode cX4_readAnswer 29 = .ok (.getfield 145, 3) := by decide +kernel
theorem dX4_readAnswer_32 : decode cX4_readAnswer 32 = .ok (.bipush 12, 2) := by decide +kernel
theorem dX4_readAnswer_34 : decode cX4_readAnswer 34 = .ok (.if_icmp .lt 9, 3) := by decide +kernel
theorem dX4_readAnswer_37 : decode cX4_readAnswer 37 = .ok (.aload_n 0, 1) := by decide +kernel
theorem dX4_readAnswer_38 : decode cX4_readAnswer 38 = .ok (.iconst 3, 1) := by decide +kernel
theorem dX4_readAnswer_39 : decode cX4_readAnswer 39 = .ok (.invokevirtual 61, 3) := by decide +kernel
theorem dX4_readAnswer_42 : decode cX4_readAnswer 42 = .ok (.ireturn, 1) := by decide +kernel
theorem dX4_readAnswer_43 : decode cX4_readAnswer 43 = .ok (.aload_n 1, 1) := by decide +kernel
theorem dX4_readAnswer_44 : decode cX4_readAnswer 44 = .ok (.aload_n 0, 1) := by decide +kernel
theorem dX4_readAnswer_45 : decode cX4_readAnswer 45 = .ok (.getfield 12, 3) := by decide +kernel
theorem dX4_readAnswer_48 : decode cX4_readAnswer 48 = .ok (.invokevirtual 58, 3) := by decide +kernel
theorem dX4_readAnswer_51 : decode cX4_readAnswer 51 = .ok (.iconst 1, 1) := by decide +kernel
theorem dX4_readAnswer_52 : decode cX4_readAnswer 52 = .ok (.iadd, 1) := by decide +kernel
theorem dX4_readAnswer_53 : decode cX4_readAnswer 53 = .ok (.invokevirtual 148, 3) := by decide +kernel
theorem dX4_readAnswer_56 : decode cX4_readAnswer 56 = .ok (.aload_n 0, 1) := by decide +kernel
theorem dX4_readAnswer_57 : decode cX4_readAnswer 57 = .ok (.iconst 0, 1) := by decide +kernel
theorem dX4_readAnswer_58 : decode cX4_readAnswer 58 = .ok (.putfield 152, 3) := by decide +kernel
theorem dX4_readAnswer_61 : decode cX4_readAnswer 61 = .ok (.aload_n 0, 1) := by decide +kernel
theorem dX4_readAnswer_62 : decode cX4_readAnswer 62 = .ok (.iconst 0, 1) := by decide +kernel
theorem dX4_readAnswer_63 : decode cX4_readAnswer 63 = .ok (.putfield 155, 3) := by decide +kernel
theorem dX4_readAnswer_66 : decode cX4_readAnswer 66 = .ok (.iconst 2, 1) := by decide +kernel
theorem dX4_readAnswer_67 : decode cX4_readAnswer 67 = .ok (.ireturn, 1) := by decide +kernel
theorem dX4_readClause_0 : decode cX4_readClause 0 = .ok (.aload_n 0, 1) := by decide +kernel
theorem dX4_readClause_1 : decode cX4_readClause 1 = .ok (.getfield 12, 3) := by decide +kernel
theorem dX4_readClause_4 : decode cX4_readClause 4 = .ok (.bipush 7, 2) := by decide +kernel
theorem dX4_readClause_6 : decode cX4_readClause 6 = .ok (.invokevirtual 127, 3) := by decide +kernel
theorem dX4_readClause_9 : decode cX4_readClause 9 = .ok (.istore_n 2, 1) := by decide +kernel
theorem dX4_readClause_10 : decode cX4_readClause 10 = .ok (.iload_n 2, 1) := by decide +kernel
theorem dX4_readClause_11 : decode cX4_readClause 11 = .ok (.ifCond .ne 26, 3) := by decide +kernel
theorem dX4_readClause_14 : decode cX4_readClause 14 = .ok (.aload_n 0, 1) := by decide +kernel
theorem dX4_readClause_15 : decode cX4_readClause 15 = .ok (.getfield 12, 3) := by decide +kernel
theorem dX4_readClause_18 : decode cX4_readClause 18 = .ok (.bipush 40, 2) := by decide +kernel
theorem dX4_readClause_20 : decode cX4_readClause 20 = .ok (.invokevirtual 114, 3) := by decide +kernel
theorem dX4_readClause_23 : decode cX4_readClause 23 = .ok (.ifCond .ne 14, 3) := by decide +kernel
theorem dX4_readClause_26 : decode cX4_readClause 26 = .ok (.aload_n 0, 1) := by decide +kernel
theorem dX4_readClause_27 : decode cX4_readClause 27 = .ok (.iconst 0, 1) := by decide +kernel
theorem dX4_readClause_28 : decode cX4_readClause 28 = .ok (.putfield 158, 3) := by decide +kernel
theorem dX4_readClause_31 : decode cX4_readClause 31 = .ok (.aload_n 0, 1) := by decide +kernel
theorem dX4_readClause_32 : decode cX4_readClause 32 = .ok (.aload_n 1, 1) := by decide +kernel
theorem dX4_readClause_33 : decode cX4_readClause 33 = .ok (.invokevirtual 133, 3) := by decide +kernel
theorem dX4_readClause_36 : decode cX4_readClause 36 = .ok (.ireturn, 1) := by decide +kernel
theorem dX4_readClause_37 : decode cX4_readClause 37 = .ok (.aload_n 0, 1) := by decide +kernel
theorem dX4_readClause_38 : decode cX4_readClause 38 = .ok (.getfield 155, 3) := by decide +kernel
theorem dX4_readClause_41 : decode cX4_readClause 41 = .ok (.bipush 8, 2) := by decide +kernel
theorem dX4_readClause_43 : decode cX4_readClause 43 = .ok (.if_icmp .lt 9, 3) := by decide +kernel
theorem dX4_readClause_46 : decode cX4_readClause 46 = .ok (.aload_n 0, 1) := by decide +kernel
theorem dX4_readClause_47 : decode cX4_readClause 47 = .ok (.iconst 3, 1) := by decide +kernel
theorem dX4_readClause_48 : decode cX4_readClause 48 = .ok (.invokevirtual 61, 3) := by decide +kernel
theorem dX4_readClause_51 : decode cX4_readClause 51 = .ok (.ireturn, 1) := by decide +kernel
theorem dX4_readClause_52 : decode cX4_readClause 52 = .ok (.aload_n 0, 1) := by decide +kernel
theorem dX4_readClause_53 : decode cX4_readClause 53 = .ok (.dup, 1) := by decide +kernel
theorem dX4_readClause_54 : decode cX4_readClause 54 = .ok (.getfield 155, 3) := by decide +kernel
theorem dX4_readClause_57 : decode cX4_readClause 57 = .ok (.iconst 1, 1) := by decide +kernel
theorem dX4_readClause_58 : decode cX4_readClause 58 = .ok (.iadd, 1) := by decide +kernel
theorem dX4_readClause_59 : decode cX4_readClause 59 = .ok (.putfield 155, 3) := by decide +kernel
theorem dX4_readClause_62 : decode cX4_readClause 62 = .ok (.aload_n 0, 1) := by decide +kernel
theorem dX4_readClause_63 : decode cX4_readClause 63 = .ok (.iload_n 2, 1) := by decide +kernel
theorem dX4_readClause_64 : decode cX4_readClause 64 = .ok (.ifCond .eq 7, 3) := by decide +kernel
theorem dX4_readClause_67 : decode cX4_readClause 67 = .ok (.iconst 3, 1) := by decide +kernel
theorem dX4_readClause_68 : decode cX4_readClause 68 = .ok (.goto 4, 3) := by decide +kernel
theorem dX4_readClause_71 : decode cX4_readClause 71 = .ok (.iconst 0, 1) := by decide +kernel
theorem dX4_readClause_72 : decode cX4_readClause 72 = .ok (.invokevirtual 162, 3) := by decide +kernel
theorem dX4_readClause_75 : decode cX4_readClause 75 = .ok (.iconst 3, 1) := by decide +kernel
theorem dX4_readClause_76 : decode cX4_readClause 76 = .ok (.ireturn, 1) := by decide +kernel
theorem dX4_readOperand_0 : decode cX4_readOperand 0 = .ok (.aload_n 0, 1) := by decide +kernel
theorem dX4_readOperand_1 : decode cX4_readOperand 1 = .ok (.getfield 12, 3) := by decide +kernel
theorem dX4_readOperand_4 : decode cX4_readOperand 4 = .ok (.invokevirtual 46, 3) := by decide +kernel
theorem dX4_readOperand_7 : decode cX4_readOperand 7 = .ok (.iconst 3, 1) := by decide +kernel
theorem dX4_readOperand_8 : decode cX4_readOperand 8 = .ok (.if_icmp .ne 19, 3) := by decide +kernel
theorem dX4_readOperand_11 : decode cX4_readOperand 11 = .ok (.aload_n 1, 1) := by decide +kernel
theorem dX4_readOperand_12 : decode cX4_readOperand 12 = .ok (.bipush 11, 2) := by decide +kernel
theorem dX4_readOperand_14 : decode cX4_readOperand 14 = .ok (.aload_n 0, 1) := by decide +kernel
theorem dX4_readOperand_15 : decode cX4_readOperand 15 = .ok (.getfield 12, 3) := by decide +kernel
theorem dX4_readOperand_18 : decode cX4_readOperand 18 = .ok (.invokevirtual 58, 3) := by decide +kernel
theorem dX4_readOperand_21 : decode cX4_readOperand 21 = .ok (.invokevirtual 165, 3) := by decide +kernel
theorem dX4_readOperand_24 : decode cX4_readOperand 24 = .ok (.goto 51, 3) := by decide +kernel
theorem dX4_readOperand_27 : decode cX4_readOperand 27 = .ok (.aload_n 0, 1) := by decide +kernel
theorem dX4_readOperand_28 : decode cX4_readOperand 28 = .ok (.getfield 12, 3) := by decide +kernel
theorem dX4_readOperand_31 : decode cX4_readOperand 31 = .ok (.invokevirtual 46, 3) := by decide +kernel
theorem dX4_readOperand_34 : decode cX4_readOperand 34 = .ok (.iconst 2, 1) := by decide +kernel
theorem dX4_readOperand_35 : decode cX4_readOperand 35 = .ok (.if_icmp .ne 34, 3) := by decide +kernel
theorem dX4_readOperand_38 : decode cX4_readOperand 38 = .ok (.aload_n 0, 1) := by decide +kernel
theorem dX4_readOperand_39 : decode cX4_readOperand 39 = .ok (.getfield 12, 3) := by decide +kernel
theorem dX4_readOperand_42 : decode cX4_readOperand 42 = .ok (.invokevirtual 58, 3) := by decide +kernel
theorem dX4_readOperand_45 : decode cX4_readOperand 45 = .ok (.bipush 8, 2) := by decide +kernel
theorem dX4_readOperand_47 : decode cX4_readOperand 47 = .ok (.if_icmp .lt 22, 3) := by decide +kernel
theorem dX4_readOperand_50 : decode cX4_readOperand 50 = .ok (.aload_n 1, 1) := by decide +kernel
theorem dX4_readOperand_51 : decode cX4_readOperand 51 = .ok (.bipush 12, 2) := by decide +kernel
theorem dX4_readOperand_53 : decode cX4_readOperand 53 = .ok (.aload_n 0, 1) := by decide +kernel
theorem dX4_readOperand_54 : decode cX4_readOperand 54 = .ok (.getfield 12, 3) := by decide +kernel
theorem dX4_readOperand_57 : decode cX4_readOperand 57 = .ok (.invokevirtual 58, 3) := by decide +kernel
theorem dX4_readOperand_60 : decode cX4_readOperand 60 = .ok (.bipush 8, 2) := by decide +kernel
theorem dX4_readOperand_62 : decode cX4_readOperand 62 = .ok (.isub, 1) := by decide +kernel
theorem dX4_readOperand_63 : decode cX4_readOperand 63 = .ok (.invokevirtual 165, 3) := by decide +kernel
theorem dX4_readOperand_66 : decode cX4_readOperand 66 = .ok (.goto 9, 3) := by decide +kernel
theorem dX4_readOperand_69 : decode cX4_readOperand 69 = .ok (.aload_n 0, 1) := by decide +kernel
theorem dX4_readOperand_70 : decode cX4_readOperand 70 = .ok (.iconst 1, 1) := by decide +kernel
theorem dX4_readOperand_71 : decode cX4_readOperand 71 = .ok (.invokevirtual 61, 3) := by decide +kernel
theorem dX4_readOperand_74 : decode cX4_readOperand 74 = .ok (.ireturn, 1) := by decide +kernel
theorem dX4_readOperand_75 : decode cX4_readOperand 75 = .ok (.bipush 6, 2) := by decide +kernel
theorem dX4_readOperand_77 : decode cX4_readOperand 77 = .ok (.ireturn, 1) := by decide +kernel
theorem dX4_readDivisor_0 : decode cX4_readDivisor 0 = .ok (.aload_n 0, 1) := by decide +kernel
theorem dX4_readDivisor_1 : decode cX4_readDivisor 1 = .ok (.getfield 12, 3) := by decide +kernel
theorem dX4_readDivisor_4 : decode cX4_readDivisor 4 = .ok (.invokevirtual 46, 3) := by decide +kernel
theorem dX4_readDivisor_7 : decode cX4_readDivisor 7 = .ok (.iconst 3, 1) := by decide +kernel
theorem dX4_readDivisor_8 : decode cX4_readDivisor 8 = .ok (.if_icmp .eq 9, 3) := by decide +kernel
theorem dX4_readDivisor_11 : decode cX4_readDivisor 11 = .ok (.aload_n 0, 1) := by decide +kernel
theorem dX4_readDivisor_12 : decode cX4_readDivisor 12 = .ok (.iconst 1, 1) := by decide +kernel
theorem dX4_readDivisor_13 : decode cX4_readDivisor 13 = .ok (.invokevirtual 61, 3) := by decide +kernel
theorem dX4_readDivisor_16 : decode cX4_readDivisor 16 = .ok (.ireturn, 1) := by decide +kernel
theorem dX4_readDivisor_17 : decode cX4_readDivisor 17 = .ok (.aload_n 0, 1) := by decide +kernel
theorem dX4_readDivisor_18 : decode cX4_readDivisor 18 = .ok (.getfield 12, 3) := by decide +kernel
theorem dX4_readDivisor_21 : decode cX4_readDivisor 21 = .ok (.invokevirtual 58, 3) := by decide +kernel
theorem dX4_readDivisor_24 : decode cX4_readDivisor 24 = .ok (.ifCond .ne 9, 3) := by decide +kernel
theorem dX4_readDivisor_27 : decode cX4_readDivisor 27 = .ok (.aload_n 0, 1) := by decide +kernel
theorem dX4_readDivisor_28 : decode cX4_readDivisor 28 = .ok (.iconst 2, 1) := by decide +kernel
theorem dX4_readDivisor_29 : decode cX4_readDivisor 29 = .ok (.invokevirtual 61, 3) := by decide +kernel
theorem dX4_readDivisor_32 : decode cX4_readDivisor 32 = .ok (.ireturn, 1) := by decide +kernel
theorem dX4_readDivisor_33 : decode cX4_readDivisor 33 = .ok (.aload_n 0, 1) := by decide +kernel
theorem dX4_readDivisor_34 : decode cX4_readDivisor 34 = .ok (.aload_n 1, 1) := by decide +kernel
theorem dX4_readDivisor_35 : decode cX4_readDivisor 35 = .ok (.invokevirtual 133, 3) := by decide +kernel
theorem dX4_readDivisor_38 : decode cX4_readDivisor 38 = .ok (.ireturn, 1) := by decide +kernel
theorem dX4_readArithmetic_0 : decode cX4_readArithmetic 0 = .ok (.aload_n 0, 1) := by decide +kernel
theorem dX4_readArithmetic_1 : decode cX4_readArithmetic 1 = .ok (.invokevirtual 168, 3) := by decide +kernel
theorem dX4_readArithmetic_4 : decode cX4_readArithmetic 4 = .ok (.istore_n 2, 1) := by decide +kernel
theorem dX4_readArithmetic_5 : decode cX4_readArithmetic 5 = .ok (.iload_n 2, 1) := by decide +kernel
theorem dX4_readArithmetic_6 : decode cX4_readArithmetic 6 = .ok (.iconst 4, 1) := by decide +kernel
theorem dX4_readArithmetic_7 : decode cX4_readArithmetic 7 = .ok (.bipush 6, 2) := by decide +kernel
theorem dX4_readArithmetic_9 : decode cX4_readArithmetic 9 = .ok (.invokestatic 110, 3) := by decide +kernel
theorem dX4_readArithmetic_12 : decode cX4_readArithmetic 12 = .ok (.istore_n 3, 1) := by decide +kernel
theorem dX4_readArithmetic_13 : decode cX4_readArithmetic 13 = .ok (.iload_n 2, 1) := by decide +kernel
theorem dX4_readArithmetic_14 : decode cX4_readArithmetic 14 = .ok (.iconst (-1), 1) := by decide +kernel
theorem dX4_readArithmetic_15 : decode cX4_readArithmetic 15 = .ok (.if_icmp .eq 14, 3) := by decide +kernel
theorem dX4_readArithmetic_18 : decode cX4_readArithmetic 18 = .ok (.iload_n 3, 1) := by decide +kernel
theorem dX4_readArithmetic_19 : decode cX4_readArithmetic 19 = .ok (.ifCond .eq 31, 3) := by decide +kernel
theorem dX4_readArithmetic_22 : decode cX4_readArithmetic 22 = .ok (.aload_n 0, 1) := by decide +kernel
theorem dX4_readArithmetic_23 : decode cX4_readArithmetic 23 = .ok (.getfield 158, 3) := by decide +kernel
theorem dX4_readArithmetic_26 : decode cX4_readArithmetic 26 = .ok (.ifCond .eq 24, 3) := by decide +kernel
theorem dX4_readArithmetic_29 : decode cX4_readArithmetic 29 = .ok (.aload_n 0, 1) := by decide +kernel
theorem dX4_readArithmetic_30 : decode cX4_readArithmetic 30 = .ok (.getfield 158, 3) := by decide +kernel
theorem dX4_readArithmetic_33 : decode cX4_readArithmetic 33 = .ok (.ifCond .eq 11, 3) := by decide +kernel
theorem dX4_readArithmetic_36 : decode cX4_readArithmetic 36 = .ok (.aload_n 0, 1) := by decide +kernel
theorem dX4_readArithmetic_37 : decode cX4_readArithmetic 37 = .ok (.aload_n 1, 1) := by decide +kernel
theorem dX4_readArithmetic_38 : decode cX4_readArithmetic 38 = .ok (.invokevirtual 142, 3) := by decide +kernel
theorem dX4_readArithmetic_41 : decode cX4_readArithmetic 41 = .ok (.goto 8, 3) := by decide +kernel
theorem dX4_readArithmetic_44 : decode cX4_readArithmetic 44 = .ok (.aload_n 0, 1) := by decide +kernel
theorem dX4_readArithmetic_45 : decode cX4_readArithmetic 45 = .ok (.iconst 1, 1) := by decide +kernel
theorem dX4_readArithmetic_46 : decode cX4_readArithmetic 46 = .ok (.invokevirtual 61, 3) := by decide +kernel
theorem dX4_readArithmetic_49 : decode cX4_readArithmetic 49 = .ok (.ireturn, 1) := by decide +kernel
theorem dX4_readArithmetic_50 : decode cX4_readArithmetic 50 = .ok (.aload_n 0, 1) := by decide +kernel
theorem dX4_readArithmetic_51 : decode cX4_readArithmetic 51 = .ok (.aload_n 0, 1) := by decide +kernel
theorem dX4_readArithmetic_52 : decode cX4_readArithmetic 52 = .ok (.getfield 158, 3) := by decide +kernel
theorem dX4_readArithmetic_55 : decode cX4_readArithmetic 55 = .ok (.ifCond .ne 7, 3) := by decide +kernel
theorem dX4_readArithmetic_58 : decode cX4_readArithmetic 58 = .ok (.iload_n 3, 1) := by decide +kernel
theorem dX4_readArithmetic_59 : decode cX4_readArithmetic 59 = .ok (.ifCond .eq 7, 3) := by decide +kernel
theorem dX4_readArithmetic_62 : decode cX4_readArithmetic 62 = .ok (.iconst 1, 1) := by decide +kernel
theorem dX4_readArithmetic_63 : decode cX4_readArithmetic 63 = .ok (.goto 4, 3) := by decide +kernel
theorem dX4_readArithmetic_66 : decode cX4_readArithmetic 66 = .ok (.iconst 0, 1) := by decide +kernel
theorem dX4_readArithmetic_67 : decode cX4_readArithmetic 67 = .ok (.putfield 158, 3) := by decide +kernel
theorem dX4_readArithmetic_70 : decode cX4_readArithmetic 70 = .ok (.aload_n 0, 1) := by decide +kernel
theorem dX4_readArithmetic_71 : decode cX4_readArithmetic 71 = .ok (.aload_n 1, 1) := by decide +kernel
theorem dX4_readArithmetic_72 : decode cX4_readArithmetic 72 = .ok (.getstatic 171, 3) := by decide +kernel
theorem dX4_readArithmetic_75 : decode cX4_readArithmetic 75 = .ok (.iload_n 2, 1) := by decide +kernel
theorem dX4_readArithmetic_76 : decode cX4_readArithmetic 76 = .ok (.iaload, 1) := by decide +kernel
theorem dX4_readArithmetic_77 : decode cX4_readArithmetic 77 = .ok (.invokevirtual 174, 3) := by decide +kernel
theorem dX4_readArithmetic_80 : decode cX4_readArithmetic 80 = .ok (.aload_n 0, 1) := by decide +kernel
theorem dX4_readArithmetic_81 : decode cX4_readArithmetic 81 = .ok (.iload_n 2, 1) := by decide +kernel
theorem dX4_readArithmetic_82 : decode cX4_readArithmetic 82 = .ok (.invokevirtual 162, 3) := by decide +kernel
theorem dX4_readArithmetic_85 : decode cX4_readArithmetic 85 = .ok (.iload_n 2, 1) := by decide +kernel
theorem dX4_readArithmetic_86 : decode cX4_readArithmetic 86 = .ok (.bipush 10, 2) := by decide +kernel
theorem dX4_readArithmetic_88 : decode cX4_readArithmetic 88 = .ok (.if_icmp .ne 7, 3) := by decide +kernel
theorem dX4_readArithmetic_91 : decode cX4_readArithmetic 91 = .ok (.iconst 5, 1) := by decide +kernel
theorem dX4_readArithmetic_92 : decode cX4_readArithmetic 92 = .ok (.goto 4, 3) := by decide +kernel
theorem dX4_readArithmetic_95 : decode cX4_readArithmetic 95 = .ok (.iconst 4, 1) := by decide +kernel
theorem dX4_readArithmetic_96 : decode cX4_readArithmetic 96 = .ok (.ireturn, 1) := by decide +kernel
theorem dX4_signStep_0 : decode cX4_signStep 0 = .ok (.aload_n 0, 1) := by decide +kernel
theorem dX4_signStep_1 : decode cX4_signStep 1 = .ok (.getfield 12, 3) := by decide +kernel
theorem dX4_signStep_4 : decode cX4_signStep 4 = .ok (.invokevirtual 46, 3) := by decide +kernel
theorem dX4_signStep_7 : decode cX4_signStep 7 = .ok (.iconst 4, 1) := by decide +kernel
theorem dX4_signStep_8 : decode cX4_signStep 8 = .ok (.if_icmp .eq 5, 3) := by decide +kernel
theorem dX4_signStep_11 : decode cX4_signStep 11 = .ok (.iconst (-1), 1) := by decide +kernel
theorem dX4_signStep_12 : decode cX4_signStep 12 = .ok (.ireturn, 1) := by decide +kernel
theorem dX4_signStep_13 : decode cX4_signStep 13 = .ok (.aload_n 0, 1) := by decide +kernel
theorem dX4_signStep_14 : decode cX4_signStep 14 = .ok (.getfield 12, 3) := by decide +kernel
theorem dX4_signStep_17 : decode cX4_signStep 17 = .ok (.invokevirtual 58, 3) := by decide +kernel
theorem dX4_signStep_20 : decode cX4_signStep 20 = .ok (.tableswitch 119 42 62 #[113, 107, 119, 110, 119, 116, 119, 119, 119, 119, 119, 119, 119, 119, 119, 119, 119, 119, 100, 102, 104], 100) := by decide +kernel
theorem dX4_signStep_120 : decode cX4_signStep 120 = .ok (.iconst 4, 1) := by decide +kernel
theorem dX4_signStep_121 : decode cX4_signStep 121 = .ok (.ireturn, 1) := by decide +kernel
theorem dX4_signStep_122 : decode cX4_signStep 122 = .ok (.iconst 5, 1) := by decide +kernel
theorem dX4_signStep_123 : decode cX4_signStep 123 = .ok (.ireturn, 1) := by decide +kernel
theorem dX4_signStep_124 : decode cX4_signStep 124 = .ok (.bipush 6, 2) := by decide +kernel
theorem dX4_signStep_126 : decode cX4_signStep 126 = .ok (.ireturn, 1) := by decide +kernel
theorem dX4_signStep_127 : decode cX4_signStep 127 = .ok (.bipush 7, 2) := by decide +kernel
theorem dX4_signStep_129 : decode cX4_signStep 129 = .ok (.ireturn, 1) := by decide +kernel
theorem dX4_signStep_130 : decode cX4_signStep 130 = .ok (.bipush 8, 2) := by decide +kernel
theorem dX4_signStep_132 : decode cX4_signStep 132 = .ok (.ireturn, 1) := by decide +kernel
theorem dX4_signStep_133 : decode cX4_signStep 133 = .ok (.bipush 9, 2) := by decide +kernel
theorem dX4_signStep_135 : decode cX4_signStep 135 = .ok (.ireturn, 1) := by decide +kernel
theorem dX4_signStep_136 : decode cX4_signStep 136 = .ok (.bipush 10, 2) := by decide +kernel
theorem dX4_signStep_138 : decode cX4_signStep 138 = .ok (.ireturn, 1) := by decide +kernel
theorem dX4_signStep_139 : decode cX4_signStep 139 = .ok (.iconst (-1), 1) := by decide +kernel
theorem dX4_signStep_140 : decode cX4_signStep 140 = .ok (.ireturn, 1) := by decide +kernel
theorem dX4_readLogic_0 : decode cX4_readLogic 0 = .ok (.aload_n 0, 1) := by decide +kernel
theorem dX4_readLogic_1 : decode cX4_readLogic 1 = .ok (.getfield 12, 3) := by decide +kernel
theorem dX4_readLogic_4 : decode cX4_readLogic 4 = .ok (.bipush 6, 2) := by decide +kernel
theorem dX4_readLogic_6 : decode cX4_readLogic 6 = .ok (.invokevirtual 127, 3) := by decide +kernel
theorem dX4_readLogic_9 : decode cX4_readLogic 9 = .ok (.istore_n 2, 1) := by decide +kernel
theorem dX4_readLogic_10 : decode cX4_readLogic 10 = .ok (.iload_n 2, 1) := by decide +kernel
theorem dX4_readLogic_11 : decode cX4_readLogic 11 = .ok (.ifCond .ne 14, 3) := by decide +kernel
theorem dX4_readLogic_14 : decode cX4_readLogic 14 = .ok (.aload_n 0, 1) := by decide +kernel
theorem dX4_readLogic_15 : decode cX4_readLogic 15 = .ok (.getfield 12, 3) := by decide +kernel
theorem dX4_readLogic_18 : decode cX4_readLogic 18 = .ok (.iconst 5, 1) := by decide +kernel
theorem dX4_readLogic_19 : decode cX4_readLogic 19 = .ok (.invokevirtual 127, 3) := by decide +kernel
theorem dX4_readLogic_22 : decode cX4_readLogic 22 = .ok (.ifCond .eq 30, 3) := by decide +kernel
theorem dX4_readLogic_25 : decode cX4_readLogic 25 = .ok (.iload_n 2, 1) := by decide +kernel
theorem dX4_readLogic_26 : decode cX4_readLogic 26 = .ok (.ifCond .eq 7, 3) := by decide +kernel
theorem dX4_readLogic_29 : decode cX4_readLogic 29 = .ok (.iconst 2, 1) := by decide +kernel
theorem dX4_readLogic_30 : decode cX4_readLogic 30 = .ok (.goto 4, 3) := by decide +kernel
theorem dX4_readLogic_33 : decode cX4_readLogic 33 = .ok (.iconst 1, 1) := by decide +kernel
theorem dX4_readLogic_34 : decode cX4_readLogic 34 = .ok (.istore_n 3, 1) := by decide +kernel
theorem dX4_readLogic_35 : decode cX4_readLogic 35 = .ok (.aload_n 0, 1) := by decide +kernel
theorem dX4_readLogic_36 : decode cX4_readLogic 36 = .ok (.aload_n 1, 1) := by decide +kernel
theorem dX4_readLogic_37 : decode cX4_readLogic 37 = .ok (.getstatic 171, 3) := by decide +kernel
theorem dX4_readLogic_40 : decode cX4_readLogic 40 = .ok (.iload_n 3, 1) := by decide +kernel
theorem dX4_readLogic_41 : decode cX4_readLogic 41 = .ok (.iaload, 1) := by decide +kernel
theorem dX4_readLogic_42 : decode cX4_readLogic 42 = .ok (.invokevirtual 174, 3) := by decide +kernel
theorem dX4_readLogic_45 : decode cX4_readLogic 45 = .ok (.aload_n 0, 1) := by decide +kernel
theorem dX4_readLogic_46 : decode cX4_readLogic 46 = .ok (.iload_n 3, 1) := by decide +kernel
theorem dX4_readLogic_47 : decode cX4_readLogic 47 = .ok (.invokevirtual 162, 3) := by decide +kernel
theorem dX4_readLogic_50 : decode cX4_readLogic 50 = .ok (.iconst 3, 1) := by decide +kernel
theorem dX4_readLogic_51 : decode cX4_readLogic 51 = .ok (.ireturn, 1) := by decide +kernel
theorem dX4_readLogic_52 : decode cX4_readLogic 52 = .ok (.aload_n 0, 1) := by decide +kernel
theorem dX4_readLogic_53 : decode cX4_readLogic 53 = .ok (.getfield 12, 3) := by decide +kernel
theorem dX4_readLogic_56 : decode cX4_readLogic 56 = .ok (.bipush 41, 2) := by decide +kernel
theorem dX4_readLogic_58 : decode cX4_readLogic 58 = .ok (.invokevirtual 114, 3) := by decide +kernel
theorem dX4_readLogic_61 : decode cX4_readLogic 61 = .ok (.istore_n 3, 1) := by decide +kernel
theorem dX4_readLogic_62 : decode cX4_readLogic 62 = .ok (.iload_n 3, 1) := by decide +kernel
theorem dX4_readLogic_63 : decode cX4_readLogic 63 = .ok (.ifCond .ne 21, 3) := by decide +kernel
theorem dX4_readLogic_66 : decode cX4_readLogic 66 = .ok (.aload_n 0, 1) := by decide +kernel
theorem dX4_readLogic_67 : decode cX4_readLogic 67 = .ok (.getfield 12, 3) := by decide +kernel
theorem dX4_readLogic_70 : decode cX4_readLogic 70 = .ok (.bipush 59, 2) := by decide +kernel
theorem dX4_readLogic_72 : decode cX4_readLogic 72 = .ok (.invokevirtual 114, 3) := by decide +kernel
theorem dX4_readLogic_75 : decode cX4_readLogic 75 = .ok (.ifCond .ne 9, 3) := by decide +kernel
theorem dX4_readLogic_78 : decode cX4_readLogic 78 = .ok (.aload_n 0, 1) := by decide +kernel
theorem dX4_readLogic_79 : decode cX4_readLogic 79 = .ok (.iconst 1, 1) := by decide +kernel
theorem dX4_readLogic_80 : decode cX4_readLogic 80 = .ok (.invokevirtual 61, 3) := by decide +kernel
theorem dX4_readLogic_83 : decode cX4_readLogic 83 = .ok (.ireturn, 1) := by decide +kernel
theorem dX4_readLogic_84 : decode cX4_readLogic 84 = .ok (.aload_n 0, 1) := by decide +kernel
theorem dX4_readLogic_85 : decode cX4_readLogic 85 = .ok (.aload_n 1, 1) := by decide +kernel
theorem dX4_readLogic_86 : decode cX4_readLogic 86 = .ok (.getstatic 171, 3) := by decide +kernel
theorem dX4_readLogic_89 : decode cX4_readLogic 89 = .ok (.iconst 1, 1) := by decide +kernel
theorem dX4_readLogic_90 : decode cX4_readLogic 90 = .ok (.iaload, 1) := by decide +kernel
theorem dX4_readLogic_91 : decode cX4_readLogic 91 = .ok (.invokevirtual 174, 3) := by decide +kernel
theorem dX4_readLogic_94 : decode cX4_readLogic 94 = .ok (.iload_n 3, 1) := by decide +kernel
theorem dX4_readLogic_95 : decode cX4_readLogic 95 = .ok (.aload_n 0, 1) := by decide +kernel
theorem dX4_readLogic_96 : decode cX4_readLogic 96 = .ok (.getfield 152, 3) := by decide +kernel
theorem dX4_readLogic_99 : decode cX4_readLogic 99 = .ok (.ifCond .le 7, 3) := by decide +kernel
theorem dX4_readLogic_102 : decode cX4_readLogic 102 = .ok (.iconst 1, 1) := by decide +kernel
theorem dX4_readLogic_103 : decode cX4_readLogic 103 = .ok (.goto 4, 3) := by decide +kernel
theorem dX4_readLogic_106 : decode cX4_readLogic 106 = .ok (.iconst 0, 1) := by decide +kernel
theorem dX4_readLogic_107 : decode cX4_readLogic 107 = .ok (.if_icmp .eq 9, 3) := by decide +kernel
theorem dX4_readLogic_110 : decode cX4_readLogic 110 = .ok (.aload_n 0, 1) := by decide +kernel
theorem dX4_readLogic_111 : decode cX4_readLogic 111 = .ok (.iconst 1, 1) := by decide +kernel
theorem dX4_readLogic_112 : decode cX4_readLogic 112 = .ok (.invokevirtual 61, 3) := by decide +kernel
theorem dX4_readLogic_115 : decode cX4_readLogic 115 = .ok (.ireturn, 1) := by decide +kernel
theorem dX4_readLogic_116 : decode cX4_readLogic 116 = .ok (.iload_n 3, 1) := by decide +kernel
theorem dX4_readLogic_117 : decode cX4_readLogic 117 = .ok (.ifCond .ne 5, 3) := by decide +kernel
theorem dX4_readLogic_120 : decode cX4_readLogic 120 = .ok (.iconst 1, 1) := by decide +kernel
theorem dX4_readLogic_121 : decode cX4_readLogic 121 = .ok (.ireturn, 1) := by decide +kernel
theorem dX4_readLogic_122 : decode cX4_readLogic 122 = .ok (.aload_n 0, 1) := by decide +kernel
theorem dX4_readLogic_123 : decode cX4_readLogic 123 = .ok (.dup, 1) := by decide +kernel
theorem dX4_readLogic_124 : decode cX4_readLogic 124 = .ok (.getfield 152, 3) := by decide +kernel
theorem dX4_readLogic_127 : decode cX4_readLogic 127 = .ok (.iconst 1, 1) := by decide +kernel
theorem dX4_readLogic_128 : decode cX4_readLogic 128 = .ok (.isub, 1) := by decide +kernel
theorem dX4_readLogic_129 : decode cX4_readLogic 129 = .ok (.putfield 152, 3) := by decide +kernel
theorem dX4_readLogic_132 : decode cX4_readLogic 132 = .ok (.aload_n 0, 1) := by decide +kernel
theorem dX4_readLogic_133 : decode cX4_readLogic 133 = .ok (.dup, 1) := by decide +kernel
theorem dX4_readLogic_134 : decode cX4_readLogic 134 = .ok (.getfield 155, 3) := by decide +kernel
theorem dX4_readLogic_137 : decode cX4_readLogic 137 = .ok (.iconst 1, 1) := by decide +kernel
theorem dX4_readLogic_138 : decode cX4_readLogic 138 = .ok (.isub, 1) := by decide +kernel
theorem dX4_readLogic_139 : decode cX4_readLogic 139 = .ok (.putfield 155, 3) := by decide +kernel
theorem dX4_readLogic_142 : decode cX4_readLogic 142 = .ok (.bipush 7, 2) := by decide +kernel
theorem dX4_readLogic_144 : decode cX4_readLogic 144 = .ok (.ireturn, 1) := by decide +kernel
theorem dX4_putOff_0 : decode cX4_putOff 0 = .ok (.aload_n 0, 1) := by decide +kernel
theorem dX4_putOff_1 : decode cX4_putOff 1 = .ok (.getfield 152, 3) := by decide +kernel
theorem dX4_putOff_4 : decode cX4_putOff 4 = .ok (.bipush 64, 2) := by decide +kernel
theorem dX4_putOff_6 : decode cX4_putOff 6 = .ok (.if_icmp .ge 23, 3) := by decide +kernel
theorem dX4_putOff_9 : decode cX4_putOff 9 = .ok (.aload_n 0, 1) := by decide +kernel
theorem dX4_putOff_10 : decode cX4_putOff 10 = .ok (.getfield 18, 3) := by decide +kernel
theorem dX4_putOff_13 : decode cX4_putOff 13 = .ok (.aload_n 0, 1) := by decide +kernel
theorem dX4_putOff_14 : decode cX4_putOff 14 = .ok (.getfield 152, 3) := by decide +kernel
theorem dX4_putOff_17 : decode cX4_putOff 17 = .ok (.iload_n 1, 1) := by decide +kernel
theorem dX4_putOff_18 : decode cX4_putOff 18 = .ok (.iastore, 1) := by decide +kernel
theorem dX4_putOff_19 : decode cX4_putOff 19 = .ok (.aload_n 0, 1) := by decide +kernel
theorem dX4_putOff_20 : decode cX4_putOff 20 = .ok (.dup, 1) := by decide +kernel
theorem dX4_putOff_21 : decode cX4_putOff 21 = .ok (.getfield 152, 3) := by decide +kernel
theorem dX4_putOff_24 : decode cX4_putOff 24 = .ok (.iconst 1, 1) := by decide +kernel
theorem dX4_putOff_25 : decode cX4_putOff 25 = .ok (.iadd, 1) := by decide +kernel
theorem dX4_putOff_26 : decode cX4_putOff 26 = .ok (.putfield 152, 3) := by decide +kernel
theorem dX4_putOff_29 : decode cX4_putOff 29 = .ok (.return_, 1) := by decide +kernel
theorem dX4_release_0 : decode cX4_release 0 = .ok (.aload_n 0, 1) := by decide +kernel
theorem dX4_release_1 : decode cX4_release 1 = .ok (.getfield 152, 3) := by decide +kernel
theorem dX4_release_4 : decode cX4_release 4 = .ok (.ifCond .le 72, 3) := by decide +kernel
theorem dX4_release_7 : decode cX4_release 7 = .ok (.getstatic 171, 3) := by decide +kernel
theorem dX4_release_10 : decode cX4_release 10 = .ok (.aload_n 0, 1) := by decide +kernel
theorem dX4_release_11 : decode cX4_release 11 = .ok (.getfield 18, 3) := by decide +kernel
theorem dX4_release_14 : decode cX4_release 14 = .ok (.aload_n 0, 1) := by decide +kernel
theorem dX4_release_15 : decode cX4_release 15 = .ok (.getfield 152, 3) := by decide +kernel
theorem dX4_release_18 : decode cX4_release 18 = .ok (.iconst 1, 1) := by decide +kernel
theorem dX4_release_19 : decode cX4_release 19 = .ok (.isub, 1) := by decide +kernel
theorem dX4_release_20 : decode cX4_release 20 = .ok (.iaload, 1) := by decide +kernel
theorem dX4_release_21 : decode cX4_release 21 = .ok (.iaload, 1) := by decide +kernel
theorem dX4_release_22 : decode cX4_release 22 = .ok (.iload_n 2, 1) := by decide +kernel
theorem dX4_release_23 : decode cX4_release 23 = .ok (.if_icmp .lt 53, 3) := by decide +kernel
theorem dX4_release_26 : decode cX4_release 26 = .ok (.aload_n 0, 1) := by decide +kernel
theorem dX4_release_27 : decode cX4_release 27 = .ok (.dup, 1) := by decide +kernel
theorem dX4_release_28 : decode cX4_release 28 = .ok (.getfield 152, 3) := by decide +kernel
theorem dX4_release_31 : decode cX4_release 31 = .ok (.iconst 1, 1) := by decide +kernel
theorem dX4_release_32 : decode cX4_release 32 = .ok (.isub, 1) := by decide +kernel
theorem dX4_release_33 : decode cX4_release 33 = .ok (.putfield 152, 3) := by decide +kernel
theorem dX4_release_36 : decode cX4_release 36 = .ok (.aload_n 1, 1) := by decide +kernel
theorem dX4_release_37 : decode cX4_release 37 = .ok (.aload_n 0, 1) := by decide +kernel
theorem dX4_release_38 : decode cX4_release 38 = .ok (.getfield 18, 3) := by decide +kernel
theorem dX4_release_41 : decode cX4_release 41 = .ok (.aload_n 0, 1) := by decide +kernel
theorem dX4_release_42 : decode cX4_release 42 = .ok (.getfield 152, 3) := by decide +kernel
theorem dX4_release_45 : decode cX4_release 45 = .ok (.iaload, 1) := by decide +kernel
theorem dX4_release_46 : decode cX4_release 46 = .ok (.iconst 0, 1) := by decide +kernel
theorem dX4_release_47 : decode cX4_release 47 = .ok (.invokevirtual 165, 3) := by decide +kernel
theorem dX4_release_50 : decode cX4_release 50 = .ok (.aload_n 0, 1) := by decide +kernel
theorem dX4_release_51 : decode cX4_release 51 = .ok (.getfield 18, 3) := by decide +kernel
theorem dX4_release_54 : decode cX4_release 54 = .ok (.aload_n 0, 1) := by decide +kernel
theorem dX4_release_55 : decode cX4_release 55 = .ok (.getfield 152, 3) := by decide +kernel
theorem dX4_release_58 : decode cX4_release 58 = .ok (.iaload, 1) := by decide +kernel
theorem dX4_release_59 : decode cX4_release 59 = .ok (.iconst 3, 1) := by decide +kernel
theorem dX4_release_60 : decode cX4_release 60 = .ok (.if_icmp .ne (-60), 3) := by decide +kernel
theorem dX4_release_63 : decode cX4_release 63 = .ok (.aload_n 0, 1) := by decide +kernel
theorem dX4_release_64 : decode cX4_release 64 = .ok (.dup, 1) := by decide +kernel
theorem dX4_release_65 : decode cX4_release 65 = .ok (.getfield 155, 3) := by decide +kernel
theorem dX4_release_68 : decode cX4_release 68 = .ok (.iconst 1, 1) := by decide +kernel
theorem dX4_release_69 : decode cX4_release 69 = .ok (.isub, 1) := by decide +kernel
theorem dX4_release_70 : decode cX4_release 70 = .ok (.putfield 155, 3) := by decide +kernel
theorem dX4_release_73 : decode cX4_release 73 = .ok (.goto (-73), 3) := by decide +kernel
theorem dX4_release_76 : decode cX4_release 76 = .ok (.return_, 1) := by decide +kernel
theorem dX9_init_0 : decode cX9_init 0 = .ok (.aload_n 0, 1) := by decide +kernel
theorem dX9_init_1 : decode cX9_init 1 = .ok (.invokespecial 3, 3) := by decide +kernel
theorem dX9_init_4 : decode cX9_init 4 = .ok (.aload_n 0, 1) := by decide +kernel
theorem dX9_init_5 : decode cX9_init 5 = .ok (.bipush 10, 2) := by decide +kernel
theorem dX9_init_7 : decode cX9_init 7 = .ok (.sipush 300, 3) := by decide +kernel
theorem dX9_init_10 : decode cX9_init 10 = .ok (.multianewarray 9 2, 4) := by decide +kernel
theorem dX9_init_14 : decode cX9_init 14 = .ok (.putfield 11, 3) := by decide +kernel
theorem dX9_init_17 : decode cX9_init 17 = .ok (.iconst 1, 1) := by decide +kernel
theorem dX9_init_18 : decode cX9_init 18 = .ok (.istore_n 1, 1) := by decide +kernel
theorem dX9_init_19 : decode cX9_init 19 = .ok (.iload_n 1, 1) := by decide +kernel
theorem dX9_init_20 : decode cX9_init 20 = .ok (.iconst 3, 1) := by decide +kernel
theorem dX9_init_21 : decode cX9_init 21 = .ok (.if_icmp .gt 19, 3) := by decide +kernel
theorem dX9_init_24 : decode cX9_init 24 = .ok (.aload_n 0, 1) := by decide +kernel
theorem dX9_init_25 : decode cX9_init 25 = .ok (.getfield 11, 3) := by decide +kernel
theorem dX9_init_28 : decode cX9_init 28 = .ok (.iload_n 1, 1) := by decide +kernel
theorem dX9_init_29 : decode cX9_init 29 = .ok (.aaload, 1) := by decide +kernel
theorem dX9_init_30 : decode cX9_init 30 = .ok (.iconst (-1), 1) := by decide +kernel
theorem dX9_init_31 : decode cX9_init 31 = .ok (.invokestatic 16, 3) := by decide +kernel
theorem dX9_init_34 : decode cX9_init 34 = .ok (.iinc 1 1, 3) := by decide +kernel
theorem dX9_init_37 : decode cX9_init 37 = .ok (.goto (-18), 3) := by decide +kernel
theorem dX9_init_40 : decode cX9_init 40 = .ok (.return_, 1) := by decide +kernel
theorem dX9_blankFrom_0 : decode cX9_blankFrom 0 = .ok (.iconst 0, 1) := by decide +kernel
theorem dX9_blankFrom_1 : decode cX9_blankFrom 1 = .ok (.istore_n 2, 1) := by decide +kernel
theorem dX9_blankFrom_2 : decode cX9_blankFrom 2 = .ok (.iload_n 2, 1) := by decide +kernel
theorem dX9_blankFrom_3 : decode cX9_blankFrom 3 = .ok (.bipush 10, 2) := by decide +kernel
theorem dX9_blankFrom_5 : decode cX9_blankFrom 5 = .ok (.if_icmp .ge 27, 3) := by decide +kernel
theorem dX9_blankFrom_8 : decode cX9_blankFrom 8 = .ok (.aload_n 0, 1) := by decide +kernel
theorem dX9_blankFrom_9 : decode cX9_blankFrom 9 = .ok (.getfield 11, 3) := by decide +kernel
theorem dX9_blankFrom_12 : decode cX9_blankFrom 12 = .ok (.iload_n 2, 1) := by decide +kernel
theorem dX9_blankFrom_13 : decode cX9_blankFrom 13 = .ok (.aaload, 1) := by decide +kernel
theorem dX9_blankFrom_14 : decode cX9_blankFrom 14 = .ok (.iload_n 1, 1) := by decide +kernel
theorem dX9_blankFrom_15 : decode cX9_blankFrom 15 = .ok (.sipush 300, 3) := by decide +kernel
theorem dX9_blankFrom_18 : decode cX9_blankFrom 18 = .ok (.getstatic 22, 3) := by decide +kernel
theorem dX9_blankFrom_21 : decode cX9_blankFrom 21 = .ok (.iload_n 2, 1) := by decide +kernel
theorem dX9_blankFrom_22 : decode cX9_blankFrom 22 = .ok (.iaload, 1) := by decide +kernel
theorem dX9_blankFrom_23 : decode cX9_blankFrom 23 = .ok (.invokestatic 26, 3) := by decide +kernel
theorem dX9_blankFrom_26 : decode cX9_blankFrom 26 = .ok (.iinc 2 1, 3) := by decide +kernel
theorem dX9_blankFrom_29 : decode cX9_blankFrom 29 = .ok (.goto (-27), 3) := by decide +kernel
theorem dX9_blankFrom_32 : decode cX9_blankFrom 32 = .ok (.return_, 1) := by decide +kernel
theorem dX9_isBlank_0 : decode cX9_isBlank 0 = .ok (.aload_n 0, 1) := by decide +kernel
theorem dX9_isBlank_1 : decode cX9_isBlank 1 = .ok (.getfield 11, 3) := by decide +kernel
theorem dX9_isBlank_4 : decode cX9_isBlank 4 = .ok (.bipush 7, 2) := by decide +kernel
theorem dX9_isBlank_6 : decode cX9_isBlank 6 = .ok (.aaload, 1) := by decide +kernel
theorem dX9_isBlank_7 : decode cX9_isBlank 7 = .ok (.iload_n 1, 1) := by decide +kernel
theorem dX9_isBlank_8 : decode cX9_isBlank 8 = .ok (.iaload, 1) := by decide +kernel
theorem dX9_isBlank_9 : decode cX9_isBlank 9 = .ok (.ifCond .ne 7, 3) := by decide +kernel
theorem dX9_isBlank_12 : decode cX9_isBlank 12 = .ok (.iconst 1, 1) := by decide +kernel
theorem dX9_isBlank_13 : decode cX9_isBlank 13 = .ok (.goto 4, 3) := by decide +kernel
theorem dX9_isBlank_16 : decode cX9_isBlank 16 = .ok (.iconst 0, 1) := by decide +kernel
theorem dX9_isBlank_17 : decode cX9_isBlank 17 = .ok (.ireturn, 1) := by decide +kernel
theorem dX9_hasBlank_0 : decode cX9_hasBlank 0 = .ok (.iload_n 1, 1) := by decide +kernel
theorem dX9_hasBlank_1 : decode cX9_hasBlank 1 = .ok (.istore_n 3, 1) := by decide +kernel
theorem dX9_hasBlank_2 : decode cX9_hasBlank 2 = .ok (.iload_n 3, 1) := by decide +kernel
theorem dX9_hasBlank_3 : decode cX9_hasBlank 3 = .ok (.iload_n 2, 1) := by decide +kernel
theorem dX9_hasBlank_4 : decode cX9_hasBlank 4 = .ok (.if_icmp .gt 19, 3) := by decide +kernel
theorem dX9_hasBlank_7 : decode cX9_hasBlank 7 = .ok (.aload_n 0, 1) := by decide +kernel
theorem dX9_hasBlank_8 : decode cX9_hasBlank 8 = .ok (.iload_n 3, 1) := by decide +kernel
theorem dX9_hasBlank_9 : decode cX9_hasBlank 9 = .ok (.invokevirtual 29, 3) := by decide +kernel
theorem dX9_hasBlank_12 : decode cX9_hasBlank 12 = .ok (.ifCond .eq 5, 3) := by decide +kernel
theorem dX9_hasBlank_15 : decode cX9_hasBlank 15 = .ok (.iconst 1, 1) := by decide +kernel
theorem dX9_hasBlank_16 : decode cX9_hasBlank 16 = .ok (.ireturn, 1) := by decide +kernel
theorem dX9_hasBlank_17 : decode cX9_hasBlank 17 = .ok (.iinc 3 1, 3) := by decide +kernel
theorem dX9_hasBlank_20 : decode cX9_hasBlank 20 = .ok (.goto (-18), 3) := by decide +kernel
theorem dX9_hasBlank_23 : decode cX9_hasBlank 23 = .ok (.iconst 0, 1) := by decide +kernel
theorem dX9_hasBlank_24 : decode cX9_hasBlank 24 = .ok (.ireturn, 1) := by decide +kernel
theorem dX9_countUnlike_0 : decode cX9_countUnlike 0 = .ok (.iconst 0, 1) := by decide +kernel
theorem dX9_countUnlike_1 : decode cX9_countUnlike 1 = .ok (.istore_n 3, 1) := by decide +kernel
theorem dX9_countUnlike_2 : decode cX9_countUnlike 2 = .ok (.iconst 0, 1) := by decide +kernel
theorem dX9_countUnlike_3 : decode cX9_countUnlike 3 = .ok (.istore 4, 2) := by decide +kernel
theorem dX9_countUnlike_5 : decode cX9_countUnlike 5 = .ok (.iload 4, 2) := by decide +kernel
theorem dX9_countUnlike_7 : decode cX9_countUnlike 7 = .ok (.sipush 300, 3) := by decide +kernel
theorem dX9_countUnlike_10 : decode cX9_countUnlike 10 = .ok (.if_icmp .ge 25, 3) := by decide +kernel
theorem dX9_countUnlike_13 : decode cX9_countUnlike 13 = .ok (.aload_n 0, 1) := by decide +kernel
theorem dX9_countUnlike_14 : decode cX9_countUnlike 14 = .ok (.getfield 11, 3) := by decide +kernel
theorem dX9_countUnlike_17 : decode cX9_countUnlike 17 = .ok (.iload_n 1, 1) := by decide +kernel
theorem dX9_countUnlike_18 : decode cX9_countUnlike 18 = .ok (.aaload, 1) := by decide +kernel
theorem dX9_countUnlike_19 : decode cX9_countUnlike 19 = .ok (.iload 4, 2) := by decide +kernel
theorem dX9_countUnlike_21 : decode cX9_countUnlike 21 = .ok (.iaload, 1) := by decide +kernel
theorem dX9_countUnlike_22 : decode cX9_countUnlike 22 = .ok (.iload_n 2, 1) := by decide +kernel
theorem dX9_countUnlike_23 : decode cX9_countUnlike 23 = .ok (.if_icmp .eq 6, 3) := by decide +kernel
theorem dX9_countUnlike_26 : decode cX9_countUnlike 26 = .ok (.iinc 3 1, 3) := by decide +kernel
theorem dX9_countUnlike_29 : decode cX9_countUnlike 29 = .ok (.iinc 4 1, 3) := by decide +kernel
theorem dX9_countUnlike_32 : decode cX9_countUnlike 32 = .ok (.goto (-27), 3) := by decide +kernel
theorem dX9_countUnlike_35 : decode cX9_countUnlike 35 = .ok (.iload_n 3, 1) := by decide +kernel
theorem dX9_countUnlike_36 : decode cX9_countUnlike 36 = .ok (.ireturn, 1) := by decide +kernel
theorem dX9_countSame_0 : decode cX9_countSame 0 = .ok (.iconst 0, 1) := by decide +kernel
theorem dX9_countSame_1 : decode cX9_countSame 1 = .ok (.istore_n 2, 1) := by decide +kernel
theorem dX9_countSame_2 : decode cX9_countSame 2 = .ok (.iconst 0, 1) := by decide +kernel
theorem dX9_countSame_3 : decode cX9_countSame 3 = .ok (.istore_n 3, 1) := by decide +kernel
theorem dX9_countSame_4 : decode cX9_countSame 4 = .ok (.iload_n 3, 1) := by decide +kernel
theorem dX9_countSame_5 : decode cX9_countSame 5 = .ok (.bipush 7, 2) := by decide +kernel
theorem dX9_countSame_7 : decode cX9_countSame 7 = .ok (.if_icmp .ge 50, 3) := by decide +kernel
theorem dX9_countSame_10 : decode cX9_countSame 10 = .ok (.iconst 0, 1) := by decide +kernel
theorem dX9_countSame_11 : decode cX9_countSame 11 = .ok (.istore 4, 2) := by decide +kernel
theorem dX9_countSame_13 : decode cX9_countSame 13 = .ok (.iload 4, 2) := by decide +kernel
theorem dX9_countSame_15 : decode cX9_countSame 15 = .ok (.sipush 300, 3) := by decide +kernel
theorem dX9_countSame_18 : decode cX9_countSame 18 = .ok (.if_icmp .ge 33, 3) := by decide +kernel
theorem dX9_countSame_21 : decode cX9_countSame 21 = .ok (.aload_n 0, 1) := by decide +kernel
theorem dX9_countSame_22 : decode cX9_countSame 22 = .ok (.getfield 11, 3) := by decide +kernel
theorem dX9_countSame_25 : decode cX9_countSame 25 = .ok (.iload_n 3, 1) := by decide +kernel
theorem dX9_countSame_26 : decode cX9_countSame 26 = .ok (.aaload, 1) := by decide +kernel
theorem dX9_countSame_27 : decode cX9_countSame 27 = .ok (.iload 4, 2) := by decide +kernel
theorem dX9_countSame_29 : decode cX9_countSame 29 = .ok (.iaload, 1) := by decide +kernel
theorem dX9_countSame_30 : decode cX9_countSame 30 = .ok (.aload_n 1, 1) := by decide +kernel
theorem dX9_countSame_31 : decode cX9_countSame 31 = .ok (.getfield 11, 3) := by decide +kernel
theorem dX9_countSame_34 : decode cX9_countSame 34 = .ok (.iload_n 3, 1) := by decide +kernel
theorem dX9_countSame_35 : decode cX9_countSame 35 = .ok (.aaload, 1) := by decide +kernel
theorem dX9_countSame_36 : decode cX9_countSame 36 = .ok (.iload 4, 2) := by decide +kernel
theorem dX9_countSame_38 : decode cX9_countSame 38 = .ok (.iaload, 1) := by decide +kernel
theorem dX9_countSame_39 : decode cX9_countSame 39 = .ok (.if_icmp .ne 6, 3) := by decide +kernel
theorem dX9_countSame_42 : decode cX9_countSame 42 = .ok (.iinc 2 1, 3) := by decide +kernel
theorem dX9_countSame_45 : decode cX9_countSame 45 = .ok (.iinc 4 1, 3) := by decide +kernel
theorem dX9_countSame_48 : decode cX9_countSame 48 = .ok (.goto (-35), 3) := by decide +kernel
theorem dX9_countSame_51 : decode cX9_countSame 51 = .ok (.iinc 3 1, 3) := by decide +kernel
theorem dX9_countSame_54 : decode cX9_countSame 54 = .ok (.goto (-50), 3) := by decide +kernel
theorem dX9_countSame_57 : decode cX9_countSame 57 = .ok (.iload_n 2, 1) := by decide +kernel
theorem dX9_countSame_58 : decode cX9_countSame 58 = .ok (.ireturn, 1) := by decide +kernel
theorem dX9_canHear_0 : decode cX9_canHear 0 = .ok (.iload_n 2, 1) := by decide +kernel
theorem dX9_canHear_1 : decode cX9_canHear 1 = .ok (.iconst 1, 1) := by decide +kernel
theorem dX9_canHear_2 : decode cX9_canHear 2 = .ok (.if_icmp .ne 11, 3) := by decide +kernel
theorem dX9_canHear_5 : decode cX9_canHear 5 = .ok (.iload_n 3, 1) := by decide +kernel
theorem dX9_canHear_6 : decode cX9_canHear 6 = .ok (.iconst (-1), 1) := by decide +kernel
theorem dX9_canHear_7 : decode cX9_canHear 7 = .ok (.bipush 9, 2) := by decide +kernel
theorem dX9_canHear_9 : decode cX9_canHear 9 = .ok (.invokestatic 33, 3) := by decide +kernel
theorem dX9_canHear_12 : decode cX9_canHear 12 = .ok (.ireturn, 1) := by decide +kernel
theorem dX9_canHear_13 : decode cX9_canHear 13 = .ok (.iload_n 2, 1) := by decide +kernel
theorem dX9_canHear_14 : decode cX9_canHear 14 = .ok (.iconst 2, 1) := by decide +kernel
theorem dX9_canHear_15 : decode cX9_canHear 15 = .ok (.if_icmp .ne 36, 3) := by decide +kernel
theorem dX9_canHear_18 : decode cX9_canHear 18 = .ok (.iload_n 3, 1) := by decide +kernel
theorem dX9_canHear_19 : decode cX9_canHear 19 = .ok (.iconst (-1), 1) := by decide +kernel
theorem dX9_canHear_20 : decode cX9_canHear 20 = .ok (.bipush 63, 2) := by decide +kernel
theorem dX9_canHear_22 : decode cX9_canHear 22 = .ok (.invokestatic 33, 3) := by decide +kernel
theorem dX9_canHear_25 : decode cX9_canHear 25 = .ok (.ifCond .eq 24, 3) := by decide +kernel
theorem dX9_canHear_28 : decode cX9_canHear 28 = .ok (.iload_n 3, 1) := by decide +kernel
theorem dX9_canHear_29 : decode cX9_canHear 29 = .ok (.iconst (-1), 1) := by decide +kernel
theorem dX9_canHear_30 : decode cX9_canHear 30 = .ok (.if_icmp .ne 15, 3) := by decide +kernel
theorem dX9_canHear_33 : decode cX9_canHear 33 = .ok (.aload_n 0, 1) := by decide +kernel
theorem dX9_canHear_34 : decode cX9_canHear 34 = .ok (.getfield 11, 3) := by decide +kernel
theorem dX9_canHear_37 : decode cX9_canHear 37 = .ok (.iconst 3, 1) := by decide +kernel
theorem dX9_canHear_38 : decode cX9_canHear 38 = .ok (.aaload, 1) := by decide +kernel
theorem dX9_canHear_39 : decode cX9_canHear 39 = .ok (.iload_n 1, 1) := by decide +kernel
theorem dX9_canHear_40 : decode cX9_canHear 40 = .ok (.iaload, 1) := by decide +kernel
theorem dX9_canHear_41 : decode cX9_canHear 41 = .ok (.iconst (-1), 1) := by decide +kernel
theorem dX9_canHear_42 : decode cX9_canHear 42 = .ok (.if_icmp .ne 7, 3) := by decide +kernel
theorem dX9_canHear_45 : decode cX9_canHear 45 = .ok (.iconst 1, 1) := by decide +kernel
theorem dX9_canHear_46 : decode cX9_canHear 46 = .ok (.goto 4, 3) := by decide +kernel
theorem dX9_canHear_49 : decode cX9_canHear 49 = .ok (.iconst 0, 1) := by decide +kernel
theorem dX9_canHear_50 : decode cX9_canHear 50 = .ok (.ireturn, 1) := by decide +kernel
theorem dX9_canHear_51 : decode cX9_canHear 51 = .ok (.iload_n 2, 1) := by decide +kernel
theorem dX9_canHear_52 : decode cX9_canHear 52 = .ok (.iconst 3, 1) := by decide +kernel
theorem dX9_canHear_53 : decode cX9_canHear 53 = .ok (.if_icmp .ne 36, 3) := by decide +kernel
theorem dX9_canHear_56 : decode cX9_canHear 56 = .ok (.iload_n 3, 1) := by decide +kernel
theorem dX9_canHear_57 : decode cX9_canHear 57 = .ok (.iconst (-1), 1) := by decide +kernel
theorem dX9_canHear_58 : decode cX9_canHear 58 = .ok (.bipush 63, 2) := by decide +kernel
theorem dX9_canHear_60 : decode cX9_canHear 60 = .ok (.invokestatic 33, 3) := by decide +kernel
theorem dX9_canHear_63 : decode cX9_canHear 63 = .ok (.ifCond .eq 24, 3) := by decide +kernel
theorem dX9_canHear_66 : decode cX9_canHear 66 = .ok (.iload_n 3, 1) := by decide +kernel
theorem dX9_canHear_67 : decode cX9_canHear 67 = .ok (.iconst (-1), 1) := by decide +kernel
theorem dX9_canHear_68 : decode cX9_canHear 68 = .ok (.if_icmp .eq 15, 3) := by decide +kernel
theorem dX9_canHear_71 : decode cX9_canHear 71 = .ok (.aload_n 0, 1) := by decide +kernel
theorem dX9_canHear_72 : decode cX9_canHear 72 = .ok (.getfield 11, 3) := by decide +kernel
theorem dX9_canHear_75 : decode cX9_canHear 75 = .ok (.iconst 2, 1) := by decide +kernel
theorem dX9_canHear_76 : decode cX9_canHear 76 = .ok (.aaload, 1) := by decide +kernel
theorem dX9_canHear_77 : decode cX9_canHear 77 = .ok (.iload_n 1, 1) := by decide +kernel
theorem dX9_canHear_78 : decode cX9_canHear 78 = .ok (.iaload, 1) := by decide +kernel
theorem dX9_canHear_79 : decode cX9_canHear 79 = .ok (.iconst (-1), 1) := by decide +kernel
theorem dX9_canHear_80 : decode cX9_canHear 80 = .ok (.if_icmp .eq 7, 3) := by decide +kernel
theorem dX9_canHear_83 : decode cX9_canHear 83 = .ok (.iconst 1, 1) := by decide +kernel
theorem dX9_canHear_84 : decode cX9_canHear 84 = .ok (.goto 4, 3) := by decide +kernel
theorem dX9_canHear_87 : decode cX9_canHear 87 = .ok (.iconst 0, 1) := by decide +kernel
theorem dX9_canHear_88 : decode cX9_canHear 88 = .ok (.ireturn, 1) := by decide +kernel
theorem dX9_canHear_89 : decode cX9_canHear 89 = .ok (.iload_n 3, 1) := by decide +kernel
theorem dX9_canHear_90 : decode cX9_canHear 90 = .ok (.iconst 0, 1) := by decide +kernel
theorem dX9_canHear_91 : decode cX9_canHear 91 = .ok (.bipush 99, 2) := by decide +kernel
theorem dX9_canHear_93 : decode cX9_canHear 93 = .ok (.invokestatic 33, 3) := by decide +kernel
theorem dX9_canHear_96 : decode cX9_canHear 96 = .ok (.ireturn, 1) := by decide +kernel
theorem dX9_cutOut_0 : decode cX9_cutOut 0 = .ok (.iload_n 2, 1) := by decide +kernel
theorem dX9_cutOut_1 : decode cX9_cutOut 1 = .ok (.sipush 300, 3) := by decide +kernel
theorem dX9_cutOut_4 : decode cX9_cutOut 4 = .ok (.iload_n 1, 1) := by decide +kernel
theorem dX9_cutOut_5 : decode cX9_cutOut 5 = .ok (.isub, 1) := by decide +kernel
theorem dX9_cutOut_6 : decode cX9_cutOut 6 = .ok (.invokestatic 37, 3) := by decide +kernel
theorem dX9_cutOut_9 : decode cX9_cutOut 9 = .ok (.istore_n 3, 1) := by decide +kernel
theorem dX9_cutOut_10 : decode cX9_cutOut 10 = .ok (.iload_n 1, 1) := by decide +kernel
theorem dX9_cutOut_11 : decode cX9_cutOut 11 = .ok (.ifCond .lt 7, 3) := by decide +kernel
theorem dX9_cutOut_14 : decode cX9_cutOut 14 = .ok (.iload_n 3, 1) := by decide +kernel
theorem dX9_cutOut_15 : decode cX9_cutOut 15 = .ok (.ifCond .gt 4, 3) := by decide +kernel
theorem dX9_cutOut_18 : decode cX9_cutOut 18 = .ok (.return_, 1) := by decide +kernel
theorem dX9_cutOut_19 : decode cX9_cutOut 19 = .ok (.iconst 0, 1) := by decide +kernel
theorem dX9_cutOut_20 : decode cX9_cutOut 20 = .ok (.istore 4, 2) := by decide +kernel
theorem dX9_cutOut_22 : decode cX9_cutOut 22 = .ok (.iload 4, 2) := by decide +kernel
theorem dX9_cutOut_24 : decode cX9_cutOut 24 = .ok (.bipush 10, 2) := by decide +kernel
theorem dX9_cutOut_26 : decode cX9_cutOut 26 = .ok (.if_icmp .ge 37, 3) := by decide +kernel
theorem dX9_cutOut_29 : decode cX9_cutOut 29 = .ok (.aload_n 0, 1) := by decide +kernel
theorem dX9_cutOut_30 : decode cX9_cutOut 30 = .ok (.getfield 11, 3) := by decide +kernel
theorem dX9_cutOut_33 : decode cX9_cutOut 33 = .ok (.iload 4, 2) := by decide +kernel
theorem dX9_cutOut_35 : decode cX9_cutOut 35 = .ok (.aaload, 1) := by decide +kernel
theorem dX9_cutOut_36 : decode cX9_cutOut 36 = .ok (.iload_n 1, 1) := by decide +kernel
theorem dX9_cutOut_37 : decode cX9_cutOut 37 = .ok (.iload_n 3, 1) := by decide +kernel
theorem dX9_cutOut_38 : decode cX9_cutOut 38 = .ok (.iadd, 1) := by decide +kernel
theorem dX9_cutOut_39 : decode cX9_cutOut 39 = .ok (.aload_n 0, 1) := by decide +kernel
theorem dX9_cutOut_40 : decode cX9_cutOut 40 = .ok (.getfield 11, 3) := by decide +kernel
theorem dX9_cutOut_43 : decode cX9_cutOut 43 = .ok (.iload 4, 2) := by decide +kernel
theorem dX9_cutOut_45 : decode cX9_cutOut 45 = .ok (.aaload, 1) := by decide +kernel
theorem dX9_cutOut_46 : decode cX9_cutOut 46 = .ok (.iload_n 1, 1) := by decide +kernel
theorem dX9_cutOut_47 : decode cX9_cutOut 47 = .ok (.sipush 300, 3) := by decide +kernel
theorem dX9_cutOut_50 : decode cX9_cutOut 50 = .ok (.iload_n 1, 1) := by decide +kernel
theorem dX9_cutOut_51 : decode cX9_cutOut 51 = .ok (.isub, 1) := by decide +kernel
theorem dX9_cutOut_52 : decode cX9_cutOut 52 = .ok (.iload_n 3, 1) := by decide +kernel
theorem dX9_cutOut_53 : decode cX9_cutOut 53 = .ok (.isub, 1) := by decide +kernel
theorem dX9_cutOut_54 : decode cX9_cutOut 54 = .ok (.invokestatic 43, 3) := by decide +kernel
theorem dX9_cutOut_57 : decode cX9_cutOut 57 = .ok (.iinc 4 1, 3) := by decide +kernel
theorem dX9_cutOut_60 : decode cX9_cutOut 60 = .ok (.goto (-38), 3) := by decide +kernel
theorem dX9_cutOut_63 : decode cX9_cutOut 63 = .ok (.aload_n 0, 1) := by decide +kernel
theorem dX9_cutOut_64 : decode cX9_cutOut 64 = .ok (.sipush 300, 3) := by decide +kernel
theorem dX9_cutOut_67 : decode cX9_cutOut 67 = .ok (.iload_n 3, 1) := by decide +kernel
theorem dX9_cutOut_68 : decode cX9_cutOut 68 = .ok (.isub, 1) := by decide +kernel
theorem dX9_cutOut_69 : decode cX9_cutOut 69 = .ok (.invokevirtual 49, 3) := by decide +kernel
theorem dX9_cutOut_72 : decode cX9_cutOut 72 = .ok (.aload_n 0, 1) := by decide +kernel
theorem dX9_cutOut_73 : decode cX9_cutOut 73 = .ok (.iload_n 1, 1) := by decide +kernel
theorem dX9_cutOut_74 : decode cX9_cutOut 74 = .ok (.invokevirtual 29, 3) := by decide +kernel
theorem dX9_cutOut_77 : decode cX9_cutOut 77 = .ok (.ifCond .ne 13, 3) := by decide +kernel
theorem dX9_cutOut_80 : decode cX9_cutOut 80 = .ok (.aload_n 0, 1) := by decide +kernel
theorem dX9_cutOut_81 : decode cX9_cutOut 81 = .ok (.getfield 11, 3) := by decide +kernel
theorem dX9_cutOut_84 : decode cX9_cutOut 84 = .ok (.bipush 9, 2) := by decide +kernel
theorem dX9_cutOut_86 : decode cX9_cutOut 86 = .ok (.aaload, 1) := by decide +kernel
theorem dX9_cutOut_87 : decode cX9_cutOut 87 = .ok (.iload_n 1, 1) := by decide +kernel
theorem dX9_cutOut_88 : decode cX9_cutOut 88 = .ok (.iconst 1, 1) := by decide +kernel
theorem dX9_cutOut_89 : decode cX9_cutOut 89 = .ok (.iastore, 1) := by decide +kernel
theorem dX9_cutOut_90 : decode cX9_cutOut 90 = .ok (.return_, 1) := by decide +kernel
theorem dX9_jumpOf_0 : decode cX9_jumpOf 0 = .ok (.iload_n 1, 1) := by decide +kernel
theorem dX9_jumpOf_1 : decode cX9_jumpOf 1 = .ok (.ifCond .eq 29, 3) := by decide +kernel
theorem dX9_jumpOf_4 : decode cX9_jumpOf 4 = .ok (.aload_n 0, 1) := by decide +kernel
theorem dX9_jumpOf_5 : decode cX9_jumpOf 5 = .ok (.getfield 11, 3) := by decide +kernel
theorem dX9_jumpOf_8 : decode cX9_jumpOf 8 = .ok (.iconst 2, 1) := by decide +kernel
theorem dX9_jumpOf_9 : decode cX9_jumpOf 9 = .ok (.aaload, 1) := by decide +kernel
theorem dX9_jumpOf_10 : decode cX9_jumpOf 10 = .ok (.iload_n 1, 1) := by decide +kernel
theorem dX9_jumpOf_11 : decode cX9_jumpOf 11 = .ok (.iaload, 1) := by decide +kernel
theorem dX9_jumpOf_12 : decode cX9_jumpOf 12 = .ok (.iconst (-1), 1) := by decide +kernel
theorem dX9_jumpOf_13 : decode cX9_jumpOf 13 = .ok (.if_icmp .eq 17, 3) := by decide +kernel
theorem dX9_jumpOf_16 : decode cX9_jumpOf 16 = .ok (.aload_n 0, 1) := by decide +kernel
theorem dX9_jumpOf_17 : decode cX9_jumpOf 17 = .ok (.getfield 11, 3) := by decide +kernel
theorem dX9_jumpOf_20 : decode cX9_jumpOf 20 = .ok (.iconst 2, 1) := by decide +kernel
theorem dX9_jumpOf_21 : decode cX9_jumpOf 21 = .ok (.aaload, 1) := by decide +kernel
theorem dX9_jumpOf_22 : decode cX9_jumpOf 22 = .ok (.iload_n 1, 1) := by decide +kernel
theorem dX9_jumpOf_23 : decode cX9_jumpOf 23 = .ok (.iconst 1, 1) := by decide +kernel
theorem dX9_jumpOf_24 : decode cX9_jumpOf 24 = .ok (.isub, 1) := by decide +kernel
theorem dX9_jumpOf_25 : decode cX9_jumpOf 25 = .ok (.iaload, 1) := by decide +kernel
theorem dX9_jumpOf_26 : decode cX9_jumpOf 26 = .ok (.iconst (-1), 1) := by decide +kernel
theorem dX9_jumpOf_27 : decode cX9_jumpOf 27 = .ok (.if_icmp .ne 5, 3) := by decide +kernel
theorem dX9_jumpOf_30 : decode cX9_jumpOf 30 = .ok (.iconst 0, 1) := by decide +kernel
theorem dX9_jumpOf_31 : decode cX9_jumpOf 31 = .ok (.ireturn, 1) := by decide +kernel
theorem dX9_jumpOf_32 : decode cX9_jumpOf 32 = .ok (.aload_n 0, 1) := by decide +kernel
theorem dX9_jumpOf_33 : decode cX9_jumpOf 33 = .ok (.getfield 11, 3) := by decide +kernel
theorem dX9_jumpOf_36 : decode cX9_jumpOf 36 = .ok (.iconst 2, 1) := by decide +kernel
theorem dX9_jumpOf_37 : decode cX9_jumpOf 37 = .ok (.aaload, 1) := by decide +kernel
theorem dX9_jumpOf_38 : decode cX9_jumpOf 38 = .ok (.iload_n 1, 1) := by decide +kernel
theorem dX9_jumpOf_39 : decode cX9_jumpOf 39 = .ok (.iaload, 1) := by decide +kernel
theorem dX9_jumpOf_40 : decode cX9_jumpOf 40 = .ok (.aload_n 0, 1) := by decide +kernel
theorem dX9_jumpOf_41 : decode cX9_jumpOf 41 = .ok (.getfield 11, 3) := by decide +kernel
theorem dX9_jumpOf_44 : decode cX9_jumpOf 44 = .ok (.iconst 2, 1) := by decide +kernel
theorem dX9_jumpOf_45 : decode cX9_jumpOf 45 = .ok (.aaload, 1) := by decide +kernel
theorem dX9_jumpOf_46 : decode cX9_jumpOf 46 = .ok (.iload_n 1, 1) := by decide +kernel
theorem dX9_jumpOf_47 : decode cX9_jumpOf 47 = .ok (.iconst 1, 1) := by decide +kernel
theorem dX9_jumpOf_48 : decode cX9_jumpOf 48 = .ok (.isub, 1) := by decide +kernel
theorem dX9_jumpOf_49 : decode cX9_jumpOf 49 = .ok (.iaload, 1) := by decide +kernel
theorem dX9_jumpOf_50 : decode cX9_jumpOf 50 = .ok (.isub, 1) := by decide +kernel
theorem dX9_jumpOf_51 : decode cX9_jumpOf 51 = .ok (.invokestatic 53, 3) := by decide +kernel
theorem dX9_jumpOf_54 : decode cX9_jumpOf 54 = .ok (.ireturn, 1) := by decide +kernel
theorem dX9_isJoin_0 : decode cX9_isJoin 0 = .ok (.iload_n 1, 1) := by decide +kernel
theorem dX9_isJoin_1 : decode cX9_isJoin 1 = .ok (.ifCond .ne 5, 3) := by decide +kernel
theorem dX9_isJoin_4 : decode cX9_isJoin 4 = .ok (.iconst 0, 1) := by decide +kernel
theorem dX9_isJoin_5 : decode cX9_isJoin 5 = .ok (.ireturn, 1) := by decide +kernel
theorem dX9_isJoin_6 : decode cX9_isJoin 6 = .ok (.aload_n 0, 1) := by decide +kernel
theorem dX9_isJoin_7 : decode cX9_isJoin 7 = .ok (.getfield 11, 3) := by decide +kernel
theorem dX9_isJoin_10 : decode cX9_isJoin 10 = .ok (.iconst 1, 1) := by decide +kernel
theorem dX9_isJoin_11 : decode cX9_isJoin 11 = .ok (.aaload, 1) := by decide +kernel
theorem dX9_isJoin_12 : decode cX9_isJoin 12 = .ok (.iload_n 1, 1) := by decide +kernel
theorem dX9_isJoin_13 : decode cX9_isJoin 13 = .ok (.iaload, 1) := by decide +kernel
theorem dX9_isJoin_14 : decode cX9_isJoin 14 = .ok (.istore_n 3, 1) := by decide +kernel
theorem dX9_isJoin_15 : decode cX9_isJoin 15 = .ok (.aload_n 0, 1) := by decide +kernel
theorem dX9_isJoin_16 : decode cX9_isJoin 16 = .ok (.getfield 11, 3) := by decide +kernel
theorem dX9_isJoin_19 : decode cX9_isJoin 19 = .ok (.iconst 1, 1) := by decide +kernel
theorem dX9_isJoin_20 : decode cX9_isJoin 20 = .ok (.aaload, 1) := by decide +kernel
theorem dX9_isJoin_21 : decode cX9_isJoin 21 = .ok (.iload_n 1, 1) := by decide +kernel
theorem dX9_isJoin_22 : decode cX9_isJoin 22 = .ok (.iconst 1, 1) := by decide +kernel
theorem dX9_isJoin_23 : decode cX9_isJoin 23 = .ok (.isub, 1) := by decide +kernel
theorem dX9_isJoin_24 : decode cX9_isJoin 24 = .ok (.iaload, 1) := by decide +kernel
theorem dX9_isJoin_25 : decode cX9_isJoin 25 = .ok (.istore 4, 2) := by decide +kernel
theorem dX9_isJoin_27 : decode cX9_isJoin 27 = .ok (.iload_n 3, 1) := by decide +kernel
theorem dX9_isJoin_28 : decode cX9_isJoin 28 = .ok (.iconst (-1), 1) := by decide +kernel
theorem dX9_isJoin_29 : decode cX9_isJoin 29 = .ok (.if_icmp .eq 15, 3) := by decide +kernel
theorem dX9_isJoin_32 : decode cX9_isJoin 32 = .ok (.iload 4, 2) := by decide +kernel
theorem dX9_isJoin_34 : decode cX9_isJoin 34 = .ok (.iconst (-1), 1) := by decide +kernel
theorem dX9_isJoin_35 : decode cX9_isJoin 35 = .ok (.if_icmp .eq 9, 3) := by decide +kernel
theorem dX9_isJoin_38 : decode cX9_isJoin 38 = .ok (.iload_n 3, 1) := by decide +kernel
theorem dX9_isJoin_39 : decode cX9_isJoin 39 = .ok (.iload 4, 2) := by decide +kernel
theorem dX9_isJoin_41 : decode cX9_isJoin 41 = .ok (.if_icmp .ne 12, 3) := by decide +kernel
theorem dX9_isJoin_44 : decode cX9_isJoin 44 = .ok (.aload_n 0, 1) := by decide +kernel
theorem dX9_isJoin_45 : decode cX9_isJoin 45 = .ok (.iload_n 1, 1) := by decide +kernel
theorem dX9_isJoin_46 : decode cX9_isJoin 46 = .ok (.invokevirtual 57, 3) := by decide +kernel
theorem dX9_isJoin_49 : decode cX9_isJoin 49 = .ok (.iload_n 2, 1) := by decide +kernel
theorem dX9_isJoin_50 : decode cX9_isJoin 50 = .ok (.if_icmp .le 7, 3) := by decide +kernel
theorem dX9_isJoin_53 : decode cX9_isJoin 53 = .ok (.iconst 1, 1) := by decide +kernel
theorem dX9_isJoin_54 : decode cX9_isJoin 54 = .ok (.goto 4, 3) := by decide +kernel
theorem dX9_isJoin_57 : decode cX9_isJoin 57 = .ok (.iconst 0, 1) := by decide +kernel
theorem dX9_isJoin_58 : decode cX9_isJoin 58 = .ok (.ireturn, 1) := by decide +kernel
theorem dX9_longestSilence_0 : decode cX9_longestSilence 0 = .ok (.iconst 0, 1) := by decide +kernel
theorem dX9_longestSilence_1 : decode cX9_longestSilence 1 = .ok (.istore_n 3, 1) := by decide +kernel
theorem dX9_longestSilence_2 : decode cX9_longestSilence 2 = .ok (.iconst 0, 1) := by decide +kernel
theorem dX9_longestSilence_3 : decode cX9_longestSilence 3 = .ok (.istore 4, 2) := by decide +kernel
theorem dX9_longestSilence_5 : decode cX9_longestSilence 5 = .ok (.iload_n 1, 1) := by decide +kernel
theorem dX9_longestSilence_6 : decode cX9_longestSilence 6 = .ok (.istore 5, 2) := by decide +kernel
theorem dX9_longestSilence_8 : decode cX9_longestSilence 8 = .ok (.iload 5, 2) := by decide +kernel
theorem dX9_longestSilence_10 : decode cX9_longestSilence 10 = .ok (.iload_n 2, 1) := by decide +kernel
theorem dX9_longestSilence_11 : decode cX9_longestSilence 11 = .ok (.if_icmp .gt 59, 3) := by decide +kernel
theorem dX9_longestSilence_14 : decode cX9_longestSilence 14 = .ok (.aload_n 0, 1) := by decide +kernel
theorem dX9_longestSilence_15 : decode cX9_longestSilence 15 = .ok (.getfield 11, 3) := by decide +kernel
theorem dX9_longestSilence_18 : decode cX9_longestSilence 18 = .ok (.iconst 0, 1) := by decide +kernel
theorem dX9_longestSilence_19 : decode cX9_longestSilence 19 = .ok (.aaload, 1) := by decide +kernel
theorem dX9_longestSilence_20 : decode cX9_longestSilence 20 = .ok (.iload 5, 2) := by decide +kernel
theorem dX9_longestSilence_22 : decode cX9_longestSilence 22 = .ok (.iaload, 1) := by decide +kernel
theorem dX9_longestSilence_23 : decode cX9_longestSilence 23 = .ok (.ifCond .ne 16, 3) := by decide +kernel
theorem dX9_longestSilence_26 : decode cX9_longestSilence 26 = .ok (.aload_n 0, 1) := by decide +kernel
theorem dX9_longestSilence_27 : decode cX9_longestSilence 27 = .ok (.iload 5, 2) := by decide +kernel
theorem dX9_longestSilence_29 : decode cX9_longestSilence 29 = .ok (.invokevirtual 29, 3) := by decide +kernel
theorem dX9_longestSilence_32 : decode cX9_longestSilence 32 = .ok (.ifCond .ne 7, 3) := by decide +kernel
theorem dX9_longestSilence_35 : decode cX9_longestSilence 35 = .ok (.iconst 1, 1) := by decide +kernel
theorem dX9_longestSilence_36 : decode cX9_longestSilence 36 = .ok (.goto 4, 3) := by decide +kernel
theorem dX9_longestSilence_39 : decode cX9_longestSilence 39 = .ok (.iconst 0, 1) := by decide +kernel
theorem dX9_longestSilence_40 : decode cX9_longestSilence 40 = .ok (.istore 6, 2) := by decide +kernel
theorem dX9_longestSilence_42 : decode cX9_longestSilence 42 = .ok (.iload 6, 2) := by decide +kernel
theorem dX9_longestSilence_44 : decode cX9_longestSilence 44 = .ok (.ifCond .eq 10, 3) := by decide +kernel
theorem dX9_longestSilence_47 : decode cX9_longestSilence 47 = .ok (.iload 4, 2) := by decide +kernel
theorem dX9_longestSilence_49 : decode cX9_longestSilence 49 = .ok (.iconst 1, 1) := by decide +kernel
theorem dX9_longestSilence_50 : decode cX9_longestSilence 50 = .ok (.iadd, 1) := by decide +kernel
theorem dX9_longestSilence_51 : decode cX9_longestSilence 51 = .ok (.goto 4, 3) := by decide +kernel
theorem dX9_longestSilence_54 : decode cX9_longestSilence 54 = .ok (.iconst 0, 1) := by decide +kernel
theorem dX9_longestSilence_55 : decode cX9_longestSilence 55 = .ok (.istore 4, 2) := by decide +kernel
theorem dX9_longestSilence_57 : decode cX9_longestSilence 57 = .ok (.iload_n 3, 1) := by decide +kernel
theorem dX9_longestSilence_58 : decode cX9_longestSilence 58 = .ok (.iload 4, 2) := by decide +kernel
theorem dX9_longestSilence_60 : decode cX9_longestSilence 60 = .ok (.invokestatic 60, 3) := by decide +kernel
theorem dX9_longestSilence_63 : decode cX9_longestSilence 63 = .ok (.istore_n 3, 1) := by decide +kernel
theorem dX9_longestSilence_64 : decode cX9_longestSilence 64 = .ok (.iinc 5 1, 3) := by decide +kernel
theorem dX9_longestSilence_67 : decode cX9_longestSilence 67 = .ok (.goto (-59), 3) := by decide +kernel
theorem dX9_longestSilence_70 : decode cX9_longestSilence 70 = .ok (.iload_n 3, 1) := by decide +kernel
theorem dX9_longestSilence_71 : decode cX9_longestSilence 71 = .ok (.ireturn, 1) := by decide +kernel
theorem dX9_tellAll_0 : decode cX9_tellAll 0 = .ok (.aload_n 0, 1) := by decide +kernel
theorem dX9_tellAll_1 : decode cX9_tellAll 1 = .ok (.getfield 11, 3) := by decide +kernel
theorem dX9_tellAll_4 : decode cX9_tellAll 4 = .ok (.iconst 2, 1) := by decide +kernel
theorem dX9_tellAll_5 : decode cX9_tellAll 5 = .ok (.aaload, 1) := by decide +kernel
theorem dX9_tellAll_6 : decode cX9_tellAll 6 = .ok (.iload_n 1, 1) := by decide +kernel
theorem dX9_tellAll_7 : decode cX9_tellAll 7 = .ok (.iaload, 1) := by decide +kernel
theorem dX9_tellAll_8 : decode cX9_tellAll 8 = .ok (.iconst (-1), 1) := by decide +kernel
theorem dX9_tellAll_9 : decode cX9_tellAll 9 = .ok (.if_icmp .ne 7, 3) := by decide +kernel
theorem dX9_tellAll_12 : decode cX9_tellAll 12 = .ok (.iconst 0, 1) := by decide +kernel
theorem dX9_tellAll_13 : decode cX9_tellAll 13 = .ok (.goto 4, 3) := by decide +kernel
theorem dX9_tellAll_16 : decode cX9_tellAll 16 = .ok (.iconst 1, 1) := by decide +kernel
theorem dX9_tellAll_17 : decode cX9_tellAll 17 = .ok (.istore_n 3, 1) := by decide +kernel
theorem dX9_tellAll_18 : decode cX9_tellAll 18 = .ok (.aload_n 2, 1) := by decide +kernel
theorem dX9_tellAll_19 : decode cX9_tellAll 19 = .ok (.iconst 0, 1) := by decide +kernel
theorem dX9_tellAll_20 : decode cX9_tellAll 20 = .ok (.aload_n 0, 1) := by decide +kernel
theorem dX9_tellAll_21 : decode cX9_tellAll 21 = .ok (.getfield 11, 3) := by decide +kernel
theorem dX9_tellAll_24 : decode cX9_tellAll 24 = .ok (.iconst 5, 1) := by decide +kernel
theorem dX9_tellAll_25 : decode cX9_tellAll 25 = .ok (.aaload, 1) := by decide +kernel
theorem dX9_tellAll_26 : decode cX9_tellAll 26 = .ok (.iload_n 1, 1) := by decide +kernel
theorem dX9_tellAll_27 : decode cX9_tellAll 27 = .ok (.iaload, 1) := by decide +kernel
theorem dX9_tellAll_28 : decode cX9_tellAll 28 = .ok (.iastore, 1) := by decide +kernel
theorem dX9_tellAll_29 : decode cX9_tellAll 29 = .ok (.aload_n 2, 1) := by decide +kernel
theorem dX9_tellAll_30 : decode cX9_tellAll 30 = .ok (.iconst 1, 1) := by decide +kernel
theorem dX9_tellAll_31 : decode cX9_tellAll 31 = .ok (.aload_n 0, 1) := by decide +kernel
theorem dX9_tellAll_32 : decode cX9_tellAll 32 = .ok (.getfield 11, 3) := by decide +kernel
theorem dX9_tellAll_35 : decode cX9_tellAll 35 = .ok (.iconst 1, 1) := by decide +kernel
theorem dX9_tellAll_36 : decode cX9_tellAll 36 = .ok (.aaload, 1) := by decide +kernel
theorem dX9_tellAll_37 : decode cX9_tellAll 37 = .ok (.iload_n 1, 1) := by decide +kernel
theorem dX9_tellAll_38 : decode cX9_tellAll 38 = .ok (.iaload, 1) := by decide +kernel
theorem dX9_tellAll_39 : decode cX9_tellAll 39 = .ok (.iconst 1, 1) := by decide +kernel
theorem dX9_tellAll_40 : decode cX9_tellAll 40 = .ok (.iadd, 1) := by decide +kernel
theorem dX9_tellAll_41 : decode cX9_tellAll 41 = .ok (.iastore, 1) := by decide +kernel
theorem dX9_tellAll_42 : decode cX9_tellAll 42 = .ok (.aload_n 2, 1) := by decide +kernel
theorem dX9_tellAll_43 : decode cX9_tellAll 43 = .ok (.iconst 2, 1) := by decide +kernel
theorem dX9_tellAll_44 : decode cX9_tellAll 44 = .ok (.aload_n 0, 1) := by decide +kernel
theorem dX9_tellAll_45 : decode cX9_tellAll 45 = .ok (.iload_n 1, 1) := by decide +kernel
theorem dX9_tellAll_46 : decode cX9_tellAll 46 = .ok (.invokevirtual 57, 3) := by decide +kernel
theorem dX9_tellAll_49 : decode cX9_tellAll 49 = .ok (.iastore, 1) := by decide +kernel
theorem dX9_tellAll_50 : decode cX9_tellAll 50 = .ok (.aload_n 2, 1) := by decide +kernel
theorem dX9_tellAll_51 : decode cX9_tellAll 51 = .ok (.iconst 3, 1) := by decide +kernel
theorem dX9_tellAll_52 : decode cX9_tellAll 52 = .ok (.aload_n 0, 1) := by decide +kernel
theorem dX9_tellAll_53 : decode cX9_tellAll 53 = .ok (.getfield 11, 3) := by decide +kernel
theorem dX9_tellAll_56 : decode cX9_tellAll 56 = .ok (.iconst 4, 1) := by decide +kernel
theorem dX9_tellAll_57 : decode cX9_tellAll 57 = .ok (.aaload, 1) := by decide +kernel
theorem dX9_tellAll_58 : decode cX9_tellAll 58 = .ok (.iload_n 1, 1) := by decide +kernel
theorem dX9_tellAll_59 : decode cX9_tellAll 59 = .ok (.iaload, 1) := by decide +kernel
theorem dX9_tellAll_60 : decode cX9_tellAll 60 = .ok (.iastore, 1) := by decide +kernel
theorem dX9_tellAll_61 : decode cX9_tellAll 61 = .ok (.aload_n 2, 1) := by decide +kernel
theorem dX9_tellAll_62 : decode cX9_tellAll 62 = .ok (.iconst 4, 1) := by decide +kernel
theorem dX9_tellAll_63 : decode cX9_tellAll 63 = .ok (.aload_n 0, 1) := by decide +kernel
theorem dX9_tellAll_64 : decode cX9_tellAll 64 = .ok (.getfield 11, 3) := by decide +kernel
theorem dX9_tellAll_67 : decode cX9_tellAll 67 = .ok (.iconst 3, 1) := by decide +kernel
theorem dX9_tellAll_68 : decode cX9_tellAll 68 = .ok (.aaload, 1) := by decide +kernel
theorem dX9_tellAll_69 : decode cX9_tellAll 69 = .ok (.iload_n 1, 1) := by decide +kernel
theorem dX9_tellAll_70 : decode cX9_tellAll 70 = .ok (.iaload, 1) := by decide +kernel
theorem dX9_tellAll_71 : decode cX9_tellAll 71 = .ok (.iconst (-1), 1) := by decide +kernel
theorem dX9_tellAll_72 : decode cX9_tellAll 72 = .ok (.if_icmp .ne 7, 3) := by decide +kernel
theorem dX9_tellAll_75 : decode cX9_tellAll 75 = .ok (.iload_n 3, 1) := by decide +kernel
theorem dX9_tellAll_76 : decode cX9_tellAll 76 = .ok (.goto 6, 3) := by decide +kernel
theorem dX9_tellAll_79 : decode cX9_tellAll 79 = .ok (.iload_n 3, 1) := by decide +kernel
theorem dX9_tellAll_80 : decode cX9_tellAll 80 = .ok (.iconst 1, 1) := by decide +kernel
theorem dX9_tellAll_81 : decode cX9_tellAll 81 = .ok (.iadd, 1) := by decide +kernel
theorem dX9_tellAll_82 : decode cX9_tellAll 82 = .ok (.iastore, 1) := by decide +kernel
theorem dX9_tellAll_83 : decode cX9_tellAll 83 = .ok (.aload_n 2, 1) := by decide +kernel
theorem dX9_tellAll_84 : decode cX9_tellAll 84 = .ok (.iconst 5, 1) := by decide +kernel
theorem dX9_tellAll_85 : decode cX9_tellAll 85 = .ok (.aload_n 0, 1) := by decide +kernel
theorem dX9_tellAll_86 : decode cX9_tellAll 86 = .ok (.getfield 11, 3) := by decide +kernel
theorem dX9_tellAll_89 : decode cX9_tellAll 89 = .ok (.bipush 6, 2) := by decide +kernel
theorem dX9_tellAll_91 : decode cX9_tellAll 91 = .ok (.aaload, 1) := by decide +kernel
theorem dX9_tellAll_92 : decode cX9_tellAll 92 = .ok (.iload_n 1, 1) := by decide +kernel
theorem dX9_tellAll_93 : decode cX9_tellAll 93 = .ok (.iaload, 1) := by decide +kernel
theorem dX9_tellAll_94 : decode cX9_tellAll 94 = .ok (.iastore, 1) := by decide +kernel
theorem dX9_tellAll_95 : decode cX9_tellAll 95 = .ok (.aload_n 2, 1) := by decide +kernel
theorem dX9_tellAll_96 : decode cX9_tellAll 96 = .ok (.bipush 6, 2) := by decide +kernel
theorem dX9_tellAll_98 : decode cX9_tellAll 98 = .ok (.aload_n 0, 1) := by decide +kernel
theorem dX9_tellAll_99 : decode cX9_tellAll 99 = .ok (.getfield 11, 3) := by decide +kernel
theorem dX9_tellAll_102 : decode cX9_tellAll 102 = .ok (.iconst 0, 1) := by decide +kernel
theorem dX9_tellAll_103 : decode cX9_tellAll 103 = .ok (.aaload, 1) := by decide +kernel
theorem dX9_tellAll_104 : decode cX9_tellAll 104 = .ok (.iload_n 1, 1) := by decide +kernel
theorem dX9_tellAll_105 : decode cX9_tellAll 105 = .ok (.iaload, 1) := by decide +kernel
theorem dX9_tellAll_106 : decode cX9_tellAll 106 = .ok (.iastore, 1) := by decide +kernel
theorem dX9_tellAll_107 : decode cX9_tellAll 107 = .ok (.aload_n 2, 1) := by decide +kernel
theorem dX9_tellAll_108 : decode cX9_tellAll 108 = .ok (.bipush 7, 2) := by decide +kernel
theorem dX9_tellAll_110 : decode cX9_tellAll 110 = .ok (.iload_n 1, 1) := by decide +kernel
theorem dX9_tellAll_111 : decode cX9_tellAll 111 = .ok (.iastore, 1) := by decide +kernel
theorem dX9_tellAll_112 : decode cX9_tellAll 112 = .ok (.return_, 1) := by decide +kernel
theorem dX9_trueOf_0 : decode cX9_trueOf 0 = .ok (.aload_n 0, 1) := by decide +kernel
theorem dX9_trueOf_1 : decode cX9_trueOf 1 = .ok (.getfield 11, 3) := by decide +kernel
theorem dX9_trueOf_4 : decode cX9_trueOf 4 = .ok (.bipush 9, 2) := by decide +kernel
theorem dX9_trueOf_6 : decode cX9_trueOf 6 = .ok (.aaload, 1) := by decide +kernel
theorem dX9_trueOf_7 : decode cX9_trueOf 7 = .ok (.iload_n 1, 1) := by decide +kernel
theorem dX9_trueOf_8 : decode cX9_trueOf 8 = .ok (.iaload, 1) := by decide +kernel
theorem dX9_trueOf_9 : decode cX9_trueOf 9 = .ok (.iconst 1, 1) := by decide +kernel
theorem dX9_trueOf_10 : decode cX9_trueOf 10 = .ok (.if_icmp .ne 5, 3) := by decide +kernel
theorem dX9_trueOf_13 : decode cX9_trueOf 13 = .ok (.iconst 2, 1) := by decide +kernel
theorem dX9_trueOf_14 : decode cX9_trueOf 14 = .ok (.ireturn, 1) := by decide +kernel
theorem dX9_trueOf_15 : decode cX9_trueOf 15 = .ok (.aload_n 0, 1) := by decide +kernel
theorem dX9_trueOf_16 : decode cX9_trueOf 16 = .ok (.getfield 11, 3) := by decide +kernel
theorem dX9_trueOf_19 : decode cX9_trueOf 19 = .ok (.bipush 8, 2) := by decide +kernel
theorem dX9_trueOf_21 : decode cX9_trueOf 21 = .ok (.aaload, 1) := by decide +kernel
theorem dX9_trueOf_22 : decode cX9_trueOf 22 = .ok (.iload_n 1, 1) := by decide +kernel
theorem dX9_trueOf_23 : decode cX9_trueOf 23 = .ok (.iaload, 1) := by decide +kernel
theorem dX9_trueOf_24 : decode cX9_trueOf 24 = .ok (.iconst 1, 1) := by decide +kernel
theorem dX9_trueOf_25 : decode cX9_trueOf 25 = .ok (.if_icmp .ne 5, 3) := by decide +kernel
theorem dX9_trueOf_28 : decode cX9_trueOf 28 = .ok (.iconst 1, 1) := by decide +kernel
theorem dX9_trueOf_29 : decode cX9_trueOf 29 = .ok (.ireturn, 1) := by decide +kernel
theorem dX9_trueOf_30 : decode cX9_trueOf 30 = .ok (.aload_n 0, 1) := by decide +kernel
theorem dX9_trueOf_31 : decode cX9_trueOf 31 = .ok (.getfield 11, 3) := by decide +kernel
theorem dX9_trueOf_34 : decode cX9_trueOf 34 = .ok (.bipush 8, 2) := by decide +kernel
theorem dX9_trueOf_36 : decode cX9_trueOf 36 = .ok (.aaload, 1) := by decide +kernel
theorem dX9_trueOf_37 : decode cX9_trueOf 37 = .ok (.iload_n 1, 1) := by decide +kernel
theorem dX9_trueOf_38 : decode cX9_trueOf 38 = .ok (.iaload, 1) := by decide +kernel
theorem dX9_trueOf_39 : decode cX9_trueOf 39 = .ok (.iconst 3, 1) := by decide +kernel
theorem dX9_trueOf_40 : decode cX9_trueOf 40 = .ok (.if_icmp .ne 7, 3) := by decide +kernel
theorem dX9_trueOf_43 : decode cX9_trueOf 43 = .ok (.iconst 3, 1) := by decide +kernel
theorem dX9_trueOf_44 : decode cX9_trueOf 44 = .ok (.goto 4, 3) := by decide +kernel
theorem dX9_trueOf_47 : decode cX9_trueOf 47 = .ok (.iconst 4, 1) := by decide +kernel
theorem dX9_trueOf_48 : decode cX9_trueOf 48 = .ok (.ireturn, 1) := by decide +kernel
theorem dX10_init_0 : decode cX10_init 0 = .ok (.aload_n 0, 1) := by decide +kernel
theorem dX10_init_1 : decode cX10_init 1 = .ok (.invokespecial 3, 3) := by decide +kernel
theorem dX10_init_4 : decode cX10_init 4 = .ok (.aload_n 0, 1) := by decide +kernel
theorem dX10_init_5 : decode cX10_init 5 = .ok (.sipush 600, 3) := by decide +kernel
theorem dX10_init_8 : decode cX10_init 8 = .ok (.newarray .int, 2) := by decide +kernel
theorem dX10_init_10 : decode cX10_init 10 = .ok (.putfield 9, 3) := by decide +kernel
theorem dX10_init_13 : decode cX10_init 13 = .ok (.aload_n 0, 1) := by decide +kernel
theorem dX10_init_14 : decode cX10_init 14 = .ok (.sipush 601, 3) := by decide +kernel
theorem dX10_init_17 : decode cX10_init 17 = .ok (.newarray .int, 2) := by decide +kernel
theorem dX10_init_19 : decode cX10_init 19 = .ok (.putfield 15, 3) := by decide +kernel
theorem dX10_init_22 : decode cX10_init 22 = .ok (.aload_n 0, 1) := by decide +kernel
theorem dX10_init_23 : decode cX10_init 23 = .ok (.sipush 601, 3) := by decide +kernel
theorem dX10_init_26 : decode cX10_init 26 = .ok (.newarray .int, 2) := by decide +kernel
theorem dX10_init_28 : decode cX10_init 28 = .ok (.putfield 18, 3) := by decide +kernel
theorem dX10_init_31 : decode cX10_init 31 = .ok (.aload_n 0, 1) := by decide +kernel
theorem dX10_init_32 : decode cX10_init 32 = .ok (.sipush 601, 3) := by decide +kernel
theorem dX10_init_35 : decode cX10_init 35 = .ok (.newarray .int, 2) := by decide +kernel
theorem dX10_init_37 : decode cX10_init 37 = .ok (.putfield 21, 3) := by decide +kernel
theorem dX10_init_40 : decode cX10_init 40 = .ok (.return_, 1) := by decide +kernel
theorem dX10_take_0 : decode cX10_take 0 = .ok (.bipush 24, 2) := by decide +kernel
theorem dX10_take_2 : decode cX10_take 2 = .ok (.istore_n 2, 1) := by decide +kernel
theorem dX10_take_3 : decode cX10_take 3 = .ok (.iload_n 2, 1) := by decide +kernel
theorem dX10_take_4 : decode cX10_take 4 = .ok (.ifCond .lt 45, 3) := by decide +kernel
theorem dX10_take_7 : decode cX10_take 7 = .ok (.aload_n 0, 1) := by decide +kernel
theorem dX10_take_8 : decode cX10_take 8 = .ok (.getfield 24, 3) := by decide +kernel
theorem dX10_take_11 : decode cX10_take 11 = .ok (.sipush 600, 3) := by decide +kernel
theorem dX10_take_14 : decode cX10_take 14 = .ok (.if_icmp .ge 35, 3) := by decide +kernel
theorem dX10_take_17 : decode cX10_take 17 = .ok (.aload_n 0, 1) := by decide +kernel
theorem dX10_take_18 : decode cX10_take 18 = .ok (.getfield 9, 3) := by decide +kernel
theorem dX10_take_21 : decode cX10_take 21 = .ok (.aload_n 0, 1) := by decide +kernel
theorem dX10_take_22 : decode cX10_take 22 = .ok (.getfield 24, 3) := by decide +kernel
theorem dX10_take_25 : decode cX10_take 25 = .ok (.iload_n 1, 1) := by decide +kernel
theorem dX10_take_26 : decode cX10_take 26 = .ok (.iload_n 2, 1) := by decide +kernel
theorem dX10_take_27 : decode cX10_take 27 = .ok (.iushr, 1) := by decide +kernel
theorem dX10_take_28 : decode cX10_take 28 = .ok (.sipush 255, 3) := by decide +kernel
theorem dX10_take_31 : decode cX10_take 31 = .ok (.iand, 1) := by decide +kernel
theorem dX10_take_32 : decode cX10_take 32 = .ok (.iastore, 1) := by decide +kernel
theorem dX10_take_33 : decode cX10_take 33 = .ok (.aload_n 0, 1) := by decide +kernel
theorem dX10_take_34 : decode cX10_take 34 = .ok (.dup, 1) := by decide +kernel
theorem dX10_take_35 : decode cX10_take 35 = .ok (.getfield 24, 3) := by decide +kernel
theorem dX10_take_38 : decode cX10_take 38 = .ok (.iconst 1, 1) := by decide +kernel
theorem dX10_take_39 : decode cX10_take 39 = .ok (.iadd, 1) := by decide +kernel
theorem dX10_take_40 : decode cX10_take 40 = .ok (.putfield 24, 3) := by decide +kernel
theorem dX10_take_43 : decode cX10_take 43 = .ok (.iinc 2 (-8), 3) := by decide +kernel
theorem dX10_take_46 : decode cX10_take 46 = .ok (.goto (-43), 3) := by decide +kernel
theorem dX10_take_49 : decode cX10_take 49 = .ok (.return_, 1) := by decide +kernel
theorem dX10_split_0 : decode cX10_split 0 = .ok (.aload_n 0, 1) := by decide +kernel
theorem dX10_split_1 : decode cX10_split 1 = .ok (.iconst 0, 1) := by decide +kernel
theorem dX10_split_2 : decode cX10_split 2 = .ok (.putfield 28, 3) := by decide +kernel
theorem dX10_split_5 : decode cX10_split 5 = .ok (.aload_n 0, 1) := by decide +kernel
theorem dX10_split_6 : decode cX10_split 6 = .ok (.iconst 0, 1) := by decide +kernel
theorem dX10_split_7 : decode cX10_split 7 = .ok (.putfield 31, 3) := by decide +kernel
theorem dX10_split_10 : decode cX10_split 10 = .ok (.aload_n 0, 1) := by decide +kernel
theorem dX10_split_11 : decode cX10_split 11 = .ok (.iconst 0, 1) := by decide +kernel
theorem dX10_split_12 : decode cX10_split 12 = .ok (.putfield 34, 3) := by decide +kernel
theorem dX10_split_15 : decode cX10_split 15 = .ok (.iconst 0, 1) := by decide +kernel
theorem dX10_split_16 : decode cX10_split 16 = .ok (.istore_n 2, 1) := by decide +kernel
theorem dX10_split_17 : decode cX10_split 17 = .ok (.iload_n 2, 1) := by decide +kernel
theorem dX10_split_18 : decode cX10_split 18 = .ok (.sipush 600, 3) := by decide +kernel
theorem dX10_split_21 : decode cX10_split 21 = .ok (.if_icmp .ge 104, 3) := by decide +kernel
theorem dX10_split_24 : decode cX10_split 24 = .ok (.aload_n 0, 1) := by decide +kernel
theorem dX10_split_25 : decode cX10_split 25 = .ok (.getfield 28, 3) := by decide +kernel
theorem dX10_split_28 : decode cX10_split 28 = .ok (.aload_n 0, 1) := by decide +kernel
theorem dX10_split_29 : decode cX10_split 29 = .ok (.getfield 24, 3) := by decide +kernel
theorem dX10_split_32 : decode cX10_split 32 = .ok (.if_icmp .ge 93, 3) := by decide +kernel
theorem dX10_split_35 : decode cX10_split 35 = .ok (.aload_n 0, 1) := by decide +kernel
theorem dX10_split_36 : decode cX10_split 36 = .ok (.getfield 9, 3) := by decide +kernel
theorem dX10_split_39 : decode cX10_split 39 = .ok (.aload_n 0, 1) := by decide +kernel
theorem dX10_split_40 : decode cX10_split 40 = .ok (.getfield 28, 3) := by decide +kernel
theorem dX10_split_43 : decode cX10_split 43 = .ok (.iaload, 1) := by decide +kernel
theorem dX10_split_44 : decode cX10_split 44 = .ok (.istore_n 3, 1) := by decide +kernel
theorem dX10_split_45 : decode cX10_split 45 = .ok (.iload_n 3, 1) := by decide +kernel
theorem dX10_split_46 : decode cX10_split 46 = .ok (.bipush 32, 2) := by decide +kernel
theorem dX10_split_48 : decode cX10_split 48 = .ok (.if_icmp .eq 9, 3) := by decide +kernel
theorem dX10_split_51 : decode cX10_split 51 = .ok (.iload_n 3, 1) := by decide +kernel
theorem dX10_split_52 : decode cX10_split 52 = .ok (.bipush 10, 2) := by decide +kernel
theorem dX10_split_54 : decode cX10_split 54 = .ok (.if_icmp .ne 16, 3) := by decide +kernel
theorem dX10_split_57 : decode cX10_split 57 = .ok (.aload_n 0, 1) := by decide +kernel
theorem dX10_split_58 : decode cX10_split 58 = .ok (.dup, 1) := by decide +kernel
theorem dX10_split_59 : decode cX10_split 59 = .ok (.getfield 28, 3) := by decide +kernel
theorem dX10_split_62 : decode cX10_split 62 = .ok (.iconst 1, 1) := by decide +kernel
theorem dX10_split_63 : decode cX10_split 63 = .ok (.iadd, 1) := by decide +kernel
theorem dX10_split_64 : decode cX10_split 64 = .ok (.putfield 28, 3) := by decide +kernel
theorem dX10_split_67 : decode cX10_split 67 = .ok (.goto 52, 3) := by decide +kernel
theorem dX10_split_70 : decode cX10_split 70 = .ok (.iload_n 3, 1) := by decide +kernel
theorem dX10_split_71 : decode cX10_split 71 = .ok (.invokestatic 37, 3) := by decide +kernel
theorem dX10_split_74 : decode cX10_split 74 = .ok (.ifCond .eq 11, 3) := by decide +kernel
theorem dX10_split_77 : decode cX10_split 77 = .ok (.aload_n 0, 1) := by decide +kernel
theorem dX10_split_78 : decode cX10_split 78 = .ok (.aload_n 1, 1) := by decide +kernel
theorem dX10_split_79 : decode cX10_split 79 = .ok (.invokevirtual 41, 3) := by decide +kernel
theorem dX10_split_82 : decode cX10_split 82 = .ok (.goto 37, 3) := by decide +kernel
theorem dX10_split_85 : decode cX10_split 85 = .ok (.iload_n 3, 1) := by decide +kernel
theorem dX10_split_86 : decode cX10_split 86 = .ok (.invokestatic 45, 3) := by decide +kernel
theorem dX10_split_89 : decode cX10_split 89 = .ok (.ifCond .eq 10, 3) := by decide +kernel
theorem dX10_split_92 : decode cX10_split 92 = .ok (.aload_n 0, 1) := by decide +kernel
theorem dX10_split_93 : decode cX10_split 93 = .ok (.invokevirtual 48, 3) := by decide +kernel
theorem dX10_split_96 : decode cX10_split 96 = .ok (.goto 23, 3) := by decide +kernel
theorem dX10_split_99 : decode cX10_split 99 = .ok (.aload_n 0, 1) := by decide +kernel
theorem dX10_split_100 : decode cX10_split 100 = .ok (.iconst 4, 1) := by decide +kernel
theorem dX10_split_101 : decode cX10_split 101 = .ok (.iload_n 3, 1) := by decide +kernel
theorem dX10_split_102 : decode cX10_split 102 = .ok (.aload_n 0, 1) := by decide +kernel
theorem dX10_split_103 : decode cX10_split 103 = .ok (.getfield 28, 3) := by decide +kernel
theorem dX10_split_106 : decode cX10_split 106 = .ok (.invokevirtual 51, 3) := by decide +kernel
theorem dX10_split_109 : decode cX10_split 109 = .ok (.aload_n 0, 1) := by decide +kernel
theorem dX10_split_110 : decode cX10_split 110 = .ok (.dup, 1) := by decide +kernel
theorem dX10_split_111 : decode cX10_split 111 = .ok (.getfield 28, 3) := by decide +kernel
theorem dX10_split_114 : decode cX10_split 114 = .ok (.iconst 1, 1) := by decide +kernel
theorem dX10_split_115 : decode cX10_split 115 = .ok (.iadd, 1) := by decide +kernel
theorem dX10_split_116 : decode cX10_split 116 = .ok (.putfield 28, 3) := by decide +kernel
theorem dX10_split_119 : decode cX10_split 119 = .ok (.iinc 2 1, 3) := by decide +kernel
theorem dX10_split_122 : decode cX10_split 122 = .ok (.goto (-105), 3) := by decide +kernel
theorem dX10_split_125 : decode cX10_split 125 = .ok (.aload_n 0, 1) := by decide +kernel
theorem dX10_split_126 : decode cX10_split 126 = .ok (.iconst 0, 1) := by decide +kernel
theorem dX10_split_127 : decode cX10_split 127 = .ok (.iconst 0, 1) := by decide +kernel
theorem dX10_split_128 : decode cX10_split 128 = .ok (.aload_n 0, 1) := by decide +kernel
theorem dX10_split_129 : decode cX10_split 129 = .ok (.getfield 24, 3) := by decide +kernel
theorem dX10_split_132 : decode cX10_split 132 = .ok (.invokevirtual 51, 3) := by decide +kernel
theorem dX10_split_135 : decode cX10_split 135 = .ok (.return_, 1) := by decide +kernel
theorem dX10_add_0 : decode cX10_add 0 = .ok (.aload_n 0, 1) := by decide +kernel
theorem dX10_add_1 : decode cX10_add 1 = .ok (.getfield 31, 3) := by decide +kernel
theorem dX10_add_4 : decode cX10_add 4 = .ok (.sipush 600, 3) := by decide +kernel
theorem dX10_add_7 : decode cX10_add 7 = .ok (.if_icmp .gt 43, 3) := by decide +kernel
theorem dX10_add_10 : decode cX10_add 10 = .ok (.aload_n 0, 1) := by decide +kernel
theorem dX10_add_11 : decode cX10_add 11 = .ok (.getfield 15, 3) := by decide +kernel
theorem dX10_add_14 : decode cX10_add 14 = .ok (.aload_n 0, 1) := by decide +kernel
theorem dX10_add_15 : decode cX10_add 15 = .ok (.getfield 31, 3) := by decide +kernel
theorem dX10_add_18 : decode cX10_add 18 = .ok (.iload_n 1, 1) := by decide +kernel
theorem dX10_add_19 : decode cX10_add 19 = .ok (.iastore, 1) := by decide +kernel
theorem dX10_add_20 : decode cX10_add 20 = .ok (.aload_n 0, 1) := by decide +kernel
theorem dX10_add_21 : decode cX10_add 21 = .ok (.getfield 18, 3) := by decide +kernel
theorem dX10_add_24 : decode cX10_add 24 = .ok (.aload_n 0, 1) := by decide +kernel
theorem dX10_add_25 : decode cX10_add 25 = .ok (.getfield 31, 3) := by decide +kernel
theorem dX10_add_28 : decode cX10_add 28 = .ok (.iload_n 2, 1) := by decide +kernel
theorem dX10_add_29 : decode cX10_add 29 = .ok (.iastore, 1) := by decide +kernel
theorem dX10_add_30 : decode cX10_add 30 = .ok (.aload_n 0, 1) := by decide +kernel
theorem dX10_add_31 : decode cX10_add 31 = .ok (.getfield 21, 3) := by decide +kernel
theorem dX10_add_34 : decode cX10_add 34 = .ok (.aload_n 0, 1) := by decide +kernel
theorem dX10_add_35 : decode cX10_add 35 = .ok (.getfield 31, 3) := by decide +kernel
theorem dX10_add_38 : decode cX10_add 38 = .ok (.iload_n 3, 1) := by decide +kernel
theorem dX10_add_39 : decode cX10_add 39 = .ok (.iastore, 1) := by decide +kernel
theorem dX10_add_40 : decode cX10_add 40 = .ok (.aload_n 0, 1) := by decide +kernel
theorem dX10_add_41 : decode cX10_add 41 = .ok (.dup, 1) := by decide +kernel
theorem dX10_add_42 : decode cX10_add 42 = .ok (.getfield 31, 3) := by decide +kernel
theorem dX10_add_45 : decode cX10_add 45 = .ok (.iconst 1, 1) := by decide +kernel
theorem dX10_add_46 : decode cX10_add 46 = .ok (.iadd, 1) := by decide +kernel
theorem dX10_add_47 : decode cX10_add 47 = .ok (.putfield 31, 3) := by decide +kernel
theorem dX10_add_50 : decode cX10_add 50 = .ok (.return_, 1) := by decide +kernel
theorem dX10_isLetter_0 : decode cX10_isLetter 0 = .ok (.iload_n 0, 1) := by decide +kernel
theorem dX10_isLetter_1 : decode cX10_isLetter 1 = .ok (.bipush 97, 2) := by decide +kernel
theorem dX10_isLetter_3 : decode cX10_isLetter 3 = .ok (.bipush 122, 2) := by decide +kernel
theorem dX10_isLetter_5 : decode cX10_isLetter 5 = .ok (.invokestatic 55, 3) := by decide +kernel
theorem dX10_isLetter_8 : decode cX10_isLetter 8 = .ok (.ifCond .ne 14, 3) := by decide +kernel
theorem dX10_isLetter_11 : decode cX10_isLetter 11 = .ok (.iload_n 0, 1) := by decide +kernel
theorem dX10_isLetter_12 : decode cX10_isLetter 12 = .ok (.bipush 65, 2) := by decide +kernel
theorem dX10_isLetter_14 : decode cX10_isLetter 14 = .ok (.bipush 90, 2) := by decide +kernel
theorem dX10_isLetter_16 : decode cX10_isLetter 16 = .ok (.invokestatic 55, 3) := by decide +kernel
theorem dX10_isLetter_19 : decode cX10_isLetter 19 = .ok (.ifCond .eq 7, 3) := by decide +kernel
theorem dX10_isLetter_22 : decode cX10_isLetter 22 = .ok (.iconst 1, 1) := by decide +kernel
theorem dX10_isLetter_23 : decode cX10_isLetter 23 = .ok (.goto 4, 3) := by decide +kernel
theorem dX10_isLetter_26 : decode cX10_isLetter 26 = .ok (.iconst 0, 1) := by decide +kernel
theorem dX10_isLetter_27 : decode cX10_isLetter 27 = .ok (.ireturn, 1) := by decide +kernel
theorem dX10_isDigit_0 : decode cX10_isDigit 0 = .ok (.iload_n 0, 1) := by decide +kernel
theorem dX10_isDigit_1 : decode cX10_isDigit 1 = .ok (.bipush 48, 2) := by decide +kernel
theorem dX10_isDigit_3 : decode cX10_isDigit 3 = .ok (.bipush 57, 2) := by decide +kernel
theorem dX10_isDigit_5 : decode cX10_isDigit 5 = .ok (.invokestatic 55, 3) := by decide +kernel
theorem dX10_isDigit_8 : decode cX10_isDigit 8 = .ok (.ireturn, 1) := by decide +kernel
theorem dX10_readWord_0 : decode cX10_readWord 0 = .ok (.aload_n 0, 1) := by decide +kernel
theorem dX10_readWord_1 : decode cX10_readWord 1 = .ok (.getfield 28, 3) := by decide +kernel
theorem dX10_readWord_4 : decode cX10_readWord 4 = .ok (.istore_n 2, 1) := by decide +kernel
theorem dX10_readWord_5 : decode cX10_readWord 5 = .ok (.aload_n 0, 1) := by decide +kernel
theorem dX10_readWord_6 : decode cX10_readWord 6 = .ok (.getfield 28, 3) := by decide +kernel
theorem dX10_readWord_9 : decode cX10_readWord 9 = .ok (.aload_n 0, 1) := by decide +kernel
theorem dX10_readWord_10 : decode cX10_readWord 10 = .ok (.getfield 24, 3) := by decide +kernel
theorem dX10_readWord_13 : decode cX10_readWord 13 = .ok (.if_icmp .ge 31, 3) := by decide +kernel
theorem dX10_readWord_16 : decode cX10_readWord 16 = .ok (.aload_n 0, 1) := by decide +kernel
theorem dX10_readWord_17 : decode cX10_readWord 17 = .ok (.getfield 9, 3) := by decide +kernel
theorem dX10_readWord_20 : decode cX10_readWord 20 = .ok (.aload_n 0, 1) := by decide +kernel
theorem dX10_readWord_21 : decode cX10_readWord 21 = .ok (.getfield 28, 3) := by decide +kernel
theorem dX10_readWord_24 : decode cX10_readWord 24 = .ok (.iaload, 1) := by decide +kernel
theorem dX10_readWord_25 : decode cX10_readWord 25 = .ok (.invokestatic 37, 3) := by decide +kernel
theorem dX10_readWord_28 : decode cX10_readWord 28 = .ok (.ifCond .eq 16, 3) := by decide +kernel
theorem dX10_readWord_31 : decode cX10_readWord 31 = .ok (.aload_n 0, 1) := by decide +kernel
theorem dX10_readWord_32 : decode cX10_readWord 32 = .ok (.dup, 1) := by decide +kernel
theorem dX10_readWord_33 : decode cX10_readWord 33 = .ok (.getfield 28, 3) := by decide +kernel
theorem dX10_readWord_36 : decode cX10_readWord 36 = .ok (.iconst 1, 1) := by decide +kernel
theorem dX10_readWord_37 : decode cX10_readWord 37 = .ok (.iadd, 1) := by decide +kernel
theorem dX10_readWord_38 : decode cX10_readWord 38 = .ok (.putfield 28, 3) := by decide +kernel
theorem dX10_readWord_41 : decode cX10_readWord 41 = .ok (.goto (-36), 3) := by decide +kernel
theorem dX10_readWord_44 : decode cX10_readWord 44 = .ok (.aload_n 0, 1) := by decide +kernel
theorem dX10_readWord_45 : decode cX10_readWord 45 = .ok (.aload_n 1, 1) := by decide +kernel
theorem dX10_readWord_46 : decode cX10_readWord 46 = .ok (.iload_n 2, 1) := by decide +kernel
theorem dX10_readWord_47 : decode cX10_readWord 47 = .ok (.invokevirtual 59, 3) := by decide +kernel
theorem dX10_readWord_50 : decode cX10_readWord 50 = .ok (.istore_n 3, 1) := by decide +kernel
theorem dX10_readWord_51 : decode cX10_readWord 51 = .ok (.aload_n 0, 1) := by decide +kernel
theorem dX10_readWord_52 : decode cX10_readWord 52 = .ok (.iload_n 3, 1) := by decide +kernel
theorem dX10_readWord_53 : decode cX10_readWord 53 = .ok (.iconst (-1), 1) := by decide +kernel
theorem dX10_readWord_54 : decode cX10_readWord 54 = .ok (.if_icmp .ne 7, 3) := by decide +kernel
theorem dX10_readWord_57 : decode cX10_readWord 57 = .ok (.iconst 1, 1) := by decide +kernel
theorem dX10_readWord_58 : decode cX10_readWord 58 = .ok (.goto 4, 3) := by decide +kernel
theorem dX10_readWord_61 : decode cX10_readWord 61 = .ok (.iconst 2, 1) := by decide +kernel
theorem dX10_readWord_62 : decode cX10_readWord 62 = .ok (.iload_n 3, 1) := by decide +kernel
theorem dX10_readWord_63 : decode cX10_readWord 63 = .ok (.iload_n 2, 1) := by decide +kernel
theorem dX10_readWord_64 : decode cX10_readWord 64 = .ok (.invokevirtual 51, 3) := by decide +kernel
theorem dX10_readWord_67 : decode cX10_readWord 67 = .ok (.return_, 1) := by decide +kernel
theorem dX10_keyword_0 : decode cX10_keyword 0 = .ok (.iconst 0, 1) := by decide +kernel
theorem dX10_keyword_1 : decode cX10_keyword 1 = .ok (.istore_n 3, 1) := by decide +kernel
theorem dX10_keyword_2 : decode cX10_keyword 2 = .ok (.iconst 0, 1) := by decide +kernel
theorem dX10_keyword_3 : decode cX10_keyword 3 = .ok (.istore 4, 2) := by decide +kernel
theorem dX10_keyword_5 : decode cX10_keyword 5 = .ok (.iconst 0, 1) := by decide +kernel
theorem dX10_keyword_6 : decode cX10_keyword 6 = .ok (.istore 5, 2) := by decide +kernel
theorem dX10_keyword_8 : decode cX10_keyword 8 = .ok (.iload 5, 2) := by decide +kernel
theorem dX10_keyword_10 : decode cX10_keyword 10 = .ok (.aload_n 1, 1) := by decide +kernel
theorem dX10_keyword_11 : decode cX10_keyword 11 = .ok (.invokevirtual 63, 3) := by decide +kernel
theorem dX10_keyword_14 : decode cX10_keyword 14 = .ok (.if_icmp .ge 58, 3) := by decide +kernel
theorem dX10_keyword_17 : decode cX10_keyword 17 = .ok (.aload_n 1, 1) := by decide +kernel
theorem dX10_keyword_18 : decode cX10_keyword 18 = .ok (.iload 5, 2) := by decide +kernel
theorem dX10_keyword_20 : decode cX10_keyword 20 = .ok (.invokevirtual 68, 3) := by decide +kernel
theorem dX10_keyword_23 : decode cX10_keyword 23 = .ok (.bipush 32, 2) := by decide +kernel
theorem dX10_keyword_25 : decode cX10_keyword 25 = .ok (.if_icmp .ne 41, 3) := by decide +kernel
theorem dX10_keyword_28 : decode cX10_keyword 28 = .ok (.iload 5, 2) := by decide +kernel
theorem dX10_keyword_30 : decode cX10_keyword 30 = .ok (.iload 4, 2) := by decide +kernel
theorem dX10_keyword_32 : decode cX10_keyword 32 = .ok (.isub, 1) := by decide +kernel
theorem dX10_keyword_33 : decode cX10_keyword 33 = .ok (.aload_n 0, 1) := by decide +kernel
theorem dX10_keyword_34 : decode cX10_keyword 34 = .ok (.getfield 28, 3) := by decide +kernel
theorem dX10_keyword_37 : decode cX10_keyword 37 = .ok (.iload_n 2, 1) := by decide +kernel
theorem dX10_keyword_38 : decode cX10_keyword 38 = .ok (.isub, 1) := by decide +kernel
theorem dX10_keyword_39 : decode cX10_keyword 39 = .ok (.if_icmp .ne 18, 3) := by decide +kernel
theorem dX10_keyword_42 : decode cX10_keyword 42 = .ok (.aload_n 0, 1) := by decide +kernel
theorem dX10_keyword_43 : decode cX10_keyword 43 = .ok (.aload_n 1, 1) := by decide +kernel
theorem dX10_keyword_44 : decode cX10_keyword 44 = .ok (.iload 4, 2) := by decide +kernel
theorem dX10_keyword_46 : decode cX10_keyword 46 = .ok (.iload 5, 2) := by decide +kernel
theorem dX10_keyword_48 : decode cX10_keyword 48 = .ok (.iload_n 2, 1) := by decide +kernel
theorem dX10_keyword_49 : decode cX10_keyword 49 = .ok (.invokevirtual 72, 3) := by decide +kernel
theorem dX10_keyword_52 : decode cX10_keyword 52 = .ok (.ifCond .eq 5, 3) := by decide +kernel
theorem dX10_keyword_55 : decode cX10_keyword 55 = .ok (.iload_n 3, 1) := by decide +kernel
theorem dX10_keyword_56 : decode cX10_keyword 56 = .ok (.ireturn, 1) := by decide +kernel
theorem dX10_keyword_57 : decode cX10_keyword 57 = .ok (.iinc 3 1, 3) := by decide +kernel
theorem dX10_keyword_60 : decode cX10_keyword 60 = .ok (.iload 5, 2) := by decide +kernel
theorem dX10_keyword_62 : decode cX10_keyword 62 = .ok (.iconst 1, 1) := by decide +kernel
theorem dX10_keyword_63 : decode cX10_keyword 63 = .ok (.iadd, 1) := by decide +kernel
theorem dX10_keyword_64 : decode cX10_keyword 64 = .ok (.istore 4, 2) := by decide +kernel
theorem dX10_keyword_66 : decode cX10_keyword 66 = .ok (.iinc 5 1, 3) := by decide +kernel
theorem dX10_keyword_69 : decode cX10_keyword 69 = .ok (.goto (-61), 3) := by decide +kernel
theorem dX10_keyword_72 : decode cX10_keyword 72 = .ok (.iconst (-1), 1) := by decide +kernel
theorem dX10_keyword_73 : decode cX10_keyword 73 = .ok (.ireturn, 1) := by decide +kernel
theorem dX10_isSame_0 : decode cX10_isSame 0 = .ok (.iload_n 2, 1) := by decide +kernel
theorem dX10_isSame_1 : decode cX10_isSame 1 = .ok (.istore 5, 2) := by decide +kernel
theorem dX10_isSame_3 : decode cX10_isSame 3 = .ok (.iload 5, 2) := by decide +kernel
theorem dX10_isSame_5 : decode cX10_isSame 5 = .ok (.iload_n 3, 1) := by decide +kernel
theorem dX10_isSame_6 : decode cX10_isSame 6 = .ok (.if_icmp .ge 32, 3) := by decide +kernel
theorem dX10_isSame_9 : decode cX10_isSame 9 = .ok (.aload_n 1, 1) := by decide +kernel
theorem dX10_isSame_10 : decode cX10_isSame 10 = .ok (.iload 5, 2) := by decide +kernel
theorem dX10_isSame_12 : decode cX10_isSame 12 = .ok (.invokevirtual 68, 3) := by decide +kernel
theorem dX10_isSame_15 : decode cX10_isSame 15 = .ok (.aload_n 0, 1) := by decide +kernel
theorem dX10_isSame_16 : decode cX10_isSame 16 = .ok (.getfield 9, 3) := by decide +kernel
theorem dX10_isSame_19 : decode cX10_isSame 19 = .ok (.iload 4, 2) := by decide +kernel
theorem dX10_isSame_21 : decode cX10_isSame 21 = .ok (.iload 5, 2) := by decide +kernel
theorem dX10_isSame_23 : decode cX10_isSame 23 = .ok (.iadd, 1) := by decide +kernel
theorem dX10_isSame_24 : decode cX10_isSame 24 = .ok (.iload_n 2, 1) := by decide +kernel
theorem dX10_isSame_25 : decode cX10_isSame 25 = .ok (.isub, 1) := by decide +kernel
theorem dX10_isSame_26 : decode cX10_isSame 26 = .ok (.iaload, 1) := by decide +kernel
theorem dX10_isSame_27 : decode cX10_isSame 27 = .ok (.if_icmp .eq 5, 3) := by decide +kernel
theorem dX10_isSame_30 : decode cX10_isSame 30 = .ok (.iconst 0, 1) := by decide +kernel
theorem dX10_isSame_31 : decode cX10_isSame 31 = .ok (.ireturn, 1) := by decide +kernel
theorem dX10_isSame_32 : decode cX10_isSame 32 = .ok (.iinc 5 1, 3) := by decide +kernel
theorem dX10_isSame_35 : decode cX10_isSame 35 = .ok (.goto (-32), 3) := by decide +kernel
theorem dX10_isSame_38 : decode cX10_isSame 38 = .ok (.iconst 1, 1) := by decide +kernel
theorem dX10_isSame_39 : decode cX10_isSame 39 = .ok (.ireturn, 1) := by decide +kernel
theorem dX10_readDigits_0 : decode cX10_readDigits 0 = .ok (.aload_n 0, 1) := by decide +kernel
theorem dX10_readDigits_1 : decode cX10_readDigits 1 = .ok (.getfield 28, 3) := by decide +kernel
theorem dX10_readDigits_4 : decode cX10_readDigits 4 = .ok (.istore_n 1, 1) := by decide +kernel
theorem dX10_readDigits_5 : decode cX10_readDigits 5 = .ok (.iconst 0, 1) := by decide +kernel
theorem dX10_readDigits_6 : decode cX10_readDigits 6 = .ok (.istore_n 2, 1) := by decide +kernel
theorem dX10_readDigits_7 : decode cX10_readDigits 7 = .ok (.aload_n 0, 1) := by decide +kernel
theorem dX10_readDigits_8 : decode cX10_readDigits 8 = .ok (.getfield 28, 3) := by decide +kernel
theorem dX10_readDigits_11 : decode cX10_readDigits 11 = .ok (.aload_n 0, 1) := by decide +kernel
theorem dX10_readDigits_12 : decode cX10_readDigits 12 = .ok (.getfield 24, 3) := by decide +kernel
theorem dX10_readDigits_15 : decode cX10_readDigits 15 = .ok (.if_icmp .ge 63, 3) := by decide +kernel
theorem dX10_readDigits_18 : decode cX10_readDigits 18 = .ok (.aload_n 0, 1) := by decide +kernel
theorem dX10_readDigits_19 : decode cX10_readDigits 19 = .ok (.getfield 9, 3) := by decide +kernel
theorem dX10_readDigits_22 : decode cX10_readDigits 22 = .ok (.aload_n 0, 1) := by decide +kernel
theorem dX10_readDigits_23 : decode cX10_readDigits 23 = .ok (.getfield 28, 3) := by decide +kernel
theorem dX10_readDigits_26 : decode cX10_readDigits 26 = .ok (.iaload, 1) := by decide +kernel
theorem dX10_readDigits_27 : decode cX10_readDigits 27 = .ok (.invokestatic 45, 3) := by decide +kernel
theorem dX10_readDigits_30 : decode cX10_readDigits 30 = .ok (.ifCond .eq 48, 3) := by decide +kernel
theorem dX10_readDigits_33 : decode cX10_readDigits 33 = .ok (.aload_n 0, 1) := by decide +kernel
theorem dX10_readDigits_34 : decode cX10_readDigits 34 = .ok (.getfield 28, 3) := by decide +kernel
theorem dX10_readDigits_37 : decode cX10_readDigits 37 = .ok (.iload_n 1, 1) := by decide +kernel
theorem dX10_readDigits_38 : decode cX10_readDigits 38 = .ok (.isub, 1) := by decide +kernel
theorem dX10_readDigits_39 : decode cX10_readDigits 39 = .ok (.iconst 4, 1) := by decide +kernel
theorem dX10_readDigits_40 : decode cX10_readDigits 40 = .ok (.if_icmp .ge 23, 3) := by decide +kernel
theorem dX10_readDigits_43 : decode cX10_readDigits 43 = .ok (.bipush 10, 2) := by decide +kernel
theorem dX10_readDigits_45 : decode cX10_readDigits 45 = .ok (.iload_n 2, 1) := by decide +kernel
theorem dX10_readDigits_46 : decode cX10_readDigits 46 = .ok (.imul, 1) := by decide +kernel
theorem dX10_readDigits_47 : decode cX10_readDigits 47 = .ok (.aload_n 0, 1) := by decide +kernel
theorem dX10_readDigits_48 : decode cX10_readDigits 48 = .ok (.getfield 9, 3) := by decide +kernel
theorem dX10_readDigits_51 : decode cX10_readDigits 51 = .ok (.aload_n 0, 1) := by decide +kernel
theorem dX10_readDigits_52 : decode cX10_readDigits 52 = .ok (.getfield 28, 3) := by decide +kernel
theorem dX10_readDigits_55 : decode cX10_readDigits 55 = .ok (.iaload, 1) := by decide +kernel
theorem dX10_readDigits_56 : decode cX10_readDigits 56 = .ok (.iadd, 1) := by decide +kernel
theorem dX10_readDigits_57 : decode cX10_readDigits 57 = .ok (.bipush 48, 2) := by decide +kernel
theorem dX10_readDigits_59 : decode cX10_readDigits 59 = .ok (.isub, 1) := by decide +kernel
theorem dX10_readDigits_60 : decode cX10_readDigits 60 = .ok (.goto 4, 3) := by decide +kernel
theorem dX10_readDigits_63 : decode cX10_readDigits 63 = .ok (.iconst 0, 1) := by decide +kernel
theorem dX10_readDigits_64 : decode cX10_readDigits 64 = .ok (.istore_n 2, 1) := by decide +kernel
theorem dX10_readDigits_65 : decode cX10_readDigits 65 = .ok (.aload_n 0, 1) := by decide +kernel
theorem dX10_readDigits_66 : decode cX10_readDigits 66 = .ok (.dup, 1) := by decide +kernel
theorem dX10_readDigits_67 : decode cX10_readDigits 67 = .ok (.getfield 28, 3) := by decide +kernel
theorem dX10_readDigits_70 : decode cX10_readDigits 70 = .ok (.iconst 1, 1) := by decide +kernel
theorem dX10_readDigits_71 : decode cX10_readDigits 71 = .ok (.iadd, 1) := by decide +kernel
theorem dX10_readDigits_72 : decode cX10_readDigits 72 = .ok (.putfield 28, 3) := by decide +kernel
theorem dX10_readDigits_75 : decode cX10_readDigits 75 = .ok (.goto (-68), 3) := by decide +kernel
theorem dX10_readDigits_78 : decode cX10_readDigits 78 = .ok (.aload_n 0, 1) := by decide +kernel
theorem dX10_readDigits_79 : decode cX10_readDigits 79 = .ok (.aload_n 0, 1) := by decide +kernel
theorem dX10_readDigits_80 : decode cX10_readDigits 80 = .ok (.getfield 28, 3) := by decide +kernel
theorem dX10_readDigits_83 : decode cX10_readDigits 83 = .ok (.iload_n 1, 1) := by decide +kernel
theorem dX10_readDigits_84 : decode cX10_readDigits 84 = .ok (.isub, 1) := by decide +kernel
theorem dX10_readDigits_85 : decode cX10_readDigits 85 = .ok (.iconst 4, 1) := by decide +kernel
theorem dX10_readDigits_86 : decode cX10_readDigits 86 = .ok (.if_icmp .le 7, 3) := by decide +kernel
theorem dX10_readDigits_89 : decode cX10_readDigits 89 = .ok (.iconst 1, 1) := by decide +kernel
theorem dX10_readDigits_90 : decode cX10_readDigits 90 = .ok (.goto 4, 3) := by decide +kernel
theorem dX10_readDigits_93 : decode cX10_readDigits 93 = .ok (.iconst 3, 1) := by decide +kernel
theorem dX10_readDigits_94 : decode cX10_readDigits 94 = .ok (.iload_n 2, 1) := by decide +kernel
theorem dX10_readDigits_95 : decode cX10_readDigits 95 = .ok (.iload_n 1, 1) := by decide +kernel
theorem dX10_readDigits_96 : decode cX10_readDigits 96 = .ok (.invokevirtual 51, 3) := by decide +kernel
theorem dX10_readDigits_99 : decode cX10_readDigits 99 = .ok (.return_, 1) := by decide +kernel
theorem dX10_advance_0 : decode cX10_advance 0 = .ok (.aload_n 0, 1) := by decide +kernel
theorem dX10_advance_1 : decode cX10_advance 1 = .ok (.getfield 34, 3) := by decide +kernel
theorem dX10_advance_4 : decode cX10_advance 4 = .ok (.aload_n 0, 1) := by decide +kernel
theorem dX10_advance_5 : decode cX10_advance 5 = .ok (.getfield 31, 3) := by decide +kernel
theorem dX10_advance_8 : decode cX10_advance 8 = .ok (.iconst 1, 1) := by decide +kernel
theorem dX10_advance_9 : decode cX10_advance 9 = .ok (.isub, 1) := by decide +kernel
theorem dX10_advance_10 : decode cX10_advance 10 = .ok (.if_icmp .ge 13, 3) := by decide +kernel
theorem dX10_advance_13 : decode cX10_advance 13 = .ok (.aload_n 0, 1) := by decide +kernel
theorem dX10_advance_14 : decode cX10_advance 14 = .ok (.dup, 1) := by decide +kernel
theorem dX10_advance_15 : decode cX10_advance 15 = .ok (.getfield 34, 3) := by decide +kernel
theorem dX10_advance_18 : decode cX10_advance 18 = .ok (.iconst 1, 1) := by decide +kernel
theorem dX10_advance_19 : decode cX10_advance 19 = .ok (.iadd, 1) := by decide +kernel
theorem dX10_advance_20 : decode cX10_advance 20 = .ok (.putfield 34, 3) := by decide +kernel
theorem dX10_advance_23 : decode cX10_advance 23 = .ok (.return_, 1) := by decide +kernel
theorem dX10_kind_0 : decode cX10_kind 0 = .ok (.aload_n 0, 1) := by decide +kernel
theorem dX10_kind_1 : decode cX10_kind 1 = .ok (.getfield 15, 3) := by decide +kernel
theorem dX10_kind_4 : decode cX10_kind 4 = .ok (.aload_n 0, 1) := by decide +kernel
theorem dX10_kind_5 : decode cX10_kind 5 = .ok (.getfield 34, 3) := by decide +kernel
theorem dX10_kind_8 : decode cX10_kind 8 = .ok (.iaload, 1) := by decide +kernel
theorem dX10_kind_9 : decode cX10_kind 9 = .ok (.ireturn, 1) := by decide +kernel
theorem dX10_value_0 : decode cX10_value 0 = .ok (.aload_n 0, 1) := by decide +kernel
theorem dX10_value_1 : decode cX10_value 1 = .ok (.getfield 18, 3) := by decide +kernel
theorem dX10_value_4 : decode cX10_value 4 = .ok (.aload_n 0, 1) := by decide +kernel
theorem dX10_value_5 : decode cX10_value 5 = .ok (.getfield 34, 3) := by decide +kernel
theorem dX10_value_8 : decode cX10_value 8 = .ok (.iaload, 1) := by decide +kernel
theorem dX10_value_9 : decode cX10_value 9 = .ok (.ireturn, 1) := by decide +kernel
theorem dX10_isWord_0 : decode cX10_isWord 0 = .ok (.aload_n 0, 1) := by decide +kernel
theorem dX10_isWord_1 : decode cX10_isWord 1 = .ok (.getfield 15, 3) := by decide +kernel
theorem dX10_isWord_4 : decode cX10_isWord 4 = .ok (.aload_n 0, 1) := by decide +kernel
theorem dX10_isWord_5 : decode cX10_isWord 5 = .ok (.getfield 34, 3) := by decide +kernel
theorem dX10_isWord_8 : decode cX10_isWord 8 = .ok (.iaload, 1) := by decide +kernel
theorem dX10_isWord_9 : decode cX10_isWord 9 = .ok (.iconst 2, 1) := by decide +kernel
theorem dX10_isWord_10 : decode cX10_isWord 10 = .ok (.if_icmp .ne 20, 3) := by decide +kernel
theorem dX10_isWord_13 : decode cX10_isWord 13 = .ok (.aload_n 0, 1) := by decide +kernel
theorem dX10_isWord_14 : decode cX10_isWord 14 = .ok (.getfield 18, 3) := by decide +kernel
theorem dX10_isWord_17 : decode cX10_isWord 17 = .ok (.aload_n 0, 1) := by decide +kernel
theorem dX10_isWord_18 : decode cX10_isWord 18 = .ok (.getfield 34, 3) := by decide +kernel
theorem dX10_isWord_21 : decode cX10_isWord 21 = .ok (.iaload, 1) := by decide +kernel
theorem dX10_isWord_22 : decode cX10_isWord 22 = .ok (.iload_n 1, 1) := by decide +kernel
