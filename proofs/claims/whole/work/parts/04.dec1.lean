theorem dX4_takeOut_27 : decode cX4_takeOut 27 = .ok (.getfield 57, 3) := by decide +kernel
theorem dX4_takeOut_30 : decode cX4_takeOut 30 = .ok (.iload 4, 2) := by decide +kernel
theorem dX4_takeOut_32 : decode cX4_takeOut 32 = .ok (.isub, 1) := by decide +kernel
theorem dX4_takeOut_33 : decode cX4_takeOut 33 = .ok (.putfield 57, 3) := by decide +kernel
theorem dX4_takeOut_36 : decode cX4_takeOut 36 = .ok (.iload 4, 2) := by decide +kernel
theorem dX4_takeOut_38 : decode cX4_takeOut 38 = .ok (.ireturn, 1) := by decide +kernel
theorem dX4_cancelBreak_0 : decode cX4_cancelBreak 0 = .ok (.aload_n 0, 1) := by decide +kernel
theorem dX4_cancelBreak_1 : decode cX4_cancelBreak 1 = .ok (.getfield 11, 3) := by decide +kernel
theorem dX4_cancelBreak_4 : decode cX4_cancelBreak 4 = .ok (.iload_n 1, 1) := by decide +kernel
theorem dX4_cancelBreak_5 : decode cX4_cancelBreak 5 = .ok (.aaload, 1) := by decide +kernel
theorem dX4_cancelBreak_6 : decode cX4_cancelBreak 6 = .ok (.astore_n 2, 1) := by decide +kernel
theorem dX4_cancelBreak_7 : decode cX4_cancelBreak 7 = .ok (.iconst 0, 1) := by decide +kernel
theorem dX4_cancelBreak_8 : decode cX4_cancelBreak 8 = .ok (.istore_n 3, 1) := by decide +kernel
theorem dX4_cancelBreak_9 : decode cX4_cancelBreak 9 = .ok (.iload_n 3, 1) := by decide +kernel
theorem dX4_cancelBreak_10 : decode cX4_cancelBreak 10 = .ok (.aload_n 2, 1) := by decide +kernel
theorem dX4_cancelBreak_11 : decode cX4_cancelBreak 11 = .ok (.getfield 87, 3) := by decide +kernel
theorem dX4_cancelBreak_14 : decode cX4_cancelBreak 14 = .ok (.getfield 54, 3) := by decide +kernel
theorem dX4_cancelBreak_17 : decode cX4_cancelBreak 17 = .ok (.if_icmp .ge 32, 3) := by decide +kernel
theorem dX4_cancelBreak_20 : decode cX4_cancelBreak 20 = .ok (.aload_n 0, 1) := by decide +kernel
theorem dX4_cancelBreak_21 : decode cX4_cancelBreak 21 = .ok (.getfield 40, 3) := by decide +kernel
theorem dX4_cancelBreak_24 : decode cX4_cancelBreak 24 = .ok (.aload_n 2, 1) := by decide +kernel
theorem dX4_cancelBreak_25 : decode cX4_cancelBreak 25 = .ok (.getfield 87, 3) := by decide +kernel
theorem dX4_cancelBreak_28 : decode cX4_cancelBreak 28 = .ok (.iload_n 3, 1) := by decide +kernel
theorem dX4_cancelBreak_29 : decode cX4_cancelBreak 29 = .ok (.aload_n 0, 1) := by decide +kernel
theorem dX4_cancelBreak_30 : decode cX4_cancelBreak 30 = .ok (.getfield 40, 3) := by decide +kernel
theorem dX4_cancelBreak_33 : decode cX4_cancelBreak 33 = .ok (.getfield 54, 3) := by decide +kernel
theorem dX4_cancelBreak_36 : decode cX4_cancelBreak 36 = .ok (.aload_n 2, 1) := by decide +kernel
theorem dX4_cancelBreak_37 : decode cX4_cancelBreak 37 = .ok (.getfield 121, 3) := by decide +kernel
theorem dX4_cancelBreak_40 : decode cX4_cancelBreak 40 = .ok (.invokevirtual 167, 3) := by decide +kernel
theorem dX4_cancelBreak_43 : decode cX4_cancelBreak 43 = .ok (.iinc 3 1, 3) := by decide +kernel
theorem dX4_cancelBreak_46 : decode cX4_cancelBreak 46 = .ok (.goto (-37), 3) := by decide +kernel
theorem dX4_cancelBreak_49 : decode cX4_cancelBreak 49 = .ok (.aload_n 2, 1) := by decide +kernel
theorem dX4_cancelBreak_50 : decode cX4_cancelBreak 50 = .ok (.getfield 87, 3) := by decide +kernel
theorem dX4_cancelBreak_53 : decode cX4_cancelBreak 53 = .ok (.iconst 0, 1) := by decide +kernel
theorem dX4_cancelBreak_54 : decode cX4_cancelBreak 54 = .ok (.putfield 54, 3) := by decide +kernel
theorem dX4_cancelBreak_57 : decode cX4_cancelBreak 57 = .ok (.aload_n 2, 1) := by decide +kernel
theorem dX4_cancelBreak_58 : decode cX4_cancelBreak 58 = .ok (.iconst 2, 1) := by decide +kernel
theorem dX4_cancelBreak_59 : decode cX4_cancelBreak 59 = .ok (.putfield 94, 3) := by decide +kernel
theorem dX4_cancelBreak_62 : decode cX4_cancelBreak 62 = .ok (.return_, 1) := by decide +kernel
theorem dX4_settleOwed_0 : decode cX4_settleOwed 0 = .ok (.aload_n 0, 1) := by decide +kernel
theorem dX4_settleOwed_1 : decode cX4_settleOwed 1 = .ok (.getfield 40, 3) := by decide +kernel
theorem dX4_settleOwed_4 : decode cX4_settleOwed 4 = .ok (.getfield 54, 3) := by decide +kernel
theorem dX4_settleOwed_7 : decode cX4_settleOwed 7 = .ok (.istore_n 1, 1) := by decide +kernel
theorem dX4_settleOwed_8 : decode cX4_settleOwed 8 = .ok (.iconst 0, 1) := by decide +kernel
theorem dX4_settleOwed_9 : decode cX4_settleOwed 9 = .ok (.istore_n 2, 1) := by decide +kernel
theorem dX4_settleOwed_10 : decode cX4_settleOwed 10 = .ok (.iconst 0, 1) := by decide +kernel
theorem dX4_settleOwed_11 : decode cX4_settleOwed 11 = .ok (.istore_n 3, 1) := by decide +kernel
theorem dX4_settleOwed_12 : decode cX4_settleOwed 12 = .ok (.iload_n 3, 1) := by decide +kernel
theorem dX4_settleOwed_13 : decode cX4_settleOwed 13 = .ok (.iload_n 1, 1) := by decide +kernel
theorem dX4_settleOwed_14 : decode cX4_settleOwed 14 = .ok (.if_icmp .ge 84, 3) := by decide +kernel
theorem dX4_settleOwed_17 : decode cX4_settleOwed 17 = .ok (.iload_n 2, 1) := by decide +kernel
theorem dX4_settleOwed_18 : decode cX4_settleOwed 18 = .ok (.aload_n 0, 1) := by decide +kernel
theorem dX4_settleOwed_19 : decode cX4_settleOwed 19 = .ok (.getfield 40, 3) := by decide +kernel
theorem dX4_settleOwed_22 : decode cX4_settleOwed 22 = .ok (.getfield 54, 3) := by decide +kernel
theorem dX4_settleOwed_25 : decode cX4_settleOwed 25 = .ok (.if_icmp .ge 73, 3) := by decide +kernel
theorem dX4_settleOwed_28 : decode cX4_settleOwed 28 = .ok (.aload_n 0, 1) := by decide +kernel
theorem dX4_settleOwed_29 : decode cX4_settleOwed 29 = .ok (.iload_n 2, 1) := by decide +kernel
theorem dX4_settleOwed_30 : decode cX4_settleOwed 30 = .ok (.invokevirtual 171, 3) := by decide +kernel
theorem dX4_settleOwed_33 : decode cX4_settleOwed 33 = .ok (.istore 4, 2) := by decide +kernel
theorem dX4_settleOwed_35 : decode cX4_settleOwed 35 = .ok (.iload 4, 2) := by decide +kernel
theorem dX4_settleOwed_37 : decode cX4_settleOwed 37 = .ok (.ifCond .ge 9, 3) := by decide +kernel
theorem dX4_settleOwed_40 : decode cX4_settleOwed 40 = .ok (.iinc 2 1, 3) := by decide +kernel
theorem dX4_settleOwed_43 : decode cX4_settleOwed 43 = .ok (.goto 49, 3) := by decide +kernel
theorem dX4_settleOwed_46 : decode cX4_settleOwed 46 = .ok (.aload_n 0, 1) := by decide +kernel
theorem dX4_settleOwed_47 : decode cX4_settleOwed 47 = .ok (.getfield 11, 3) := by decide +kernel
theorem dX4_settleOwed_50 : decode cX4_settleOwed 50 = .ok (.iload 4, 2) := by decide +kernel
theorem dX4_settleOwed_52 : decode cX4_settleOwed 52 = .ok (.aaload, 1) := by decide +kernel
theorem dX4_settleOwed_53 : decode cX4_settleOwed 53 = .ok (.getfield 87, 3) := by decide +kernel
theorem dX4_settleOwed_56 : decode cX4_settleOwed 56 = .ok (.astore 5, 2) := by decide +kernel
theorem dX4_settleOwed_58 : decode cX4_settleOwed 58 = .ok (.aload 5, 2) := by decide +kernel
theorem dX4_settleOwed_60 : decode cX4_settleOwed 60 = .ok (.aload_n 0, 1) := by decide +kernel
theorem dX4_settleOwed_61 : decode cX4_settleOwed 61 = .ok (.getfield 40, 3) := by decide +kernel
theorem dX4_settleOwed_64 : decode cX4_settleOwed 64 = .ok (.iload_n 2, 1) := by decide +kernel
theorem dX4_settleOwed_65 : decode cX4_settleOwed 65 = .ok (.aload_n 0, 1) := by decide +kernel
theorem dX4_settleOwed_66 : decode cX4_settleOwed 66 = .ok (.aload_n 0, 1) := by decide +kernel
theorem dX4_settleOwed_67 : decode cX4_settleOwed 67 = .ok (.getfield 40, 3) := by decide +kernel
theorem dX4_settleOwed_70 : decode cX4_settleOwed 70 = .ok (.getfield 115, 3) := by decide +kernel
theorem dX4_settleOwed_73 : decode cX4_settleOwed 73 = .ok (.iload_n 2, 1) := by decide +kernel
theorem dX4_settleOwed_74 : decode cX4_settleOwed 74 = .ok (.iaload, 1) := by decide +kernel
theorem dX4_settleOwed_75 : decode cX4_settleOwed 75 = .ok (.aload 5, 2) := by decide +kernel
theorem dX4_settleOwed_77 : decode cX4_settleOwed 77 = .ok (.invokevirtual 111, 3) := by decide +kernel
theorem dX4_settleOwed_80 : decode cX4_settleOwed 80 = .ok (.iconst 0, 1) := by decide +kernel
theorem dX4_settleOwed_81 : decode cX4_settleOwed 81 = .ok (.invokevirtual 167, 3) := by decide +kernel
theorem dX4_settleOwed_84 : decode cX4_settleOwed 84 = .ok (.aload_n 0, 1) := by decide +kernel
theorem dX4_settleOwed_85 : decode cX4_settleOwed 85 = .ok (.getfield 40, 3) := by decide +kernel
theorem dX4_settleOwed_88 : decode cX4_settleOwed 88 = .ok (.iload_n 2, 1) := by decide +kernel
theorem dX4_settleOwed_89 : decode cX4_settleOwed 89 = .ok (.invokevirtual 164, 3) := by decide +kernel
theorem dX4_settleOwed_92 : decode cX4_settleOwed 92 = .ok (.iinc 3 1, 3) := by decide +kernel
theorem dX4_settleOwed_95 : decode cX4_settleOwed 95 = .ok (.goto (-83), 3) := by decide +kernel
theorem dX4_settleOwed_98 : decode cX4_settleOwed 98 = .ok (.iload_n 1, 1) := by decide +kernel
theorem dX4_settleOwed_99 : decode cX4_settleOwed 99 = .ok (.aload_n 0, 1) := by decide +kernel
theorem dX4_settleOwed_100 : decode cX4_settleOwed 100 = .ok (.getfield 40, 3) := by decide +kernel
theorem dX4_settleOwed_103 : decode cX4_settleOwed 103 = .ok (.getfield 54, 3) := by decide +kernel
theorem dX4_settleOwed_106 : decode cX4_settleOwed 106 = .ok (.isub, 1) := by decide +kernel
theorem dX4_settleOwed_107 : decode cX4_settleOwed 107 = .ok (.ireturn, 1) := by decide +kernel
theorem dX4_breakForOwed_0 : decode cX4_breakForOwed 0 = .ok (.iconst 0, 1) := by decide +kernel
theorem dX4_breakForOwed_1 : decode cX4_breakForOwed 1 = .ok (.istore_n 2, 1) := by decide +kernel
theorem dX4_breakForOwed_2 : decode cX4_breakForOwed 2 = .ok (.iload_n 2, 1) := by decide +kernel
theorem dX4_breakForOwed_3 : decode cX4_breakForOwed 3 = .ok (.aload_n 0, 1) := by decide +kernel
theorem dX4_breakForOwed_4 : decode cX4_breakForOwed 4 = .ok (.getfield 44, 3) := by decide +kernel
theorem dX4_breakForOwed_7 : decode cX4_breakForOwed 7 = .ok (.if_icmp .ge 68, 3) := by decide +kernel
theorem dX4_breakForOwed_10 : decode cX4_breakForOwed 10 = .ok (.aload_n 0, 1) := by decide +kernel
theorem dX4_breakForOwed_11 : decode cX4_breakForOwed 11 = .ok (.getfield 11, 3) := by decide +kernel
theorem dX4_breakForOwed_14 : decode cX4_breakForOwed 14 = .ok (.iload_n 2, 1) := by decide +kernel
theorem dX4_breakForOwed_15 : decode cX4_breakForOwed 15 = .ok (.aaload, 1) := by decide +kernel
theorem dX4_breakForOwed_16 : decode cX4_breakForOwed 16 = .ok (.getfield 121, 3) := by decide +kernel
theorem dX4_breakForOwed_19 : decode cX4_breakForOwed 19 = .ok (.aload_n 0, 1) := by decide +kernel
theorem dX4_breakForOwed_20 : decode cX4_breakForOwed 20 = .ok (.getfield 40, 3) := by decide +kernel
theorem dX4_breakForOwed_23 : decode cX4_breakForOwed 23 = .ok (.getfield 174, 3) := by decide +kernel
theorem dX4_breakForOwed_26 : decode cX4_breakForOwed 26 = .ok (.iload_n 1, 1) := by decide +kernel
theorem dX4_breakForOwed_27 : decode cX4_breakForOwed 27 = .ok (.iaload, 1) := by decide +kernel
theorem dX4_breakForOwed_28 : decode cX4_breakForOwed 28 = .ok (.if_icmp .lt 7, 3) := by decide +kernel
theorem dX4_breakForOwed_31 : decode cX4_breakForOwed 31 = .ok (.iconst 1, 1) := by decide +kernel
theorem dX4_breakForOwed_32 : decode cX4_breakForOwed 32 = .ok (.goto 4, 3) := by decide +kernel
theorem dX4_breakForOwed_35 : decode cX4_breakForOwed 35 = .ok (.iconst 0, 1) := by decide +kernel
theorem dX4_breakForOwed_36 : decode cX4_breakForOwed 36 = .ok (.istore_n 3, 1) := by decide +kernel
theorem dX4_breakForOwed_37 : decode cX4_breakForOwed 37 = .ok (.iload_n 3, 1) := by decide +kernel
theorem dX4_breakForOwed_38 : decode cX4_breakForOwed 38 = .ok (.ifCond .eq 31, 3) := by decide +kernel
theorem dX4_breakForOwed_41 : decode cX4_breakForOwed 41 = .ok (.aload_n 0, 1) := by decide +kernel
theorem dX4_breakForOwed_42 : decode cX4_breakForOwed 42 = .ok (.aload_n 0, 1) := by decide +kernel
theorem dX4_breakForOwed_43 : decode cX4_breakForOwed 43 = .ok (.getfield 40, 3) := by decide +kernel
theorem dX4_breakForOwed_46 : decode cX4_breakForOwed 46 = .ok (.getfield 115, 3) := by decide +kernel
theorem dX4_breakForOwed_49 : decode cX4_breakForOwed 49 = .ok (.iload_n 1, 1) := by decide +kernel
theorem dX4_breakForOwed_50 : decode cX4_breakForOwed 50 = .ok (.iaload, 1) := by decide +kernel
theorem dX4_breakForOwed_51 : decode cX4_breakForOwed 51 = .ok (.aload_n 0, 1) := by decide +kernel
theorem dX4_breakForOwed_52 : decode cX4_breakForOwed 52 = .ok (.getfield 40, 3) := by decide +kernel
theorem dX4_breakForOwed_55 : decode cX4_breakForOwed 55 = .ok (.getfield 177, 3) := by decide +kernel
theorem dX4_breakForOwed_58 : decode cX4_breakForOwed 58 = .ok (.iload_n 1, 1) := by decide +kernel
theorem dX4_breakForOwed_59 : decode cX4_breakForOwed 59 = .ok (.iaload, 1) := by decide +kernel
theorem dX4_breakForOwed_60 : decode cX4_breakForOwed 60 = .ok (.iload_n 2, 1) := by decide +kernel
theorem dX4_breakForOwed_61 : decode cX4_breakForOwed 61 = .ok (.invokevirtual 140, 3) := by decide +kernel
theorem dX4_breakForOwed_64 : decode cX4_breakForOwed 64 = .ok (.ifCond .ne 5, 3) := by decide +kernel
theorem dX4_breakForOwed_67 : decode cX4_breakForOwed 67 = .ok (.iload_n 2, 1) := by decide +kernel
theorem dX4_breakForOwed_68 : decode cX4_breakForOwed 68 = .ok (.ireturn, 1) := by decide +kernel
theorem dX4_breakForOwed_69 : decode cX4_breakForOwed 69 = .ok (.iinc 2 1, 3) := by decide +kernel
theorem dX4_breakForOwed_72 : decode cX4_breakForOwed 72 = .ok (.goto (-70), 3) := by decide +kernel
theorem dX4_breakForOwed_75 : decode cX4_breakForOwed 75 = .ok (.iconst (-1), 1) := by decide +kernel
theorem dX4_breakForOwed_76 : decode cX4_breakForOwed 76 = .ok (.ireturn, 1) := by decide +kernel
theorem dX5_init_0 : decode cX5_init 0 = .ok (.aload_n 0, 1) := by decide +kernel
theorem dX5_init_1 : decode cX5_init 1 = .ok (.invokespecial 3, 3) := by decide +kernel
theorem dX5_init_4 : decode cX5_init 4 = .ok (.aload_n 0, 1) := by decide +kernel
theorem dX5_init_5 : decode cX5_init 5 = .ok (.new 9, 3) := by decide +kernel
theorem dX5_init_8 : decode cX5_init 8 = .ok (.dup, 1) := by decide +kernel
theorem dX5_init_9 : decode cX5_init 9 = .ok (.invokespecial 11, 3) := by decide +kernel
theorem dX5_init_12 : decode cX5_init 12 = .ok (.putfield 12, 3) := by decide +kernel
theorem dX5_init_15 : decode cX5_init 15 = .ok (.return_, 1) := by decide +kernel
theorem dX5_readSetup_0 : decode cX5_readSetup 0 = .ok (.aload_n 3, 1) := by decide +kernel
theorem dX5_readSetup_1 : decode cX5_readSetup 1 = .ok (.invokevirtual 18, 3) := by decide +kernel
theorem dX5_readSetup_4 : decode cX5_readSetup 4 = .ok (.aload_n 0, 1) := by decide +kernel
theorem dX5_readSetup_5 : decode cX5_readSetup 5 = .ok (.iconst 0, 1) := by decide +kernel
theorem dX5_readSetup_6 : decode cX5_readSetup 6 = .ok (.putfield 23, 3) := by decide +kernel
theorem dX5_readSetup_9 : decode cX5_readSetup 9 = .ok (.aload_n 0, 1) := by decide +kernel
theorem dX5_readSetup_10 : decode cX5_readSetup 10 = .ok (.iconst (-1), 1) := by decide +kernel
theorem dX5_readSetup_11 : decode cX5_readSetup 11 = .ok (.putfield 27, 3) := by decide +kernel
theorem dX5_readSetup_14 : decode cX5_readSetup 14 = .ok (.aload_n 0, 1) := by decide +kernel
theorem dX5_readSetup_15 : decode cX5_readSetup 15 = .ok (.iconst 0, 1) := by decide +kernel
theorem dX5_readSetup_16 : decode cX5_readSetup 16 = .ok (.putfield 30, 3) := by decide +kernel
theorem dX5_readSetup_19 : decode cX5_readSetup 19 = .ok (.aload_n 0, 1) := by decide +kernel
theorem dX5_readSetup_20 : decode cX5_readSetup 20 = .ok (.iconst 0, 1) := by decide +kernel
theorem dX5_readSetup_21 : decode cX5_readSetup 21 = .ok (.putfield 33, 3) := by decide +kernel
theorem dX5_readSetup_24 : decode cX5_readSetup 24 = .ok (.aload_n 0, 1) := by decide +kernel
theorem dX5_readSetup_25 : decode cX5_readSetup 25 = .ok (.getfield 12, 3) := by decide +kernel
theorem dX5_readSetup_28 : decode cX5_readSetup 28 = .ok (.aload_n 1, 1) := by decide +kernel
theorem dX5_readSetup_29 : decode cX5_readSetup 29 = .ok (.iload_n 2, 1) := by decide +kernel
theorem dX5_readSetup_30 : decode cX5_readSetup 30 = .ok (.invokevirtual 37, 3) := by decide +kernel
theorem dX5_readSetup_33 : decode cX5_readSetup 33 = .ok (.aload_n 0, 1) := by decide +kernel
theorem dX5_readSetup_34 : decode cX5_readSetup 34 = .ok (.ldc 41, 2) := by decide +kernel
theorem dX5_readSetup_36 : decode cX5_readSetup 36 = .ok (.invokevirtual 43, 3) := by decide +kernel
theorem dX5_readSetup_39 : decode cX5_readSetup 39 = .ok (.ifCond .eq 12, 3) := by decide +kernel
theorem dX5_readSetup_42 : decode cX5_readSetup 42 = .ok (.aload_n 0, 1) := by decide +kernel
theorem dX5_readSetup_43 : decode cX5_readSetup 43 = .ok (.bipush 59, 2) := by decide +kernel
theorem dX5_readSetup_45 : decode cX5_readSetup 45 = .ok (.invokevirtual 47, 3) := by decide +kernel
theorem dX5_readSetup_48 : decode cX5_readSetup 48 = .ok (.ifCond .ne 5, 3) := by decide +kernel
theorem dX5_readSetup_51 : decode cX5_readSetup 51 = .ok (.iconst 0, 1) := by decide +kernel
theorem dX5_readSetup_52 : decode cX5_readSetup 52 = .ok (.ireturn, 1) := by decide +kernel
theorem dX5_readSetup_53 : decode cX5_readSetup 53 = .ok (.iconst 0, 1) := by decide +kernel
theorem dX5_readSetup_54 : decode cX5_readSetup 54 = .ok (.istore 4, 2) := by decide +kernel
theorem dX5_readSetup_56 : decode cX5_readSetup 56 = .ok (.iload 4, 2) := by decide +kernel
theorem dX5_readSetup_58 : decode cX5_readSetup 58 = .ok (.sipush 800, 3) := by decide +kernel
theorem dX5_readSetup_61 : decode cX5_readSetup 61 = .ok (.if_icmp .ge 38, 3) := by decide +kernel
theorem dX5_readSetup_64 : decode cX5_readSetup 64 = .ok (.aload_n 0, 1) := by decide +kernel
theorem dX5_readSetup_65 : decode cX5_readSetup 65 = .ok (.getfield 12, 3) := by decide +kernel
theorem dX5_readSetup_68 : decode cX5_readSetup 68 = .ok (.getfield 51, 3) := by decide +kernel
theorem dX5_readSetup_71 : decode cX5_readSetup 71 = .ok (.ifCond .eq 28, 3) := by decide +kernel
theorem dX5_readSetup_74 : decode cX5_readSetup 74 = .ok (.aload_n 0, 1) := by decide +kernel
theorem dX5_readSetup_75 : decode cX5_readSetup 75 = .ok (.aload_n 3, 1) := by decide +kernel
theorem dX5_readSetup_76 : decode cX5_readSetup 76 = .ok (.invokevirtual 54, 3) := by decide +kernel
theorem dX5_readSetup_79 : decode cX5_readSetup 79 = .ok (.ifCond .eq 12, 3) := by decide +kernel
theorem dX5_readSetup_82 : decode cX5_readSetup 82 = .ok (.aload_n 0, 1) := by decide +kernel
theorem dX5_readSetup_83 : decode cX5_readSetup 83 = .ok (.bipush 59, 2) := by decide +kernel
theorem dX5_readSetup_85 : decode cX5_readSetup 85 = .ok (.invokevirtual 47, 3) := by decide +kernel
theorem dX5_readSetup_88 : decode cX5_readSetup 88 = .ok (.ifCond .ne 5, 3) := by decide +kernel
theorem dX5_readSetup_91 : decode cX5_readSetup 91 = .ok (.iconst 0, 1) := by decide +kernel
theorem dX5_readSetup_92 : decode cX5_readSetup 92 = .ok (.ireturn, 1) := by decide +kernel
theorem dX5_readSetup_93 : decode cX5_readSetup 93 = .ok (.iinc 4 1, 3) := by decide +kernel
theorem dX5_readSetup_96 : decode cX5_readSetup 96 = .ok (.goto (-40), 3) := by decide +kernel
theorem dX5_readSetup_99 : decode cX5_readSetup 99 = .ok (.iconst 1, 1) := by decide +kernel
theorem dX5_readSetup_100 : decode cX5_readSetup 100 = .ok (.ireturn, 1) := by decide +kernel
theorem dX5_readStatement_0 : decode cX5_readStatement 0 = .ok (.aload_n 0, 1) := by decide +kernel
theorem dX5_readStatement_1 : decode cX5_readStatement 1 = .ok (.getfield 12, 3) := by decide +kernel
theorem dX5_readStatement_4 : decode cX5_readStatement 4 = .ok (.ldc 58, 2) := by decide +kernel
theorem dX5_readStatement_6 : decode cX5_readStatement 6 = .ok (.invokevirtual 60, 3) := by decide +kernel
theorem dX5_readStatement_9 : decode cX5_readStatement 9 = .ok (.ifCond .eq 9, 3) := by decide +kernel
theorem dX5_readStatement_12 : decode cX5_readStatement 12 = .ok (.aload_n 0, 1) := by decide +kernel
theorem dX5_readStatement_13 : decode cX5_readStatement 13 = .ok (.aload_n 1, 1) := by decide +kernel
theorem dX5_readStatement_14 : decode cX5_readStatement 14 = .ok (.invokevirtual 63, 3) := by decide +kernel
theorem dX5_readStatement_17 : decode cX5_readStatement 17 = .ok (.ireturn, 1) := by decide +kernel
theorem dX5_readStatement_18 : decode cX5_readStatement 18 = .ok (.aload_n 0, 1) := by decide +kernel
theorem dX5_readStatement_19 : decode cX5_readStatement 19 = .ok (.getfield 12, 3) := by decide +kernel
theorem dX5_readStatement_22 : decode cX5_readStatement 22 = .ok (.ldc 66, 2) := by decide +kernel
theorem dX5_readStatement_24 : decode cX5_readStatement 24 = .ok (.invokevirtual 60, 3) := by decide +kernel
theorem dX5_readStatement_27 : decode cX5_readStatement 27 = .ok (.ifCond .eq 9, 3) := by decide +kernel
theorem dX5_readStatement_30 : decode cX5_readStatement 30 = .ok (.aload_n 0, 1) := by decide +kernel
theorem dX5_readStatement_31 : decode cX5_readStatement 31 = .ok (.aload_n 1, 1) := by decide +kernel
theorem dX5_readStatement_32 : decode cX5_readStatement 32 = .ok (.invokevirtual 68, 3) := by decide +kernel
theorem dX5_readStatement_35 : decode cX5_readStatement 35 = .ok (.ireturn, 1) := by decide +kernel
theorem dX5_readStatement_36 : decode cX5_readStatement 36 = .ok (.aload_n 0, 1) := by decide +kernel
theorem dX5_readStatement_37 : decode cX5_readStatement 37 = .ok (.getfield 12, 3) := by decide +kernel
theorem dX5_readStatement_40 : decode cX5_readStatement 40 = .ok (.ldc 71, 2) := by decide +kernel
theorem dX5_readStatement_42 : decode cX5_readStatement 42 = .ok (.invokevirtual 60, 3) := by decide +kernel
theorem dX5_readStatement_45 : decode cX5_readStatement 45 = .ok (.ifCond .eq 9, 3) := by decide +kernel
theorem dX5_readStatement_48 : decode cX5_readStatement 48 = .ok (.aload_n 0, 1) := by decide +kernel
theorem dX5_readStatement_49 : decode cX5_readStatement 49 = .ok (.aload_n 1, 1) := by decide +kernel
theorem dX5_readStatement_50 : decode cX5_readStatement 50 = .ok (.invokevirtual 73, 3) := by decide +kernel
theorem dX5_readStatement_53 : decode cX5_readStatement 53 = .ok (.ireturn, 1) := by decide +kernel
theorem dX5_readStatement_54 : decode cX5_readStatement 54 = .ok (.aload_n 0, 1) := by decide +kernel
theorem dX5_readStatement_55 : decode cX5_readStatement 55 = .ok (.getfield 12, 3) := by decide +kernel
theorem dX5_readStatement_58 : decode cX5_readStatement 58 = .ok (.ldc 76, 2) := by decide +kernel
theorem dX5_readStatement_60 : decode cX5_readStatement 60 = .ok (.invokevirtual 60, 3) := by decide +kernel
theorem dX5_readStatement_63 : decode cX5_readStatement 63 = .ok (.ifCond .eq 10, 3) := by decide +kernel
theorem dX5_readStatement_66 : decode cX5_readStatement 66 = .ok (.aload_n 0, 1) := by decide +kernel
theorem dX5_readStatement_67 : decode cX5_readStatement 67 = .ok (.getfield 33, 3) := by decide +kernel
theorem dX5_readStatement_70 : decode cX5_readStatement 70 = .ok (.ifCond .eq 10, 3) := by decide +kernel
theorem dX5_readStatement_73 : decode cX5_readStatement 73 = .ok (.aload_n 0, 1) := by decide +kernel
theorem dX5_readStatement_74 : decode cX5_readStatement 74 = .ok (.bipush (-2), 2) := by decide +kernel
theorem dX5_readStatement_76 : decode cX5_readStatement 76 = .ok (.invokevirtual 78, 3) := by decide +kernel
theorem dX5_readStatement_79 : decode cX5_readStatement 79 = .ok (.ireturn, 1) := by decide +kernel
theorem dX5_readStatement_80 : decode cX5_readStatement 80 = .ok (.aload_n 0, 1) := by decide +kernel
theorem dX5_readStatement_81 : decode cX5_readStatement 81 = .ok (.getfield 12, 3) := by decide +kernel
theorem dX5_readStatement_84 : decode cX5_readStatement 84 = .ok (.invokevirtual 82, 3) := by decide +kernel
theorem dX5_readStatement_87 : decode cX5_readStatement 87 = .ok (.aload_n 0, 1) := by decide +kernel
theorem dX5_readStatement_88 : decode cX5_readStatement 88 = .ok (.iconst 1, 1) := by decide +kernel
theorem dX5_readStatement_89 : decode cX5_readStatement 89 = .ok (.putfield 33, 3) := by decide +kernel
theorem dX5_readStatement_92 : decode cX5_readStatement 92 = .ok (.aload_n 1, 1) := by decide +kernel
theorem dX5_readStatement_93 : decode cX5_readStatement 93 = .ok (.getfield 85, 3) := by decide +kernel
theorem dX5_readStatement_96 : decode cX5_readStatement 96 = .ok (.invokevirtual 89, 3) := by decide +kernel
theorem dX5_readStatement_99 : decode cX5_readStatement 99 = .ok (.aload_n 0, 1) := by decide +kernel
theorem dX5_readStatement_100 : decode cX5_readStatement 100 = .ok (.aload_n 1, 1) := by decide +kernel
theorem dX5_readStatement_101 : decode cX5_readStatement 101 = .ok (.getfield 85, 3) := by decide +kernel
theorem dX5_readStatement_104 : decode cX5_readStatement 104 = .ok (.iconst 0, 1) := by decide +kernel
theorem dX5_readStatement_105 : decode cX5_readStatement 105 = .ok (.invokevirtual 92, 3) := by decide +kernel
theorem dX5_readStatement_108 : decode cX5_readStatement 108 = .ok (.ireturn, 1) := by decide +kernel
theorem dX5_readBreak_0 : decode cX5_readBreak 0 = .ok (.aload_n 1, 1) := by decide +kernel
theorem dX5_readBreak_1 : decode cX5_readBreak 1 = .ok (.getfield 96, 3) := by decide +kernel
theorem dX5_readBreak_4 : decode cX5_readBreak 4 = .ok (.bipush 20, 2) := by decide +kernel
theorem dX5_readBreak_6 : decode cX5_readBreak 6 = .ok (.if_icmp .lt 10, 3) := by decide +kernel
theorem dX5_readBreak_9 : decode cX5_readBreak 9 = .ok (.aload_n 0, 1) := by decide +kernel
theorem dX5_readBreak_10 : decode cX5_readBreak 10 = .ok (.bipush (-4), 2) := by decide +kernel
theorem dX5_readBreak_12 : decode cX5_readBreak 12 = .ok (.invokevirtual 78, 3) := by decide +kernel
theorem dX5_readBreak_15 : decode cX5_readBreak 15 = .ok (.ireturn, 1) := by decide +kernel
theorem dX5_readBreak_16 : decode cX5_readBreak 16 = .ok (.aload_n 0, 1) := by decide +kernel
theorem dX5_readBreak_17 : decode cX5_readBreak 17 = .ok (.getfield 12, 3) := by decide +kernel
theorem dX5_readBreak_20 : decode cX5_readBreak 20 = .ok (.invokevirtual 82, 3) := by decide +kernel
theorem dX5_readBreak_23 : decode cX5_readBreak 23 = .ok (.aload_n 0, 1) := by decide +kernel
theorem dX5_readBreak_24 : decode cX5_readBreak 24 = .ok (.iconst 0, 1) := by decide +kernel
theorem dX5_readBreak_25 : decode cX5_readBreak 25 = .ok (.bipush 6, 2) := by decide +kernel
theorem dX5_readBreak_27 : decode cX5_readBreak 27 = .ok (.invokevirtual 99, 3) := by decide +kernel
theorem dX5_readBreak_30 : decode cX5_readBreak 30 = .ok (.ifCond .ne 5, 3) := by decide +kernel
theorem dX5_readBreak_33 : decode cX5_readBreak 33 = .ok (.iconst 0, 1) := by decide +kernel
theorem dX5_readBreak_34 : decode cX5_readBreak 34 = .ok (.ireturn, 1) := by decide +kernel
theorem dX5_readBreak_35 : decode cX5_readBreak 35 = .ok (.aload_n 0, 1) := by decide +kernel
theorem dX5_readBreak_36 : decode cX5_readBreak 36 = .ok (.getfield 103, 3) := by decide +kernel
theorem dX5_readBreak_39 : decode cX5_readBreak 39 = .ok (.istore_n 2, 1) := by decide +kernel
theorem dX5_readBreak_40 : decode cX5_readBreak 40 = .ok (.aload_n 0, 1) := by decide +kernel
theorem dX5_readBreak_41 : decode cX5_readBreak 41 = .ok (.getfield 12, 3) := by decide +kernel
theorem dX5_readBreak_44 : decode cX5_readBreak 44 = .ok (.getfield 51, 3) := by decide +kernel
theorem dX5_readBreak_47 : decode cX5_readBreak 47 = .ok (.iconst 2, 1) := by decide +kernel
theorem dX5_readBreak_48 : decode cX5_readBreak 48 = .ok (.if_icmp .ne 25, 3) := by decide +kernel
theorem dX5_readBreak_51 : decode cX5_readBreak 51 = .ok (.aload_n 1, 1) := by decide +kernel
theorem dX5_readBreak_52 : decode cX5_readBreak 52 = .ok (.iload_n 2, 1) := by decide +kernel
theorem dX5_readBreak_53 : decode cX5_readBreak 53 = .ok (.aload_n 0, 1) := by decide +kernel
theorem dX5_readBreak_54 : decode cX5_readBreak 54 = .ok (.getfield 12, 3) := by decide +kernel
theorem dX5_readBreak_57 : decode cX5_readBreak 57 = .ok (.getfield 106, 3) := by decide +kernel
theorem dX5_readBreak_60 : decode cX5_readBreak 60 = .ok (.invokevirtual 109, 3) := by decide +kernel
theorem dX5_readBreak_63 : decode cX5_readBreak 63 = .ok (.ifCond .eq 10, 3) := by decide +kernel
theorem dX5_readBreak_66 : decode cX5_readBreak 66 = .ok (.aload_n 0, 1) := by decide +kernel
theorem dX5_readBreak_67 : decode cX5_readBreak 67 = .ok (.bipush (-3), 2) := by decide +kernel
theorem dX5_readBreak_69 : decode cX5_readBreak 69 = .ok (.invokevirtual 78, 3) := by decide +kernel
theorem dX5_readBreak_72 : decode cX5_readBreak 72 = .ok (.ireturn, 1) := by decide +kernel
theorem dX5_readBreak_73 : decode cX5_readBreak 73 = .ok (.aload_n 0, 1) := by decide +kernel
theorem dX5_readBreak_74 : decode cX5_readBreak 74 = .ok (.iconst 0, 1) := by decide +kernel
theorem dX5_readBreak_75 : decode cX5_readBreak 75 = .ok (.bipush 23, 2) := by decide +kernel
theorem dX5_readBreak_77 : decode cX5_readBreak 77 = .ok (.invokevirtual 99, 3) := by decide +kernel
theorem dX5_readBreak_80 : decode cX5_readBreak 80 = .ok (.ifCond .ne 5, 3) := by decide +kernel
theorem dX5_readBreak_83 : decode cX5_readBreak 83 = .ok (.iconst 0, 1) := by decide +kernel
theorem dX5_readBreak_84 : decode cX5_readBreak 84 = .ok (.ireturn, 1) := by decide +kernel
theorem dX5_readBreak_85 : decode cX5_readBreak 85 = .ok (.aload_n 0, 1) := by decide +kernel
theorem dX5_readBreak_86 : decode cX5_readBreak 86 = .ok (.getfield 103, 3) := by decide +kernel
theorem dX5_readBreak_89 : decode cX5_readBreak 89 = .ok (.istore_n 3, 1) := by decide +kernel
theorem dX5_readBreak_90 : decode cX5_readBreak 90 = .ok (.aload_n 0, 1) := by decide +kernel
theorem dX5_readBreak_91 : decode cX5_readBreak 91 = .ok (.bipush 10, 2) := by decide +kernel
theorem dX5_readBreak_93 : decode cX5_readBreak 93 = .ok (.sipush 300, 3) := by decide +kernel
theorem dX5_readBreak_96 : decode cX5_readBreak 96 = .ok (.invokevirtual 99, 3) := by decide +kernel
theorem dX5_readBreak_99 : decode cX5_readBreak 99 = .ok (.ifCond .ne 5, 3) := by decide +kernel
theorem dX5_readBreak_102 : decode cX5_readBreak 102 = .ok (.iconst 0, 1) := by decide +kernel
theorem dX5_readBreak_103 : decode cX5_readBreak 103 = .ok (.ireturn, 1) := by decide +kernel
theorem dX5_readBreak_104 : decode cX5_readBreak 104 = .ok (.aload_n 0, 1) := by decide +kernel
theorem dX5_readBreak_105 : decode cX5_readBreak 105 = .ok (.getfield 103, 3) := by decide +kernel
theorem dX5_readBreak_108 : decode cX5_readBreak 108 = .ok (.istore 4, 2) := by decide +kernel
theorem dX5_readBreak_110 : decode cX5_readBreak 110 = .ok (.aload_n 0, 1) := by decide +kernel
theorem dX5_readBreak_111 : decode cX5_readBreak 111 = .ok (.iconst 0, 1) := by decide +kernel
theorem dX5_readBreak_112 : decode cX5_readBreak 112 = .ok (.sipush 999, 3) := by decide +kernel
theorem dX5_readBreak_115 : decode cX5_readBreak 115 = .ok (.invokevirtual 99, 3) := by decide +kernel
theorem dX5_readBreak_118 : decode cX5_readBreak 118 = .ok (.ifCond .ne 5, 3) := by decide +kernel
theorem dX5_readBreak_121 : decode cX5_readBreak 121 = .ok (.iconst 0, 1) := by decide +kernel
theorem dX5_readBreak_122 : decode cX5_readBreak 122 = .ok (.ireturn, 1) := by decide +kernel
theorem dX5_readBreak_123 : decode cX5_readBreak 123 = .ok (.aload_n 1, 1) := by decide +kernel
theorem dX5_readBreak_124 : decode cX5_readBreak 124 = .ok (.iload_n 2, 1) := by decide +kernel
theorem dX5_readBreak_125 : decode cX5_readBreak 125 = .ok (.iload_n 3, 1) := by decide +kernel
theorem dX5_readBreak_126 : decode cX5_readBreak 126 = .ok (.iload 4, 2) := by decide +kernel
theorem dX5_readBreak_128 : decode cX5_readBreak 128 = .ok (.aload_n 0, 1) := by decide +kernel
theorem dX5_readBreak_129 : decode cX5_readBreak 129 = .ok (.getfield 103, 3) := by decide +kernel
theorem dX5_readBreak_132 : decode cX5_readBreak 132 = .ok (.invokevirtual 112, 3) := by decide +kernel
theorem dX5_readBreak_135 : decode cX5_readBreak 135 = .ok (.iconst 1, 1) := by decide +kernel
theorem dX5_readBreak_136 : decode cX5_readBreak 136 = .ok (.ireturn, 1) := by decide +kernel
theorem dX5_readSponsor_0 : decode cX5_readSponsor 0 = .ok (.aload_n 1, 1) := by decide +kernel
theorem dX5_readSponsor_1 : decode cX5_readSponsor 1 = .ok (.getfield 116, 3) := by decide +kernel
theorem dX5_readSponsor_4 : decode cX5_readSponsor 4 = .ok (.bipush 8, 2) := by decide +kernel
theorem dX5_readSponsor_6 : decode cX5_readSponsor 6 = .ok (.if_icmp .lt 10, 3) := by decide +kernel
theorem dX5_readSponsor_9 : decode cX5_readSponsor 9 = .ok (.aload_n 0, 1) := by decide +kernel
theorem dX5_readSponsor_10 : decode cX5_readSponsor 10 = .ok (.bipush (-4), 2) := by decide +kernel
theorem dX5_readSponsor_12 : decode cX5_readSponsor 12 = .ok (.invokevirtual 78, 3) := by decide +kernel
theorem dX5_readSponsor_15 : decode cX5_readSponsor 15 = .ok (.ireturn, 1) := by decide +kernel
theorem dX5_readSponsor_16 : decode cX5_readSponsor 16 = .ok (.aload_n 0, 1) := by decide +kernel
theorem dX5_readSponsor_17 : decode cX5_readSponsor 17 = .ok (.getfield 12, 3) := by decide +kernel
theorem dX5_readSponsor_20 : decode cX5_readSponsor 20 = .ok (.invokevirtual 82, 3) := by decide +kernel
theorem dX5_readSponsor_23 : decode cX5_readSponsor 23 = .ok (.aload_n 0, 1) := by decide +kernel
theorem dX5_readSponsor_24 : decode cX5_readSponsor 24 = .ok (.iconst 0, 1) := by decide +kernel
theorem dX5_readSponsor_25 : decode cX5_readSponsor 25 = .ok (.bipush 9, 2) := by decide +kernel
theorem dX5_readSponsor_27 : decode cX5_readSponsor 27 = .ok (.invokevirtual 99, 3) := by decide +kernel
theorem dX5_readSponsor_30 : decode cX5_readSponsor 30 = .ok (.ifCond .ne 5, 3) := by decide +kernel
theorem dX5_readSponsor_33 : decode cX5_readSponsor 33 = .ok (.iconst 0, 1) := by decide +kernel
theorem dX5_readSponsor_34 : decode cX5_readSponsor 34 = .ok (.ireturn, 1) := by decide +kernel
theorem dX5_readSponsor_35 : decode cX5_readSponsor 35 = .ok (.aload_n 0, 1) := by decide +kernel
theorem dX5_readSponsor_36 : decode cX5_readSponsor 36 = .ok (.getfield 103, 3) := by decide +kernel
theorem dX5_readSponsor_39 : decode cX5_readSponsor 39 = .ok (.istore_n 2, 1) := by decide +kernel
theorem dX5_readSponsor_40 : decode cX5_readSponsor 40 = .ok (.aload_n 0, 1) := by decide +kernel
theorem dX5_readSponsor_41 : decode cX5_readSponsor 41 = .ok (.iconst 1, 1) := by decide +kernel
theorem dX5_readSponsor_42 : decode cX5_readSponsor 42 = .ok (.bipush 9, 2) := by decide +kernel
theorem dX5_readSponsor_44 : decode cX5_readSponsor 44 = .ok (.invokevirtual 99, 3) := by decide +kernel
theorem dX5_readSponsor_47 : decode cX5_readSponsor 47 = .ok (.ifCond .ne 5, 3) := by decide +kernel
theorem dX5_readSponsor_50 : decode cX5_readSponsor 50 = .ok (.iconst 0, 1) := by decide +kernel
theorem dX5_readSponsor_51 : decode cX5_readSponsor 51 = .ok (.ireturn, 1) := by decide +kernel
theorem dX5_readSponsor_52 : decode cX5_readSponsor 52 = .ok (.aload_n 1, 1) := by decide +kernel
theorem dX5_readSponsor_53 : decode cX5_readSponsor 53 = .ok (.iload_n 2, 1) := by decide +kernel
theorem dX5_readSponsor_54 : decode cX5_readSponsor 54 = .ok (.aload_n 0, 1) := by decide +kernel
theorem dX5_readSponsor_55 : decode cX5_readSponsor 55 = .ok (.getfield 103, 3) := by decide +kernel
theorem dX5_readSponsor_58 : decode cX5_readSponsor 58 = .ok (.invokevirtual 119, 3) := by decide +kernel
theorem dX5_readSponsor_61 : decode cX5_readSponsor 61 = .ok (.iconst 1, 1) := by decide +kernel
theorem dX5_readSponsor_62 : decode cX5_readSponsor 62 = .ok (.ireturn, 1) := by decide +kernel
theorem dX5_readBan_0 : decode cX5_readBan 0 = .ok (.aload_n 0, 1) := by decide +kernel
theorem dX5_readBan_1 : decode cX5_readBan 1 = .ok (.getfield 30, 3) := by decide +kernel
theorem dX5_readBan_4 : decode cX5_readBan 4 = .ok (.bipush 10, 2) := by decide +kernel
theorem dX5_readBan_6 : decode cX5_readBan 6 = .ok (.if_icmp .lt 10, 3) := by decide +kernel
theorem dX5_readBan_9 : decode cX5_readBan 9 = .ok (.aload_n 0, 1) := by decide +kernel
theorem dX5_readBan_10 : decode cX5_readBan 10 = .ok (.bipush (-4), 2) := by decide +kernel
theorem dX5_readBan_12 : decode cX5_readBan 12 = .ok (.invokevirtual 78, 3) := by decide +kernel
theorem dX5_readBan_15 : decode cX5_readBan 15 = .ok (.ireturn, 1) := by decide +kernel
theorem dX5_readBan_16 : decode cX5_readBan 16 = .ok (.aload_n 0, 1) := by decide +kernel
theorem dX5_readBan_17 : decode cX5_readBan 17 = .ok (.getfield 12, 3) := by decide +kernel
theorem dX5_readBan_20 : decode cX5_readBan 20 = .ok (.invokevirtual 82, 3) := by decide +kernel
theorem dX5_readBan_23 : decode cX5_readBan 23 = .ok (.aload_n 0, 1) := by decide +kernel
theorem dX5_readBan_24 : decode cX5_readBan 24 = .ok (.iconst 0, 1) := by decide +kernel
theorem dX5_readBan_25 : decode cX5_readBan 25 = .ok (.bipush 9, 2) := by decide +kernel
theorem dX5_readBan_27 : decode cX5_readBan 27 = .ok (.invokevirtual 99, 3) := by decide +kernel
theorem dX5_readBan_30 : decode cX5_readBan 30 = .ok (.ifCond .ne 5, 3) := by decide +kernel
theorem dX5_readBan_33 : decode cX5_readBan 33 = .ok (.iconst 0, 1) := by decide +kernel
theorem dX5_readBan_34 : decode cX5_readBan 34 = .ok (.ireturn, 1) := by decide +kernel
theorem dX5_readBan_35 : decode cX5_readBan 35 = .ok (.aload_n 0, 1) := by decide +kernel
theorem dX5_readBan_36 : decode cX5_readBan 36 = .ok (.getfield 103, 3) := by decide +kernel
theorem dX5_readBan_39 : decode cX5_readBan 39 = .ok (.istore_n 2, 1) := by decide +kernel
theorem dX5_readBan_40 : decode cX5_readBan 40 = .ok (.aload_n 0, 1) := by decide +kernel
theorem dX5_readBan_41 : decode cX5_readBan 41 = .ok (.iconst 0, 1) := by decide +kernel
theorem dX5_readBan_42 : decode cX5_readBan 42 = .ok (.bipush 9, 2) := by decide +kernel
theorem dX5_readBan_44 : decode cX5_readBan 44 = .ok (.invokevirtual 99, 3) := by decide +kernel
theorem dX5_readBan_47 : decode cX5_readBan 47 = .ok (.ifCond .ne 5, 3) := by decide +kernel
theorem dX5_readBan_50 : decode cX5_readBan 50 = .ok (.iconst 0, 1) := by decide +kernel
theorem dX5_readBan_51 : decode cX5_readBan 51 = .ok (.ireturn, 1) := by decide +kernel
theorem dX5_readBan_52 : decode cX5_readBan 52 = .ok (.aload_n 1, 1) := by decide +kernel
theorem dX5_readBan_53 : decode cX5_readBan 53 = .ok (.iload_n 2, 1) := by decide +kernel
theorem dX5_readBan_54 : decode cX5_readBan 54 = .ok (.aload_n 0, 1) := by decide +kernel
theorem dX5_readBan_55 : decode cX5_readBan 55 = .ok (.getfield 103, 3) := by decide +kernel
theorem dX5_readBan_58 : decode cX5_readBan 58 = .ok (.invokevirtual 123, 3) := by decide +kernel
theorem dX5_readBan_61 : decode cX5_readBan 61 = .ok (.aload_n 0, 1) := by decide +kernel
theorem dX5_readBan_62 : decode cX5_readBan 62 = .ok (.dup, 1) := by decide +kernel
theorem dX5_readBan_63 : decode cX5_readBan 63 = .ok (.getfield 30, 3) := by decide +kernel
theorem dX5_readBan_66 : decode cX5_readBan 66 = .ok (.iconst 1, 1) := by decide +kernel
theorem dX5_readBan_67 : decode cX5_readBan 67 = .ok (.iadd, 1) := by decide +kernel
theorem dX5_readBan_68 : decode cX5_readBan 68 = .ok (.putfield 30, 3) := by decide +kernel
theorem dX5_readBan_71 : decode cX5_readBan 71 = .ok (.iconst 1, 1) := by decide +kernel
theorem dX5_readBan_72 : decode cX5_readBan 72 = .ok (.ireturn, 1) := by decide +kernel
theorem dX5_readSum_0 : decode cX5_readSum 0 = .ok (.aload_n 0, 1) := by decide +kernel
theorem dX5_readSum_1 : decode cX5_readSum 1 = .ok (.aload_n 1, 1) := by decide +kernel
theorem dX5_readSum_2 : decode cX5_readSum 2 = .ok (.iload_n 2, 1) := by decide +kernel
theorem dX5_readSum_3 : decode cX5_readSum 3 = .ok (.invokevirtual 126, 3) := by decide +kernel
theorem dX5_readSum_6 : decode cX5_readSum 6 = .ok (.ifCond .ne 5, 3) := by decide +kernel
theorem dX5_readSum_9 : decode cX5_readSum 9 = .ok (.iconst 0, 1) := by decide +kernel
theorem dX5_readSum_10 : decode cX5_readSum 10 = .ok (.ireturn, 1) := by decide +kernel
theorem dX5_readSum_11 : decode cX5_readSum 11 = .ok (.iconst 0, 1) := by decide +kernel
theorem dX5_readSum_12 : decode cX5_readSum 12 = .ok (.istore_n 3, 1) := by decide +kernel
theorem dX5_readSum_13 : decode cX5_readSum 13 = .ok (.iload_n 3, 1) := by decide +kernel
theorem dX5_readSum_14 : decode cX5_readSum 14 = .ok (.sipush 800, 3) := by decide +kernel
theorem dX5_readSum_17 : decode cX5_readSum 17 = .ok (.if_icmp .ge 75, 3) := by decide +kernel
theorem dX5_readSum_20 : decode cX5_readSum 20 = .ok (.aload_n 0, 1) := by decide +kernel
theorem dX5_readSum_21 : decode cX5_readSum 21 = .ok (.getfield 12, 3) := by decide +kernel
theorem dX5_readSum_24 : decode cX5_readSum 24 = .ok (.bipush 43, 2) := by decide +kernel
theorem dX5_readSum_26 : decode cX5_readSum 26 = .ok (.invokevirtual 129, 3) := by decide +kernel
theorem dX5_readSum_29 : decode cX5_readSum 29 = .ok (.ifCond .eq 8, 3) := by decide +kernel
theorem dX5_readSum_32 : decode cX5_readSum 32 = .ok (.bipush (-6), 2) := by decide +kernel
theorem dX5_readSum_34 : decode cX5_readSum 34 = .ok (.goto 5, 3) := by decide +kernel
theorem dX5_readSum_37 : decode cX5_readSum 37 = .ok (.bipush (-7), 2) := by decide +kernel
theorem dX5_readSum_39 : decode cX5_readSum 39 = .ok (.istore 4, 2) := by decide +kernel
theorem dX5_readSum_41 : decode cX5_readSum 41 = .ok (.iload 4, 2) := by decide +kernel
theorem dX5_readSum_43 : decode cX5_readSum 43 = .ok (.bipush (-7), 2) := by decide +kernel
theorem dX5_readSum_45 : decode cX5_readSum 45 = .ok (.if_icmp .ne 17, 3) := by decide +kernel
theorem dX5_readSum_48 : decode cX5_readSum 48 = .ok (.aload_n 0, 1) := by decide +kernel
theorem dX5_readSum_49 : decode cX5_readSum 49 = .ok (.getfield 12, 3) := by decide +kernel
theorem dX5_readSum_52 : decode cX5_readSum 52 = .ok (.bipush 45, 2) := by decide +kernel
theorem dX5_readSum_54 : decode cX5_readSum 54 = .ok (.invokevirtual 129, 3) := by decide +kernel
theorem dX5_readSum_57 : decode cX5_readSum 57 = .ok (.ifCond .ne 5, 3) := by decide +kernel
theorem dX5_readSum_60 : decode cX5_readSum 60 = .ok (.iconst 1, 1) := by decide +kernel
theorem dX5_readSum_61 : decode cX5_readSum 61 = .ok (.ireturn, 1) := by decide +kernel
theorem dX5_readSum_62 : decode cX5_readSum 62 = .ok (.aload_n 0, 1) := by decide +kernel
theorem dX5_readSum_63 : decode cX5_readSum 63 = .ok (.getfield 12, 3) := by decide +kernel
theorem dX5_readSum_66 : decode cX5_readSum 66 = .ok (.invokevirtual 82, 3) := by decide +kernel
theorem dX5_readSum_69 : decode cX5_readSum 69 = .ok (.aload_n 0, 1) := by decide +kernel
theorem dX5_readSum_70 : decode cX5_readSum 70 = .ok (.aload_n 1, 1) := by decide +kernel
theorem dX5_readSum_71 : decode cX5_readSum 71 = .ok (.iload_n 2, 1) := by decide +kernel
theorem dX5_readSum_72 : decode cX5_readSum 72 = .ok (.invokevirtual 126, 3) := by decide +kernel
theorem dX5_readSum_75 : decode cX5_readSum 75 = .ok (.ifCond .ne 5, 3) := by decide +kernel
theorem dX5_readSum_78 : decode cX5_readSum 78 = .ok (.iconst 0, 1) := by decide +kernel
theorem dX5_readSum_79 : decode cX5_readSum 79 = .ok (.ireturn, 1) := by decide +kernel
theorem dX5_readSum_80 : decode cX5_readSum 80 = .ok (.aload_n 1, 1) := by decide +kernel
theorem dX5_readSum_81 : decode cX5_readSum 81 = .ok (.iload 4, 2) := by decide +kernel
theorem dX5_readSum_83 : decode cX5_readSum 83 = .ok (.invokevirtual 132, 3) := by decide +kernel
theorem dX5_readSum_86 : decode cX5_readSum 86 = .ok (.iinc 3 1, 3) := by decide +kernel
theorem dX5_readSum_89 : decode cX5_readSum 89 = .ok (.goto (-76), 3) := by decide +kernel
theorem dX5_readSum_92 : decode cX5_readSum 92 = .ok (.iconst 1, 1) := by decide +kernel
theorem dX5_readSum_93 : decode cX5_readSum 93 = .ok (.ireturn, 1) := by decide +kernel
theorem dX5_readTerm_0 : decode cX5_readTerm 0 = .ok (.aload_n 0, 1) := by decide +kernel
theorem dX5_readTerm_1 : decode cX5_readTerm 1 = .ok (.aload_n 1, 1) := by decide +kernel
theorem dX5_readTerm_2 : decode cX5_readTerm 2 = .ok (.iload_n 2, 1) := by decide +kernel
theorem dX5_readTerm_3 : decode cX5_readTerm 3 = .ok (.invokevirtual 136, 3) := by decide +kernel
theorem dX5_readTerm_6 : decode cX5_readTerm 6 = .ok (.ifCond .ne 5, 3) := by decide +kernel
theorem dX5_readTerm_9 : decode cX5_readTerm 9 = .ok (.iconst 0, 1) := by decide +kernel
theorem dX5_readTerm_10 : decode cX5_readTerm 10 = .ok (.ireturn, 1) := by decide +kernel
theorem dX5_readTerm_11 : decode cX5_readTerm 11 = .ok (.iconst 0, 1) := by decide +kernel
theorem dX5_readTerm_12 : decode cX5_readTerm 12 = .ok (.istore_n 3, 1) := by decide +kernel
theorem dX5_readTerm_13 : decode cX5_readTerm 13 = .ok (.iload_n 3, 1) := by decide +kernel
theorem dX5_readTerm_14 : decode cX5_readTerm 14 = .ok (.sipush 800, 3) := by decide +kernel
theorem dX5_readTerm_17 : decode cX5_readTerm 17 = .ok (.if_icmp .ge 75, 3) := by decide +kernel
theorem dX5_readTerm_20 : decode cX5_readTerm 20 = .ok (.aload_n 0, 1) := by decide +kernel
theorem dX5_readTerm_21 : decode cX5_readTerm 21 = .ok (.getfield 12, 3) := by decide +kernel
theorem dX5_readTerm_24 : decode cX5_readTerm 24 = .ok (.bipush 42, 2) := by decide +kernel
theorem dX5_readTerm_26 : decode cX5_readTerm 26 = .ok (.invokevirtual 129, 3) := by decide +kernel
theorem dX5_readTerm_29 : decode cX5_readTerm 29 = .ok (.ifCond .eq 8, 3) := by decide +kernel
theorem dX5_readTerm_32 : decode cX5_readTerm 32 = .ok (.bipush (-8), 2) := by decide +kernel
theorem dX5_readTerm_34 : decode cX5_readTerm 34 = .ok (.goto 5, 3) := by decide +kernel
theorem dX5_readTerm_37 : decode cX5_readTerm 37 = .ok (.bipush (-9), 2) := by decide +kernel
theorem dX5_readTerm_39 : decode cX5_readTerm 39 = .ok (.istore 4, 2) := by decide +kernel
theorem dX5_readTerm_41 : decode cX5_readTerm 41 = .ok (.iload 4, 2) := by decide +kernel
theorem dX5_readTerm_43 : decode cX5_readTerm 43 = .ok (.bipush (-9), 2) := by decide +kernel
theorem dX5_readTerm_45 : decode cX5_readTerm 45 = .ok (.if_icmp .ne 17, 3) := by decide +kernel
theorem dX5_readTerm_48 : decode cX5_readTerm 48 = .ok (.aload_n 0, 1) := by decide +kernel
theorem dX5_readTerm_49 : decode cX5_readTerm 49 = .ok (.getfield 12, 3) := by decide +kernel
theorem dX5_readTerm_52 : decode cX5_readTerm 52 = .ok (.bipush 47, 2) := by decide +kernel
theorem dX5_readTerm_54 : decode cX5_readTerm 54 = .ok (.invokevirtual 129, 3) := by decide +kernel
theorem dX5_readTerm_57 : decode cX5_readTerm 57 = .ok (.ifCond .ne 5, 3) := by decide +kernel
theorem dX5_readTerm_60 : decode cX5_readTerm 60 = .ok (.iconst 1, 1) := by decide +kernel
theorem dX5_readTerm_61 : decode cX5_readTerm 61 = .ok (.ireturn, 1) := by decide +kernel
theorem dX5_readTerm_62 : decode cX5_readTerm 62 = .ok (.aload_n 0, 1) := by decide +kernel
theorem dX5_readTerm_63 : decode cX5_readTerm 63 = .ok (.getfield 12, 3) := by decide +kernel
theorem dX5_readTerm_66 : decode cX5_readTerm 66 = .ok (.invokevirtual 82, 3) := by decide +kernel
theorem dX5_readTerm_69 : decode cX5_readTerm 69 = .ok (.aload_n 0, 1) := by decide +kernel
theorem dX5_readTerm_70 : decode cX5_readTerm 70 = .ok (.aload_n 1, 1) := by decide +kernel
theorem dX5_readTerm_71 : decode cX5_readTerm 71 = .ok (.iload_n 2, 1) := by decide +kernel
theorem dX5_readTerm_72 : decode cX5_readTerm 72 = .ok (.invokevirtual 136, 3) := by decide +kernel
theorem dX5_readTerm_75 : decode cX5_readTerm 75 = .ok (.ifCond .ne 5, 3) := by decide +kernel
theorem dX5_readTerm_78 : decode cX5_readTerm 78 = .ok (.iconst 0, 1) := by decide +kernel
theorem dX5_readTerm_79 : decode cX5_readTerm 79 = .ok (.ireturn, 1) := by decide +kernel
theorem dX5_readTerm_80 : decode cX5_readTerm 80 = .ok (.aload_n 1, 1) := by decide +kernel
theorem dX5_readTerm_81 : decode cX5_readTerm 81 = .ok (.iload 4, 2) := by decide +kernel
theorem dX5_readTerm_83 : decode cX5_readTerm 83 = .ok (.invokevirtual 132, 3) := by decide +kernel
theorem dX5_readTerm_86 : decode cX5_readTerm 86 = .ok (.iinc 3 1, 3) := by decide +kernel
theorem dX5_readTerm_89 : decode cX5_readTerm 89 = .ok (.goto (-76), 3) := by decide +kernel
theorem dX5_readTerm_92 : decode cX5_readTerm 92 = .ok (.iconst 1, 1) := by decide +kernel
theorem dX5_readTerm_93 : decode cX5_readTerm 93 = .ok (.ireturn, 1) := by decide +kernel
theorem dX5_readFactor_0 : decode cX5_readFactor 0 = .ok (.aload_n 0, 1) := by decide +kernel
theorem dX5_readFactor_1 : decode cX5_readFactor 1 = .ok (.getfield 12, 3) := by decide +kernel
theorem dX5_readFactor_4 : decode cX5_readFactor 4 = .ok (.bipush 40, 2) := by decide +kernel
theorem dX5_readFactor_6 : decode cX5_readFactor 6 = .ok (.invokevirtual 129, 3) := by decide +kernel
theorem dX5_readFactor_9 : decode cX5_readFactor 9 = .ok (.ifCond .eq 48, 3) := by decide +kernel
theorem dX5_readFactor_12 : decode cX5_readFactor 12 = .ok (.iload_n 2, 1) := by decide +kernel
theorem dX5_readFactor_13 : decode cX5_readFactor 13 = .ok (.iconst 4, 1) := by decide +kernel
theorem dX5_readFactor_14 : decode cX5_readFactor 14 = .ok (.if_icmp .lt 10, 3) := by decide +kernel
theorem dX5_readFactor_17 : decode cX5_readFactor 17 = .ok (.aload_n 0, 1) := by decide +kernel
theorem dX5_readFactor_18 : decode cX5_readFactor 18 = .ok (.bipush (-5), 2) := by decide +kernel
theorem dX5_readFactor_20 : decode cX5_readFactor 20 = .ok (.invokevirtual 78, 3) := by decide +kernel
theorem dX5_readFactor_23 : decode cX5_readFactor 23 = .ok (.ireturn, 1) := by decide +kernel
theorem dX5_readFactor_24 : decode cX5_readFactor 24 = .ok (.aload_n 0, 1) := by decide +kernel
theorem dX5_readFactor_25 : decode cX5_readFactor 25 = .ok (.getfield 12, 3) := by decide +kernel
theorem dX5_readFactor_28 : decode cX5_readFactor 28 = .ok (.invokevirtual 82, 3) := by decide +kernel
theorem dX5_readFactor_31 : decode cX5_readFactor 31 = .ok (.aload_n 0, 1) := by decide +kernel
theorem dX5_readFactor_32 : decode cX5_readFactor 32 = .ok (.aload_n 1, 1) := by decide +kernel
theorem dX5_readFactor_33 : decode cX5_readFactor 33 = .ok (.iload_n 2, 1) := by decide +kernel
theorem dX5_readFactor_34 : decode cX5_readFactor 34 = .ok (.iconst 1, 1) := by decide +kernel
theorem dX5_readFactor_35 : decode cX5_readFactor 35 = .ok (.iadd, 1) := by decide +kernel
theorem dX5_readFactor_36 : decode cX5_readFactor 36 = .ok (.invokevirtual 92, 3) := by decide +kernel
theorem dX5_readFactor_39 : decode cX5_readFactor 39 = .ok (.ifCond .eq 16, 3) := by decide +kernel
theorem dX5_readFactor_42 : decode cX5_readFactor 42 = .ok (.aload_n 0, 1) := by decide +kernel
theorem dX5_readFactor_43 : decode cX5_readFactor 43 = .ok (.bipush 41, 2) := by decide +kernel
theorem dX5_readFactor_45 : decode cX5_readFactor 45 = .ok (.invokevirtual 47, 3) := by decide +kernel
theorem dX5_readFactor_48 : decode cX5_readFactor 48 = .ok (.ifCond .eq 7, 3) := by decide +kernel
theorem dX5_readFactor_51 : decode cX5_readFactor 51 = .ok (.iconst 1, 1) := by decide +kernel
theorem dX5_readFactor_52 : decode cX5_readFactor 52 = .ok (.goto 4, 3) := by decide +kernel
theorem dX5_readFactor_55 : decode cX5_readFactor 55 = .ok (.iconst 0, 1) := by decide +kernel
theorem dX5_readFactor_56 : decode cX5_readFactor 56 = .ok (.ireturn, 1) := by decide +kernel
theorem dX5_readFactor_57 : decode cX5_readFactor 57 = .ok (.aload_n 0, 1) := by decide +kernel
theorem dX5_readFactor_58 : decode cX5_readFactor 58 = .ok (.getfield 12, 3) := by decide +kernel
theorem dX5_readFactor_61 : decode cX5_readFactor 61 = .ok (.getfield 51, 3) := by decide +kernel
theorem dX5_readFactor_64 : decode cX5_readFactor 64 = .ok (.iconst 2, 1) := by decide +kernel
theorem dX5_readFactor_65 : decode cX5_readFactor 65 = .ok (.if_icmp .ne 26, 3) := by decide +kernel
theorem dX5_readFactor_68 : decode cX5_readFactor 68 = .ok (.aload_n 0, 1) := by decide +kernel
theorem dX5_readFactor_69 : decode cX5_readFactor 69 = .ok (.iconst 0, 1) := by decide +kernel
theorem dX5_readFactor_70 : decode cX5_readFactor 70 = .ok (.sipush 9999, 3) := by decide +kernel
theorem dX5_readFactor_73 : decode cX5_readFactor 73 = .ok (.invokevirtual 99, 3) := by decide +kernel
theorem dX5_readFactor_76 : decode cX5_readFactor 76 = .ok (.ifCond .ne 5, 3) := by decide +kernel
theorem dX5_readFactor_79 : decode cX5_readFactor 79 = .ok (.iconst 0, 1) := by decide +kernel
theorem dX5_readFactor_80 : decode cX5_readFactor 80 = .ok (.ireturn, 1) := by decide +kernel
theorem dX5_readFactor_81 : decode cX5_readFactor 81 = .ok (.aload_n 1, 1) := by decide +kernel
theorem dX5_readFactor_82 : decode cX5_readFactor 82 = .ok (.aload_n 0, 1) := by decide +kernel
theorem dX5_readFactor_83 : decode cX5_readFactor 83 = .ok (.getfield 103, 3) := by decide +kernel
theorem dX5_readFactor_86 : decode cX5_readFactor 86 = .ok (.invokevirtual 132, 3) := by decide +kernel
theorem dX5_readFactor_89 : decode cX5_readFactor 89 = .ok (.iconst 1, 1) := by decide +kernel
theorem dX5_readFactor_90 : decode cX5_readFactor 90 = .ok (.ireturn, 1) := by decide +kernel
theorem dX5_readFactor_91 : decode cX5_readFactor 91 = .ok (.aload_n 0, 1) := by decide +kernel
theorem dX5_readFactor_92 : decode cX5_readFactor 92 = .ok (.invokevirtual 139, 3) := by decide +kernel
theorem dX5_readFactor_95 : decode cX5_readFactor 95 = .ok (.istore_n 3, 1) := by decide +kernel
theorem dX5_readFactor_96 : decode cX5_readFactor 96 = .ok (.iload_n 3, 1) := by decide +kernel
theorem dX5_readFactor_97 : decode cX5_readFactor 97 = .ok (.ifCond .ne 10, 3) := by decide +kernel
theorem dX5_readFactor_100 : decode cX5_readFactor 100 = .ok (.aload_n 0, 1) := by decide +kernel
theorem dX5_readFactor_101 : decode cX5_readFactor 101 = .ok (.bipush (-2), 2) := by decide +kernel
theorem dX5_readFactor_103 : decode cX5_readFactor 103 = .ok (.invokevirtual 78, 3) := by decide +kernel
theorem dX5_readFactor_106 : decode cX5_readFactor 106 = .ok (.ireturn, 1) := by decide +kernel
theorem dX5_readFactor_107 : decode cX5_readFactor 107 = .ok (.aload_n 0, 1) := by decide +kernel
theorem dX5_readFactor_108 : decode cX5_readFactor 108 = .ok (.getfield 12, 3) := by decide +kernel
theorem dX5_readFactor_111 : decode cX5_readFactor 111 = .ok (.invokevirtual 82, 3) := by decide +kernel
theorem dX5_readFactor_114 : decode cX5_readFactor 114 = .ok (.aload_n 1, 1) := by decide +kernel
theorem dX5_readFactor_115 : decode cX5_readFactor 115 = .ok (.iload_n 3, 1) := by decide +kernel
theorem dX5_readFactor_116 : decode cX5_readFactor 116 = .ok (.invokevirtual 132, 3) := by decide +kernel
theorem dX5_readFactor_119 : decode cX5_readFactor 119 = .ok (.iconst 1, 1) := by decide +kernel
theorem dX5_readFactor_120 : decode cX5_readFactor 120 = .ok (.ireturn, 1) := by decide +kernel
theorem dX5_codeOfWord_0 : decode cX5_codeOfWord 0 = .ok (.aload_n 0, 1) := by decide +kernel
theorem dX5_codeOfWord_1 : decode cX5_codeOfWord 1 = .ok (.getfield 12, 3) := by decide +kernel
theorem dX5_codeOfWord_4 : decode cX5_codeOfWord 4 = .ok (.ldc 143, 2) := by decide +kernel
theorem dX5_codeOfWord_6 : decode cX5_codeOfWord 6 = .ok (.invokevirtual 60, 3) := by decide +kernel
theorem dX5_codeOfWord_9 : decode cX5_codeOfWord 9 = .ok (.ifCond .eq 5, 3) := by decide +kernel
theorem dX5_codeOfWord_12 : decode cX5_codeOfWord 12 = .ok (.iconst (-1), 1) := by decide +kernel
theorem dX5_codeOfWord_13 : decode cX5_codeOfWord 13 = .ok (.ireturn, 1) := by decide +kernel
theorem dX5_codeOfWord_14 : decode cX5_codeOfWord 14 = .ok (.aload_n 0, 1) := by decide +kernel
theorem dX5_codeOfWord_15 : decode cX5_codeOfWord 15 = .ok (.getfield 12, 3) := by decide +kernel
theorem dX5_codeOfWord_18 : decode cX5_codeOfWord 18 = .ok (.ldc 145, 2) := by decide +kernel
theorem dX5_codeOfWord_20 : decode cX5_codeOfWord 20 = .ok (.invokevirtual 60, 3) := by decide +kernel
theorem dX5_codeOfWord_23 : decode cX5_codeOfWord 23 = .ok (.ifCond .eq 6, 3) := by decide +kernel
theorem dX5_codeOfWord_26 : decode cX5_codeOfWord 26 = .ok (.bipush (-2), 2) := by decide +kernel
theorem dX5_codeOfWord_28 : decode cX5_codeOfWord 28 = .ok (.ireturn, 1) := by decide +kernel
theorem dX5_codeOfWord_29 : decode cX5_codeOfWord 29 = .ok (.aload_n 0, 1) := by decide +kernel
theorem dX5_codeOfWord_30 : decode cX5_codeOfWord 30 = .ok (.getfield 12, 3) := by decide +kernel
theorem dX5_codeOfWord_33 : decode cX5_codeOfWord 33 = .ok (.ldc 147, 2) := by decide +kernel
theorem dX5_codeOfWord_35 : decode cX5_codeOfWord 35 = .ok (.invokevirtual 60, 3) := by decide +kernel
theorem dX5_codeOfWord_38 : decode cX5_codeOfWord 38 = .ok (.ifCond .eq 6, 3) := by decide +kernel
theorem dX5_codeOfWord_41 : decode cX5_codeOfWord 41 = .ok (.bipush (-3), 2) := by decide +kernel
theorem dX5_codeOfWord_43 : decode cX5_codeOfWord 43 = .ok (.ireturn, 1) := by decide +kernel
theorem dX5_codeOfWord_44 : decode cX5_codeOfWord 44 = .ok (.aload_n 0, 1) := by decide +kernel
theorem dX5_codeOfWord_45 : decode cX5_codeOfWord 45 = .ok (.getfield 12, 3) := by decide +kernel
theorem dX5_codeOfWord_48 : decode cX5_codeOfWord 48 = .ok (.ldc 149, 2) := by decide +kernel
theorem dX5_codeOfWord_50 : decode cX5_codeOfWord 50 = .ok (.invokevirtual 60, 3) := by decide +kernel
theorem dX5_codeOfWord_53 : decode cX5_codeOfWord 53 = .ok (.ifCond .eq 6, 3) := by decide +kernel
theorem dX5_codeOfWord_56 : decode cX5_codeOfWord 56 = .ok (.bipush (-4), 2) := by decide +kernel
theorem dX5_codeOfWord_58 : decode cX5_codeOfWord 58 = .ok (.ireturn, 1) := by decide +kernel
theorem dX5_codeOfWord_59 : decode cX5_codeOfWord 59 = .ok (.aload_n 0, 1) := by decide +kernel
theorem dX5_codeOfWord_60 : decode cX5_codeOfWord 60 = .ok (.getfield 12, 3) := by decide +kernel
theorem dX5_codeOfWord_63 : decode cX5_codeOfWord 63 = .ok (.ldc 151, 2) := by decide +kernel
theorem dX5_codeOfWord_65 : decode cX5_codeOfWord 65 = .ok (.invokevirtual 60, 3) := by decide +kernel
theorem dX5_codeOfWord_68 : decode cX5_codeOfWord 68 = .ok (.ifCond .eq 8, 3) := by decide +kernel
theorem dX5_codeOfWord_71 : decode cX5_codeOfWord 71 = .ok (.bipush (-5), 2) := by decide +kernel
theorem dX5_codeOfWord_73 : decode cX5_codeOfWord 73 = .ok (.goto 4, 3) := by decide +kernel
theorem dX5_codeOfWord_76 : decode cX5_codeOfWord 76 = .ok (.iconst 0, 1) := by decide +kernel
theorem dX5_codeOfWord_77 : decode cX5_codeOfWord 77 = .ok (.ireturn, 1) := by decide +kernel
theorem dX5_takeWord_0 : decode cX5_takeWord 0 = .ok (.aload_n 0, 1) := by decide +kernel
theorem dX5_takeWord_1 : decode cX5_takeWord 1 = .ok (.getfield 12, 3) := by decide +kernel
theorem dX5_takeWord_4 : decode cX5_takeWord 4 = .ok (.aload_n 1, 1) := by decide +kernel
theorem dX5_takeWord_5 : decode cX5_takeWord 5 = .ok (.invokevirtual 60, 3) := by decide +kernel
theorem dX5_takeWord_8 : decode cX5_takeWord 8 = .ok (.ifCond .ne 10, 3) := by decide +kernel
theorem dX5_takeWord_11 : decode cX5_takeWord 11 = .ok (.aload_n 0, 1) := by decide +kernel
theorem dX5_takeWord_12 : decode cX5_takeWord 12 = .ok (.bipush (-2), 2) := by decide +kernel
theorem dX5_takeWord_14 : decode cX5_takeWord 14 = .ok (.invokevirtual 78, 3) := by decide +kernel
theorem dX5_takeWord_17 : decode cX5_takeWord 17 = .ok (.ireturn, 1) := by decide +kernel
theorem dX5_takeWord_18 : decode cX5_takeWord 18 = .ok (.aload_n 0, 1) := by decide +kernel
theorem dX5_takeWord_19 : decode cX5_takeWord 19 = .ok (.getfield 12, 3) := by decide +kernel
theorem dX5_takeWord_22 : decode cX5_takeWord 22 = .ok (.invokevirtual 82, 3) := by decide +kernel
theorem dX5_takeWord_25 : decode cX5_takeWord 25 = .ok (.iconst 1, 1) := by decide +kernel
theorem dX5_takeWord_26 : decode cX5_takeWord 26 = .ok (.ireturn, 1) := by decide +kernel
theorem dX5_takeSign_0 : decode cX5_takeSign 0 = .ok (.aload_n 0, 1) := by decide +kernel
theorem dX5_takeSign_1 : decode cX5_takeSign 1 = .ok (.getfield 12, 3) := by decide +kernel
theorem dX5_takeSign_4 : decode cX5_takeSign 4 = .ok (.iload_n 1, 1) := by decide +kernel
theorem dX5_takeSign_5 : decode cX5_takeSign 5 = .ok (.invokevirtual 129, 3) := by decide +kernel
theorem dX5_takeSign_8 : decode cX5_takeSign 8 = .ok (.ifCond .ne 10, 3) := by decide +kernel
theorem dX5_takeSign_11 : decode cX5_takeSign 11 = .ok (.aload_n 0, 1) := by decide +kernel
theorem dX5_takeSign_12 : decode cX5_takeSign 12 = .ok (.bipush (-2), 2) := by decide +kernel
theorem dX5_takeSign_14 : decode cX5_takeSign 14 = .ok (.invokevirtual 78, 3) := by decide +kernel
theorem dX5_takeSign_17 : decode cX5_takeSign 17 = .ok (.ireturn, 1) := by decide +kernel
theorem dX5_takeSign_18 : decode cX5_takeSign 18 = .ok (.aload_n 0, 1) := by decide +kernel
theorem dX5_takeSign_19 : decode cX5_takeSign 19 = .ok (.getfield 12, 3) := by decide +kernel
theorem dX5_takeSign_22 : decode cX5_takeSign 22 = .ok (.invokevirtual 82, 3) := by decide +kernel
theorem dX5_takeSign_25 : decode cX5_takeSign 25 = .ok (.iconst 1, 1) := by decide +kernel
theorem dX5_takeSign_26 : decode cX5_takeSign 26 = .ok (.ireturn, 1) := by decide +kernel
theorem dX5_takeNumber_0 : decode cX5_takeNumber 0 = .ok (.aload_n 0, 1) := by decide +kernel
theorem dX5_takeNumber_1 : decode cX5_takeNumber 1 = .ok (.getfield 12, 3) := by decide +kernel
theorem dX5_takeNumber_4 : decode cX5_takeNumber 4 = .ok (.getfield 51, 3) := by decide +kernel
theorem dX5_takeNumber_7 : decode cX5_takeNumber 7 = .ok (.iconst 2, 1) := by decide +kernel
theorem dX5_takeNumber_8 : decode cX5_takeNumber 8 = .ok (.if_icmp .eq 10, 3) := by decide +kernel
theorem dX5_takeNumber_11 : decode cX5_takeNumber 11 = .ok (.aload_n 0, 1) := by decide +kernel
theorem dX5_takeNumber_12 : decode cX5_takeNumber 12 = .ok (.bipush (-2), 2) := by decide +kernel
theorem dX5_takeNumber_14 : decode cX5_takeNumber 14 = .ok (.invokevirtual 78, 3) := by decide +kernel
theorem dX5_takeNumber_17 : decode cX5_takeNumber 17 = .ok (.ireturn, 1) := by decide +kernel
theorem dX5_takeNumber_18 : decode cX5_takeNumber 18 = .ok (.aload_n 0, 1) := by decide +kernel
theorem dX5_takeNumber_19 : decode cX5_takeNumber 19 = .ok (.getfield 12, 3) := by decide +kernel
theorem dX5_takeNumber_22 : decode cX5_takeNumber 22 = .ok (.getfield 106, 3) := by decide +kernel
theorem dX5_takeNumber_25 : decode cX5_takeNumber 25 = .ok (.iload_n 1, 1) := by decide +kernel
theorem dX5_takeNumber_26 : decode cX5_takeNumber 26 = .ok (.if_icmp .lt 14, 3) := by decide +kernel
theorem dX5_takeNumber_29 : decode cX5_takeNumber 29 = .ok (.aload_n 0, 1) := by decide +kernel
theorem dX5_takeNumber_30 : decode cX5_takeNumber 30 = .ok (.getfield 12, 3) := by decide +kernel
theorem dX5_takeNumber_33 : decode cX5_takeNumber 33 = .ok (.getfield 106, 3) := by decide +kernel
theorem dX5_takeNumber_36 : decode cX5_takeNumber 36 = .ok (.iload_n 2, 1) := by decide +kernel
theorem dX5_takeNumber_37 : decode cX5_takeNumber 37 = .ok (.if_icmp .le 10, 3) := by decide +kernel
theorem dX5_takeNumber_40 : decode cX5_takeNumber 40 = .ok (.aload_n 0, 1) := by decide +kernel
theorem dX5_takeNumber_41 : decode cX5_takeNumber 41 = .ok (.bipush (-3), 2) := by decide +kernel
theorem dX5_takeNumber_43 : decode cX5_takeNumber 43 = .ok (.invokevirtual 78, 3) := by decide +kernel
theorem dX5_takeNumber_46 : decode cX5_takeNumber 46 = .ok (.ireturn, 1) := by decide +kernel
theorem dX5_takeNumber_47 : decode cX5_takeNumber 47 = .ok (.aload_n 0, 1) := by decide +kernel
theorem dX5_takeNumber_48 : decode cX5_takeNumber 48 = .ok (.aload_n 0, 1) := by decide +kernel
theorem dX5_takeNumber_49 : decode cX5_takeNumber 49 = .ok (.getfield 12, 3) := by decide +kernel
theorem dX5_takeNumber_52 : decode cX5_takeNumber 52 = .ok (.getfield 106, 3) := by decide +kernel
theorem dX5_takeNumber_55 : decode cX5_takeNumber 55 = .ok (.putfield 103, 3) := by decide +kernel
theorem dX5_takeNumber_58 : decode cX5_takeNumber 58 = .ok (.aload_n 0, 1) := by decide +kernel
theorem dX5_takeNumber_59 : decode cX5_takeNumber 59 = .ok (.getfield 12, 3) := by decide +kernel
theorem dX5_takeNumber_62 : decode cX5_takeNumber 62 = .ok (.invokevirtual 82, 3) := by decide +kernel
theorem dX5_takeNumber_65 : decode cX5_takeNumber 65 = .ok (.iconst 1, 1) := by decide +kernel
theorem dX5_takeNumber_66 : decode cX5_takeNumber 66 = .ok (.ireturn, 1) := by decide +kernel
theorem dX5_fail_0 : decode cX5_fail 0 = .ok (.aload_n 0, 1) := by decide +kernel
theorem dX5_fail_1 : decode cX5_fail 1 = .ok (.iload_n 1, 1) := by decide +kernel
theorem dX5_fail_2 : decode cX5_fail 2 = .ok (.putfield 23, 3) := by decide +kernel
theorem dX5_fail_5 : decode cX5_fail 5 = .ok (.aload_n 0, 1) := by decide +kernel
theorem dX5_fail_6 : decode cX5_fail 6 = .ok (.aload_n 0, 1) := by decide +kernel
theorem dX5_fail_7 : decode cX5_fail 7 = .ok (.getfield 12, 3) := by decide +kernel
theorem dX5_fail_10 : decode cX5_fail 10 = .ok (.getfield 153, 3) := by decide +kernel
theorem dX5_fail_13 : decode cX5_fail 13 = .ok (.putfield 27, 3) := by decide +kernel
theorem dX5_fail_16 : decode cX5_fail 16 = .ok (.iconst 0, 1) := by decide +kernel
theorem dX5_fail_17 : decode cX5_fail 17 = .ok (.ireturn, 1) := by decide +kernel
theorem dX6_init_0 : decode cX6_init 0 = .ok (.aload_n 0, 1) := by decide +kernel
theorem dX6_init_1 : decode cX6_init 1 = .ok (.invokespecial 1, 3) := by decide +kernel
theorem dX6_init_4 : decode cX6_init 4 = .ok (.aload_n 0, 1) := by decide +kernel
theorem dX6_init_5 : decode cX6_init 5 = .ok (.iload_n 1, 1) := by decide +kernel
theorem dX6_init_6 : decode cX6_init 6 = .ok (.newarray .int, 2) := by decide +kernel
theorem dX6_init_8 : decode cX6_init 8 = .ok (.putfield 7, 3) := by decide +kernel
theorem dX6_init_11 : decode cX6_init 11 = .ok (.aload_n 0, 1) := by decide +kernel
theorem dX6_init_12 : decode cX6_init 12 = .ok (.iload_n 1, 1) := by decide +kernel
theorem dX6_init_13 : decode cX6_init 13 = .ok (.newarray .int, 2) := by decide +kernel
theorem dX6_init_15 : decode cX6_init 15 = .ok (.putfield 13, 3) := by decide +kernel
theorem dX6_init_18 : decode cX6_init 18 = .ok (.aload_n 0, 1) := by decide +kernel
theorem dX6_init_19 : decode cX6_init 19 = .ok (.iload_n 1, 1) := by decide +kernel
theorem dX6_init_20 : decode cX6_init 20 = .ok (.newarray .int, 2) := by decide +kernel
theorem dX6_init_22 : decode cX6_init 22 = .ok (.putfield 16, 3) := by decide +kernel
theorem dX6_init_25 : decode cX6_init 25 = .ok (.aload_n 0, 1) := by decide +kernel
theorem dX6_init_26 : decode cX6_init 26 = .ok (.iload_n 1, 1) := by decide +kernel
theorem dX6_init_27 : decode cX6_init 27 = .ok (.newarray .int, 2) := by decide +kernel
theorem dX6_init_29 : decode cX6_init 29 = .ok (.putfield 19, 3) := by decide +kernel
theorem dX6_init_32 : decode cX6_init 32 = .ok (.aload_n 0, 1) := by decide +kernel
theorem dX6_init_33 : decode cX6_init 33 = .ok (.iconst 0, 1) := by decide +kernel
theorem dX6_init_34 : decode cX6_init 34 = .ok (.putfield 22, 3) := by decide +kernel
theorem dX6_init_37 : decode cX6_init 37 = .ok (.return_, 1) := by decide +kernel
theorem dX6_copyFrom_0 : decode cX6_copyFrom 0 = .ok (.aload_n 0, 1) := by decide +kernel
theorem dX6_copyFrom_1 : decode cX6_copyFrom 1 = .ok (.aload_n 1, 1) := by decide +kernel
theorem dX6_copyFrom_2 : decode cX6_copyFrom 2 = .ok (.getfield 22, 3) := by decide +kernel
theorem dX6_copyFrom_5 : decode cX6_copyFrom 5 = .ok (.aload_n 0, 1) := by decide +kernel
theorem dX6_copyFrom_6 : decode cX6_copyFrom 6 = .ok (.getfield 7, 3) := by decide +kernel
theorem dX6_copyFrom_9 : decode cX6_copyFrom 9 = .ok (.arraylength, 1) := by decide +kernel
theorem dX6_copyFrom_10 : decode cX6_copyFrom 10 = .ok (.invokestatic 26, 3) := by decide +kernel
theorem dX6_copyFrom_13 : decode cX6_copyFrom 13 = .ok (.putfield 22, 3) := by decide +kernel
theorem dX6_copyFrom_16 : decode cX6_copyFrom 16 = .ok (.iconst 0, 1) := by decide +kernel
theorem dX6_copyFrom_17 : decode cX6_copyFrom 17 = .ok (.istore_n 2, 1) := by decide +kernel
theorem dX6_copyFrom_18 : decode cX6_copyFrom 18 = .ok (.iload_n 2, 1) := by decide +kernel
theorem dX6_copyFrom_19 : decode cX6_copyFrom 19 = .ok (.aload_n 0, 1) := by decide +kernel
theorem dX6_copyFrom_20 : decode cX6_copyFrom 20 = .ok (.getfield 22, 3) := by decide +kernel
theorem dX6_copyFrom_23 : decode cX6_copyFrom 23 = .ok (.if_icmp .ge 16, 3) := by decide +kernel
theorem dX6_copyFrom_26 : decode cX6_copyFrom 26 = .ok (.aload_n 0, 1) := by decide +kernel
theorem dX6_copyFrom_27 : decode cX6_copyFrom 27 = .ok (.aload_n 1, 1) := by decide +kernel
theorem dX6_copyFrom_28 : decode cX6_copyFrom 28 = .ok (.iload_n 2, 1) := by decide +kernel
theorem dX6_copyFrom_29 : decode cX6_copyFrom 29 = .ok (.iload_n 2, 1) := by decide +kernel
theorem dX6_copyFrom_30 : decode cX6_copyFrom 30 = .ok (.invokevirtual 32, 3) := by decide +kernel
theorem dX6_copyFrom_33 : decode cX6_copyFrom 33 = .ok (.iinc 2 1, 3) := by decide +kernel
theorem dX6_copyFrom_36 : decode cX6_copyFrom 36 = .ok (.goto (-18), 3) := by decide +kernel
theorem dX6_copyFrom_39 : decode cX6_copyFrom 39 = .ok (.return_, 1) := by decide +kernel
theorem dX6_copySpot_0 : decode cX6_copySpot 0 = .ok (.aload_n 0, 1) := by decide +kernel
theorem dX6_copySpot_1 : decode cX6_copySpot 1 = .ok (.getfield 7, 3) := by decide +kernel
theorem dX6_copySpot_4 : decode cX6_copySpot 4 = .ok (.iload_n 3, 1) := by decide +kernel
theorem dX6_copySpot_5 : decode cX6_copySpot 5 = .ok (.aload_n 1, 1) := by decide +kernel
theorem dX6_copySpot_6 : decode cX6_copySpot 6 = .ok (.getfield 7, 3) := by decide +kernel
theorem dX6_copySpot_9 : decode cX6_copySpot 9 = .ok (.iload_n 2, 1) := by decide +kernel
theorem dX6_copySpot_10 : decode cX6_copySpot 10 = .ok (.iaload, 1) := by decide +kernel
theorem dX6_copySpot_11 : decode cX6_copySpot 11 = .ok (.iastore, 1) := by decide +kernel
theorem dX6_copySpot_12 : decode cX6_copySpot 12 = .ok (.aload_n 0, 1) := by decide +kernel
theorem dX6_copySpot_13 : decode cX6_copySpot 13 = .ok (.getfield 13, 3) := by decide +kernel
theorem dX6_copySpot_16 : decode cX6_copySpot 16 = .ok (.iload_n 3, 1) := by decide +kernel
theorem dX6_copySpot_17 : decode cX6_copySpot 17 = .ok (.aload_n 1, 1) := by decide +kernel
theorem dX6_copySpot_18 : decode cX6_copySpot 18 = .ok (.getfield 13, 3) := by decide +kernel
theorem dX6_copySpot_21 : decode cX6_copySpot 21 = .ok (.iload_n 2, 1) := by decide +kernel
theorem dX6_copySpot_22 : decode cX6_copySpot 22 = .ok (.iaload, 1) := by decide +kernel
theorem dX6_copySpot_23 : decode cX6_copySpot 23 = .ok (.iastore, 1) := by decide +kernel
theorem dX6_copySpot_24 : decode cX6_copySpot 24 = .ok (.aload_n 0, 1) := by decide +kernel
theorem dX6_copySpot_25 : decode cX6_copySpot 25 = .ok (.getfield 16, 3) := by decide +kernel
theorem dX6_copySpot_28 : decode cX6_copySpot 28 = .ok (.iload_n 3, 1) := by decide +kernel
theorem dX6_copySpot_29 : decode cX6_copySpot 29 = .ok (.aload_n 1, 1) := by decide +kernel
theorem dX6_copySpot_30 : decode cX6_copySpot 30 = .ok (.getfield 16, 3) := by decide +kernel
theorem dX6_copySpot_33 : decode cX6_copySpot 33 = .ok (.iload_n 2, 1) := by decide +kernel
theorem dX6_copySpot_34 : decode cX6_copySpot 34 = .ok (.iaload, 1) := by decide +kernel
theorem dX6_copySpot_35 : decode cX6_copySpot 35 = .ok (.iastore, 1) := by decide +kernel
theorem dX6_copySpot_36 : decode cX6_copySpot 36 = .ok (.aload_n 0, 1) := by decide +kernel
theorem dX6_copySpot_37 : decode cX6_copySpot 37 = .ok (.getfield 19, 3) := by decide +kernel
theorem dX6_copySpot_40 : decode cX6_copySpot 40 = .ok (.iload_n 3, 1) := by decide +kernel
theorem dX6_copySpot_41 : decode cX6_copySpot 41 = .ok (.aload_n 1, 1) := by decide +kernel
theorem dX6_copySpot_42 : decode cX6_copySpot 42 = .ok (.getfield 19, 3) := by decide +kernel
theorem dX6_copySpot_45 : decode cX6_copySpot 45 = .ok (.iload_n 2, 1) := by decide +kernel
theorem dX6_copySpot_46 : decode cX6_copySpot 46 = .ok (.iaload, 1) := by decide +kernel
theorem dX6_copySpot_47 : decode cX6_copySpot 47 = .ok (.iastore, 1) := by decide +kernel
theorem dX6_copySpot_48 : decode cX6_copySpot 48 = .ok (.return_, 1) := by decide +kernel
theorem dX6_takeOver_0 : decode cX6_takeOver 0 = .ok (.iload_n 2, 1) := by decide +kernel
theorem dX6_takeOver_1 : decode cX6_takeOver 1 = .ok (.ifCond .lt 11, 3) := by decide +kernel
theorem dX6_takeOver_4 : decode cX6_takeOver 4 = .ok (.iload_n 2, 1) := by decide +kernel
theorem dX6_takeOver_5 : decode cX6_takeOver 5 = .ok (.aload_n 1, 1) := by decide +kernel
theorem dX6_takeOver_6 : decode cX6_takeOver 6 = .ok (.getfield 22, 3) := by decide +kernel
theorem dX6_takeOver_9 : decode cX6_takeOver 9 = .ok (.if_icmp .lt 4, 3) := by decide +kernel
theorem dX6_takeOver_12 : decode cX6_takeOver 12 = .ok (.return_, 1) := by decide +kernel
theorem dX6_takeOver_13 : decode cX6_takeOver 13 = .ok (.aload_n 0, 1) := by decide +kernel
theorem dX6_takeOver_14 : decode cX6_takeOver 14 = .ok (.iload_n 3, 1) := by decide +kernel
theorem dX6_takeOver_15 : decode cX6_takeOver 15 = .ok (.aload_n 1, 1) := by decide +kernel
theorem dX6_takeOver_16 : decode cX6_takeOver 16 = .ok (.getfield 7, 3) := by decide +kernel
theorem dX6_takeOver_19 : decode cX6_takeOver 19 = .ok (.iload_n 2, 1) := by decide +kernel
theorem dX6_takeOver_20 : decode cX6_takeOver 20 = .ok (.iaload, 1) := by decide +kernel
theorem dX6_takeOver_21 : decode cX6_takeOver 21 = .ok (.aload_n 1, 1) := by decide +kernel
theorem dX6_takeOver_22 : decode cX6_takeOver 22 = .ok (.getfield 13, 3) := by decide +kernel
theorem dX6_takeOver_25 : decode cX6_takeOver 25 = .ok (.iload_n 2, 1) := by decide +kernel
theorem dX6_takeOver_26 : decode cX6_takeOver 26 = .ok (.iaload, 1) := by decide +kernel
theorem dX6_takeOver_27 : decode cX6_takeOver 27 = .ok (.aload_n 1, 1) := by decide +kernel
theorem dX6_takeOver_28 : decode cX6_takeOver 28 = .ok (.getfield 16, 3) := by decide +kernel
theorem dX6_takeOver_31 : decode cX6_takeOver 31 = .ok (.iload_n 2, 1) := by decide +kernel
theorem dX6_takeOver_32 : decode cX6_takeOver 32 = .ok (.iaload, 1) := by decide +kernel
theorem dX6_takeOver_33 : decode cX6_takeOver 33 = .ok (.iload 4, 2) := by decide +kernel
theorem dX6_takeOver_35 : decode cX6_takeOver 35 = .ok (.invokevirtual 36, 3) := by decide +kernel
theorem dX6_takeOver_38 : decode cX6_takeOver 38 = .ok (.return_, 1) := by decide +kernel
theorem dX6_insert_0 : decode cX6_insert 0 = .ok (.iload_n 1, 1) := by decide +kernel
theorem dX6_insert_1 : decode cX6_insert 1 = .ok (.ifCond .lt 23, 3) := by decide +kernel
theorem dX6_insert_4 : decode cX6_insert 4 = .ok (.iload_n 1, 1) := by decide +kernel
theorem dX6_insert_5 : decode cX6_insert 5 = .ok (.aload_n 0, 1) := by decide +kernel
theorem dX6_insert_6 : decode cX6_insert 6 = .ok (.getfield 22, 3) := by decide +kernel
theorem dX6_insert_9 : decode cX6_insert 9 = .ok (.if_icmp .gt 15, 3) := by decide +kernel
theorem dX6_insert_12 : decode cX6_insert 12 = .ok (.aload_n 0, 1) := by decide +kernel
theorem dX6_insert_13 : decode cX6_insert 13 = .ok (.getfield 22, 3) := by decide +kernel
theorem dX6_insert_16 : decode cX6_insert 16 = .ok (.aload_n 0, 1) := by decide +kernel
theorem dX6_insert_17 : decode cX6_insert 17 = .ok (.getfield 7, 3) := by decide +kernel
theorem dX6_insert_20 : decode cX6_insert 20 = .ok (.arraylength, 1) := by decide +kernel
theorem dX6_insert_21 : decode cX6_insert 21 = .ok (.if_icmp .lt 4, 3) := by decide +kernel
theorem dX6_insert_24 : decode cX6_insert 24 = .ok (.return_, 1) := by decide +kernel
theorem dX6_insert_25 : decode cX6_insert 25 = .ok (.aload_n 0, 1) := by decide +kernel
theorem dX6_insert_26 : decode cX6_insert 26 = .ok (.dup, 1) := by decide +kernel
theorem dX6_insert_27 : decode cX6_insert 27 = .ok (.getfield 22, 3) := by decide +kernel
theorem dX6_insert_30 : decode cX6_insert 30 = .ok (.iconst 1, 1) := by decide +kernel
theorem dX6_insert_31 : decode cX6_insert 31 = .ok (.iadd, 1) := by decide +kernel
theorem dX6_insert_32 : decode cX6_insert 32 = .ok (.putfield 22, 3) := by decide +kernel
theorem dX6_insert_35 : decode cX6_insert 35 = .ok (.aload_n 0, 1) := by decide +kernel
theorem dX6_insert_36 : decode cX6_insert 36 = .ok (.getfield 22, 3) := by decide +kernel
theorem dX6_insert_39 : decode cX6_insert 39 = .ok (.iconst 1, 1) := by decide +kernel
theorem dX6_insert_40 : decode cX6_insert 40 = .ok (.isub, 1) := by decide +kernel
theorem dX6_insert_41 : decode cX6_insert 41 = .ok (.istore 6, 2) := by decide +kernel
theorem dX6_insert_43 : decode cX6_insert 43 = .ok (.iload 6, 2) := by decide +kernel
theorem dX6_insert_45 : decode cX6_insert 45 = .ok (.iload_n 1, 1) := by decide +kernel
theorem dX6_insert_46 : decode cX6_insert 46 = .ok (.if_icmp .le 20, 3) := by decide +kernel
theorem dX6_insert_49 : decode cX6_insert 49 = .ok (.aload_n 0, 1) := by decide +kernel
theorem dX6_insert_50 : decode cX6_insert 50 = .ok (.aload_n 0, 1) := by decide +kernel
theorem dX6_insert_51 : decode cX6_insert 51 = .ok (.iload 6, 2) := by decide +kernel
theorem dX6_insert_53 : decode cX6_insert 53 = .ok (.iconst 1, 1) := by decide +kernel
theorem dX6_insert_54 : decode cX6_insert 54 = .ok (.isub, 1) := by decide +kernel
theorem dX6_insert_55 : decode cX6_insert 55 = .ok (.iload 6, 2) := by decide +kernel
theorem dX6_insert_57 : decode cX6_insert 57 = .ok (.invokevirtual 32, 3) := by decide +kernel
theorem dX6_insert_60 : decode cX6_insert 60 = .ok (.iinc 6 (-1), 3) := by decide +kernel
theorem dX6_insert_63 : decode cX6_insert 63 = .ok (.goto (-20), 3) := by decide +kernel
theorem dX6_insert_66 : decode cX6_insert 66 = .ok (.aload_n 0, 1) := by decide +kernel
theorem dX6_insert_67 : decode cX6_insert 67 = .ok (.getfield 7, 3) := by decide +kernel
theorem dX6_insert_70 : decode cX6_insert 70 = .ok (.iload_n 1, 1) := by decide +kernel
theorem dX6_insert_71 : decode cX6_insert 71 = .ok (.iload_n 2, 1) := by decide +kernel
theorem dX6_insert_72 : decode cX6_insert 72 = .ok (.iastore, 1) := by decide +kernel
theorem dX6_insert_73 : decode cX6_insert 73 = .ok (.aload_n 0, 1) := by decide +kernel
theorem dX6_insert_74 : decode cX6_insert 74 = .ok (.getfield 13, 3) := by decide +kernel
theorem dX6_insert_77 : decode cX6_insert 77 = .ok (.iload_n 1, 1) := by decide +kernel
theorem dX6_insert_78 : decode cX6_insert 78 = .ok (.iload_n 3, 1) := by decide +kernel
theorem dX6_insert_79 : decode cX6_insert 79 = .ok (.iastore, 1) := by decide +kernel
theorem dX6_insert_80 : decode cX6_insert 80 = .ok (.aload_n 0, 1) := by decide +kernel
theorem dX6_insert_81 : decode cX6_insert 81 = .ok (.getfield 16, 3) := by decide +kernel
theorem dX6_insert_84 : decode cX6_insert 84 = .ok (.iload_n 1, 1) := by decide +kernel
theorem dX6_insert_85 : decode cX6_insert 85 = .ok (.iload 4, 2) := by decide +kernel
theorem dX6_insert_87 : decode cX6_insert 87 = .ok (.iastore, 1) := by decide +kernel
theorem dX6_insert_88 : decode cX6_insert 88 = .ok (.aload_n 0, 1) := by decide +kernel
theorem dX6_insert_89 : decode cX6_insert 89 = .ok (.getfield 19, 3) := by decide +kernel
theorem dX6_insert_92 : decode cX6_insert 92 = .ok (.iload_n 1, 1) := by decide +kernel
theorem dX6_insert_93 : decode cX6_insert 93 = .ok (.iload 5, 2) := by decide +kernel
theorem dX6_insert_95 : decode cX6_insert 95 = .ok (.iastore, 1) := by decide +kernel
theorem dX6_insert_96 : decode cX6_insert 96 = .ok (.return_, 1) := by decide +kernel
theorem dX6_delete_0 : decode cX6_delete 0 = .ok (.iload_n 1, 1) := by decide +kernel
theorem dX6_delete_1 : decode cX6_delete 1 = .ok (.ifCond .lt 11, 3) := by decide +kernel
theorem dX6_delete_4 : decode cX6_delete 4 = .ok (.iload_n 1, 1) := by decide +kernel
theorem dX6_delete_5 : decode cX6_delete 5 = .ok (.aload_n 0, 1) := by decide +kernel
theorem dX6_delete_6 : decode cX6_delete 6 = .ok (.getfield 22, 3) := by decide +kernel
theorem dX6_delete_9 : decode cX6_delete 9 = .ok (.if_icmp .lt 4, 3) := by decide +kernel
theorem dX6_delete_12 : decode cX6_delete 12 = .ok (.return_, 1) := by decide +kernel
theorem dX6_delete_13 : decode cX6_delete 13 = .ok (.iload_n 1, 1) := by decide +kernel
theorem dX6_delete_14 : decode cX6_delete 14 = .ok (.istore_n 2, 1) := by decide +kernel
theorem dX6_delete_15 : decode cX6_delete 15 = .ok (.iload_n 2, 1) := by decide +kernel
theorem dX6_delete_16 : decode cX6_delete 16 = .ok (.aload_n 0, 1) := by decide +kernel
theorem dX6_delete_17 : decode cX6_delete 17 = .ok (.getfield 22, 3) := by decide +kernel
theorem dX6_delete_20 : decode cX6_delete 20 = .ok (.iconst 1, 1) := by decide +kernel
theorem dX6_delete_21 : decode cX6_delete 21 = .ok (.isub, 1) := by decide +kernel
theorem dX6_delete_22 : decode cX6_delete 22 = .ok (.if_icmp .ge 18, 3) := by decide +kernel
theorem dX6_delete_25 : decode cX6_delete 25 = .ok (.aload_n 0, 1) := by decide +kernel
theorem dX6_delete_26 : decode cX6_delete 26 = .ok (.aload_n 0, 1) := by decide +kernel
theorem dX6_delete_27 : decode cX6_delete 27 = .ok (.iload_n 2, 1) := by decide +kernel
theorem dX6_delete_28 : decode cX6_delete 28 = .ok (.iconst 1, 1) := by decide +kernel
theorem dX6_delete_29 : decode cX6_delete 29 = .ok (.iadd, 1) := by decide +kernel
theorem dX6_delete_30 : decode cX6_delete 30 = .ok (.iload_n 2, 1) := by decide +kernel
theorem dX6_delete_31 : decode cX6_delete 31 = .ok (.invokevirtual 32, 3) := by decide +kernel
theorem dX6_delete_34 : decode cX6_delete 34 = .ok (.iinc 2 1, 3) := by decide +kernel
theorem dX6_delete_37 : decode cX6_delete 37 = .ok (.goto (-22), 3) := by decide +kernel
theorem dX6_delete_40 : decode cX6_delete 40 = .ok (.aload_n 0, 1) := by decide +kernel
theorem dX6_delete_41 : decode cX6_delete 41 = .ok (.dup, 1) := by decide +kernel
theorem dX6_delete_42 : decode cX6_delete 42 = .ok (.getfield 22, 3) := by decide +kernel
theorem dX6_delete_45 : decode cX6_delete 45 = .ok (.iconst 1, 1) := by decide +kernel
theorem dX6_delete_46 : decode cX6_delete 46 = .ok (.isub, 1) := by decide +kernel
theorem dX6_delete_47 : decode cX6_delete 47 = .ok (.putfield 22, 3) := by decide +kernel
theorem dX6_delete_50 : decode cX6_delete 50 = .ok (.return_, 1) := by decide +kernel
theorem dX6_moveForward_0 : decode cX6_moveForward 0 = .ok (.iload_n 2, 1) := by decide +kernel
theorem dX6_moveForward_1 : decode cX6_moveForward 1 = .ok (.ifCond .lt 16, 3) := by decide +kernel
theorem dX6_moveForward_4 : decode cX6_moveForward 4 = .ok (.iload_n 2, 1) := by decide +kernel
theorem dX6_moveForward_5 : decode cX6_moveForward 5 = .ok (.iload_n 1, 1) := by decide +kernel
theorem dX6_moveForward_6 : decode cX6_moveForward 6 = .ok (.if_icmp .gt 11, 3) := by decide +kernel
theorem dX6_moveForward_9 : decode cX6_moveForward 9 = .ok (.iload_n 1, 1) := by decide +kernel
theorem dX6_moveForward_10 : decode cX6_moveForward 10 = .ok (.aload_n 0, 1) := by decide +kernel
theorem dX6_moveForward_11 : decode cX6_moveForward 11 = .ok (.getfield 22, 3) := by decide +kernel
theorem dX6_moveForward_14 : decode cX6_moveForward 14 = .ok (.if_icmp .lt 4, 3) := by decide +kernel
theorem dX6_moveForward_17 : decode cX6_moveForward 17 = .ok (.return_, 1) := by decide +kernel
theorem dX6_moveForward_18 : decode cX6_moveForward 18 = .ok (.aload_n 0, 1) := by decide +kernel
theorem dX6_moveForward_19 : decode cX6_moveForward 19 = .ok (.getfield 7, 3) := by decide +kernel
theorem dX6_moveForward_22 : decode cX6_moveForward 22 = .ok (.iload_n 1, 1) := by decide +kernel
theorem dX6_moveForward_23 : decode cX6_moveForward 23 = .ok (.iaload, 1) := by decide +kernel
theorem dX6_moveForward_24 : decode cX6_moveForward 24 = .ok (.istore_n 3, 1) := by decide +kernel
theorem dX6_moveForward_25 : decode cX6_moveForward 25 = .ok (.aload_n 0, 1) := by decide +kernel
theorem dX6_moveForward_26 : decode cX6_moveForward 26 = .ok (.getfield 13, 3) := by decide +kernel
theorem dX6_moveForward_29 : decode cX6_moveForward 29 = .ok (.iload_n 1, 1) := by decide +kernel
theorem dX6_moveForward_30 : decode cX6_moveForward 30 = .ok (.iaload, 1) := by decide +kernel
theorem dX6_moveForward_31 : decode cX6_moveForward 31 = .ok (.istore 4, 2) := by decide +kernel
theorem dX6_moveForward_33 : decode cX6_moveForward 33 = .ok (.aload_n 0, 1) := by decide +kernel
theorem dX6_moveForward_34 : decode cX6_moveForward 34 = .ok (.getfield 16, 3) := by decide +kernel
theorem dX6_moveForward_37 : decode cX6_moveForward 37 = .ok (.iload_n 1, 1) := by decide +kernel
theorem dX6_moveForward_38 : decode cX6_moveForward 38 = .ok (.iaload, 1) := by decide +kernel
theorem dX6_moveForward_39 : decode cX6_moveForward 39 = .ok (.istore 5, 2) := by decide +kernel
theorem dX6_moveForward_41 : decode cX6_moveForward 41 = .ok (.aload_n 0, 1) := by decide +kernel
theorem dX6_moveForward_42 : decode cX6_moveForward 42 = .ok (.getfield 19, 3) := by decide +kernel
theorem dX6_moveForward_45 : decode cX6_moveForward 45 = .ok (.iload_n 1, 1) := by decide +kernel
theorem dX6_moveForward_46 : decode cX6_moveForward 46 = .ok (.iaload, 1) := by decide +kernel
theorem dX6_moveForward_47 : decode cX6_moveForward 47 = .ok (.istore 6, 2) := by decide +kernel
theorem dX6_moveForward_49 : decode cX6_moveForward 49 = .ok (.aload_n 0, 1) := by decide +kernel
theorem dX6_moveForward_50 : decode cX6_moveForward 50 = .ok (.iload_n 1, 1) := by decide +kernel
theorem dX6_moveForward_51 : decode cX6_moveForward 51 = .ok (.invokevirtual 40, 3) := by decide +kernel
theorem dX6_moveForward_54 : decode cX6_moveForward 54 = .ok (.aload_n 0, 1) := by decide +kernel
theorem dX6_moveForward_55 : decode cX6_moveForward 55 = .ok (.iload_n 2, 1) := by decide +kernel
theorem dX6_moveForward_56 : decode cX6_moveForward 56 = .ok (.iload_n 3, 1) := by decide +kernel
theorem dX6_moveForward_57 : decode cX6_moveForward 57 = .ok (.iload 4, 2) := by decide +kernel
theorem dX6_moveForward_59 : decode cX6_moveForward 59 = .ok (.iload 5, 2) := by decide +kernel
theorem dX6_moveForward_61 : decode cX6_moveForward 61 = .ok (.iload 6, 2) := by decide +kernel
theorem dX6_moveForward_63 : decode cX6_moveForward 63 = .ok (.invokevirtual 36, 3) := by decide +kernel
theorem dX6_moveForward_66 : decode cX6_moveForward 66 = .ok (.return_, 1) := by decide +kernel
theorem dX6_tell_0 : decode cX6_tell 0 = .ok (.iload_n 1, 1) := by decide +kernel
theorem dX6_tell_1 : decode cX6_tell 1 = .ok (.ifCond .lt 11, 3) := by decide +kernel
theorem dX6_tell_4 : decode cX6_tell 4 = .ok (.iload_n 1, 1) := by decide +kernel
theorem dX6_tell_5 : decode cX6_tell 5 = .ok (.aload_n 0, 1) := by decide +kernel
theorem dX6_tell_6 : decode cX6_tell 6 = .ok (.getfield 22, 3) := by decide +kernel
theorem dX6_tell_9 : decode cX6_tell 9 = .ok (.if_icmp .lt 5, 3) := by decide +kernel
theorem dX6_tell_12 : decode cX6_tell 12 = .ok (.iconst 0, 1) := by decide +kernel
theorem dX6_tell_13 : decode cX6_tell 13 = .ok (.ireturn, 1) := by decide +kernel
theorem dX6_tell_14 : decode cX6_tell 14 = .ok (.iload_n 2, 1) := by decide +kernel
theorem dX6_tell_15 : decode cX6_tell 15 = .ok (.tableswitch 46 0 2 #[25, 32, 39], 25) := by decide +kernel
theorem dX6_tell_40 : decode cX6_tell 40 = .ok (.aload_n 0, 1) := by decide +kernel
theorem dX6_tell_41 : decode cX6_tell 41 = .ok (.getfield 7, 3) := by decide +kernel
theorem dX6_tell_44 : decode cX6_tell 44 = .ok (.iload_n 1, 1) := by decide +kernel
theorem dX6_tell_45 : decode cX6_tell 45 = .ok (.iaload, 1) := by decide +kernel
theorem dX6_tell_46 : decode cX6_tell 46 = .ok (.ireturn, 1) := by decide +kernel
theorem dX6_tell_47 : decode cX6_tell 47 = .ok (.aload_n 0, 1) := by decide +kernel
theorem dX6_tell_48 : decode cX6_tell 48 = .ok (.getfield 13, 3) := by decide +kernel
theorem dX6_tell_51 : decode cX6_tell 51 = .ok (.iload_n 1, 1) := by decide +kernel
theorem dX6_tell_52 : decode cX6_tell 52 = .ok (.iaload, 1) := by decide +kernel
theorem dX6_tell_53 : decode cX6_tell 53 = .ok (.ireturn, 1) := by decide +kernel
theorem dX6_tell_54 : decode cX6_tell 54 = .ok (.aload_n 0, 1) := by decide +kernel
theorem dX6_tell_55 : decode cX6_tell 55 = .ok (.getfield 16, 3) := by decide +kernel
theorem dX6_tell_58 : decode cX6_tell 58 = .ok (.iload_n 1, 1) := by decide +kernel
theorem dX6_tell_59 : decode cX6_tell 59 = .ok (.iaload, 1) := by decide +kernel
theorem dX6_tell_60 : decode cX6_tell 60 = .ok (.ireturn, 1) := by decide +kernel
theorem dX6_tell_61 : decode cX6_tell 61 = .ok (.aload_n 0, 1) := by decide +kernel
theorem dX6_tell_62 : decode cX6_tell 62 = .ok (.getfield 19, 3) := by decide +kernel
theorem dX6_tell_65 : decode cX6_tell 65 = .ok (.iload_n 1, 1) := by decide +kernel
theorem dX6_tell_66 : decode cX6_tell 66 = .ok (.iaload, 1) := by decide +kernel
theorem dX6_tell_67 : decode cX6_tell 67 = .ok (.ireturn, 1) := by decide +kernel
theorem dX6_placeOf_0 : decode cX6_placeOf 0 = .ok (.iconst 0, 1) := by decide +kernel
theorem dX6_placeOf_1 : decode cX6_placeOf 1 = .ok (.istore_n 2, 1) := by decide +kernel
theorem dX6_placeOf_2 : decode cX6_placeOf 2 = .ok (.iload_n 2, 1) := by decide +kernel
theorem dX6_placeOf_3 : decode cX6_placeOf 3 = .ok (.aload_n 0, 1) := by decide +kernel
theorem dX6_placeOf_4 : decode cX6_placeOf 4 = .ok (.getfield 22, 3) := by decide +kernel
theorem dX6_placeOf_7 : decode cX6_placeOf 7 = .ok (.if_icmp .ge 21, 3) := by decide +kernel
theorem dX6_placeOf_10 : decode cX6_placeOf 10 = .ok (.aload_n 0, 1) := by decide +kernel
theorem dX6_placeOf_11 : decode cX6_placeOf 11 = .ok (.getfield 7, 3) := by decide +kernel
theorem dX6_placeOf_14 : decode cX6_placeOf 14 = .ok (.iload_n 2, 1) := by decide +kernel
theorem dX6_placeOf_15 : decode cX6_placeOf 15 = .ok (.iaload, 1) := by decide +kernel
theorem dX6_placeOf_16 : decode cX6_placeOf 16 = .ok (.iload_n 1, 1) := by decide +kernel
theorem dX6_placeOf_17 : decode cX6_placeOf 17 = .ok (.if_icmp .ne 5, 3) := by decide +kernel
theorem dX6_placeOf_20 : decode cX6_placeOf 20 = .ok (.iload_n 2, 1) := by decide +kernel
theorem dX6_placeOf_21 : decode cX6_placeOf 21 = .ok (.ireturn, 1) := by decide +kernel
theorem dX6_placeOf_22 : decode cX6_placeOf 22 = .ok (.iinc 2 1, 3) := by decide +kernel
theorem dX6_placeOf_25 : decode cX6_placeOf 25 = .ok (.goto (-23), 3) := by decide +kernel
theorem dX6_placeOf_28 : decode cX6_placeOf 28 = .ok (.iconst (-1), 1) := by decide +kernel
theorem dX6_placeOf_29 : decode cX6_placeOf 29 = .ok (.ireturn, 1) := by decide +kernel
theorem dX6_countOf_0 : decode cX6_countOf 0 = .ok (.iconst 0, 1) := by decide +kernel
theorem dX6_countOf_1 : decode cX6_countOf 1 = .ok (.istore_n 2, 1) := by decide +kernel
theorem dX6_countOf_2 : decode cX6_countOf 2 = .ok (.iconst 0, 1) := by decide +kernel
theorem dX6_countOf_3 : decode cX6_countOf 3 = .ok (.istore_n 3, 1) := by decide +kernel
theorem dX6_countOf_4 : decode cX6_countOf 4 = .ok (.iload_n 3, 1) := by decide +kernel
theorem dX6_countOf_5 : decode cX6_countOf 5 = .ok (.aload_n 0, 1) := by decide +kernel
theorem dX6_countOf_6 : decode cX6_countOf 6 = .ok (.getfield 22, 3) := by decide +kernel
theorem dX6_countOf_9 : decode cX6_countOf 9 = .ok (.if_icmp .ge 22, 3) := by decide +kernel
theorem dX6_countOf_12 : decode cX6_countOf 12 = .ok (.aload_n 0, 1) := by decide +kernel
theorem dX6_countOf_13 : decode cX6_countOf 13 = .ok (.getfield 7, 3) := by decide +kernel
theorem dX6_countOf_16 : decode cX6_countOf 16 = .ok (.iload_n 3, 1) := by decide +kernel
theorem dX6_countOf_17 : decode cX6_countOf 17 = .ok (.iaload, 1) := by decide +kernel
theorem dX6_countOf_18 : decode cX6_countOf 18 = .ok (.iload_n 1, 1) := by decide +kernel
theorem dX6_countOf_19 : decode cX6_countOf 19 = .ok (.if_icmp .ne 6, 3) := by decide +kernel
theorem dX6_countOf_22 : decode cX6_countOf 22 = .ok (.iinc 2 1, 3) := by decide +kernel
theorem dX6_countOf_25 : decode cX6_countOf 25 = .ok (.iinc 3 1, 3) := by decide +kernel
theorem dX6_countOf_28 : decode cX6_countOf 28 = .ok (.goto (-24), 3) := by decide +kernel
theorem dX6_countOf_31 : decode cX6_countOf 31 = .ok (.iload_n 2, 1) := by decide +kernel
theorem dX6_countOf_32 : decode cX6_countOf 32 = .ok (.ireturn, 1) := by decide +kernel
theorem dX6_secondsTogether_0 : decode cX6_secondsTogether 0 = .ok (.iconst 0, 1) := by decide +kernel
theorem dX6_secondsTogether_1 : decode cX6_secondsTogether 1 = .ok (.istore_n 1, 1) := by decide +kernel
theorem dX6_secondsTogether_2 : decode cX6_secondsTogether 2 = .ok (.iconst 0, 1) := by decide +kernel
theorem dX6_secondsTogether_3 : decode cX6_secondsTogether 3 = .ok (.istore_n 2, 1) := by decide +kernel
theorem dX6_secondsTogether_4 : decode cX6_secondsTogether 4 = .ok (.iload_n 2, 1) := by decide +kernel
theorem dX6_secondsTogether_5 : decode cX6_secondsTogether 5 = .ok (.aload_n 0, 1) := by decide +kernel
theorem dX6_secondsTogether_6 : decode cX6_secondsTogether 6 = .ok (.getfield 22, 3) := by decide +kernel
theorem dX6_secondsTogether_9 : decode cX6_secondsTogether 9 = .ok (.if_icmp .ge 18, 3) := by decide +kernel
theorem dX6_secondsTogether_12 : decode cX6_secondsTogether 12 = .ok (.iload_n 1, 1) := by decide +kernel
theorem dX6_secondsTogether_13 : decode cX6_secondsTogether 13 = .ok (.aload_n 0, 1) := by decide +kernel
theorem dX6_secondsTogether_14 : decode cX6_secondsTogether 14 = .ok (.getfield 13, 3) := by decide +kernel
theorem dX6_secondsTogether_17 : decode cX6_secondsTogether 17 = .ok (.iload_n 2, 1) := by decide +kernel
theorem dX6_secondsTogether_18 : decode cX6_secondsTogether 18 = .ok (.iaload, 1) := by decide +kernel
theorem dX6_secondsTogether_19 : decode cX6_secondsTogether 19 = .ok (.iadd, 1) := by decide +kernel
theorem dX6_secondsTogether_20 : decode cX6_secondsTogether 20 = .ok (.istore_n 1, 1) := by decide +kernel
theorem dX6_secondsTogether_21 : decode cX6_secondsTogether 21 = .ok (.iinc 2 1, 3) := by decide +kernel
theorem dX6_secondsTogether_24 : decode cX6_secondsTogether 24 = .ok (.goto (-20), 3) := by decide +kernel
theorem dX6_secondsTogether_27 : decode cX6_secondsTogether 27 = .ok (.iload_n 1, 1) := by decide +kernel
theorem dX6_secondsTogether_28 : decode cX6_secondsTogether 28 = .ok (.ireturn, 1) := by decide +kernel
theorem dX6_sponsorSet_0 : decode cX6_sponsorSet 0 = .ok (.iconst 0, 1) := by decide +kernel
theorem dX6_sponsorSet_1 : decode cX6_sponsorSet 1 = .ok (.istore_n 1, 1) := by decide +kernel
theorem dX6_sponsorSet_2 : decode cX6_sponsorSet 2 = .ok (.iconst 0, 1) := by decide +kernel
theorem dX6_sponsorSet_3 : decode cX6_sponsorSet 3 = .ok (.istore_n 2, 1) := by decide +kernel
theorem dX6_sponsorSet_4 : decode cX6_sponsorSet 4 = .ok (.iload_n 2, 1) := by decide +kernel
theorem dX6_sponsorSet_5 : decode cX6_sponsorSet 5 = .ok (.aload_n 0, 1) := by decide +kernel
theorem dX6_sponsorSet_6 : decode cX6_sponsorSet 6 = .ok (.getfield 22, 3) := by decide +kernel
theorem dX6_sponsorSet_9 : decode cX6_sponsorSet 9 = .ok (.if_icmp .ge 20, 3) := by decide +kernel
theorem dX6_sponsorSet_12 : decode cX6_sponsorSet 12 = .ok (.iload_n 1, 1) := by decide +kernel
theorem dX6_sponsorSet_13 : decode cX6_sponsorSet 13 = .ok (.iconst 1, 1) := by decide +kernel
theorem dX6_sponsorSet_14 : decode cX6_sponsorSet 14 = .ok (.aload_n 0, 1) := by decide +kernel
theorem dX6_sponsorSet_15 : decode cX6_sponsorSet 15 = .ok (.getfield 7, 3) := by decide +kernel
theorem dX6_sponsorSet_18 : decode cX6_sponsorSet 18 = .ok (.iload_n 2, 1) := by decide +kernel
theorem dX6_sponsorSet_19 : decode cX6_sponsorSet 19 = .ok (.iaload, 1) := by decide +kernel
theorem dX6_sponsorSet_20 : decode cX6_sponsorSet 20 = .ok (.ishl, 1) := by decide +kernel
theorem dX6_sponsorSet_21 : decode cX6_sponsorSet 21 = .ok (.ior, 1) := by decide +kernel
theorem dX6_sponsorSet_22 : decode cX6_sponsorSet 22 = .ok (.istore_n 1, 1) := by decide +kernel
theorem dX6_sponsorSet_23 : decode cX6_sponsorSet 23 = .ok (.iinc 2 1, 3) := by decide +kernel
theorem dX6_sponsorSet_26 : decode cX6_sponsorSet 26 = .ok (.goto (-22), 3) := by decide +kernel
theorem dX6_sponsorSet_29 : decode cX6_sponsorSet 29 = .ok (.iload_n 1, 1) := by decide +kernel
theorem dX6_sponsorSet_30 : decode cX6_sponsorSet 30 = .ok (.ireturn, 1) := by decide +kernel
theorem dX6_addTo_0 : decode cX6_addTo 0 = .ok (.lload_n 1, 1) := by decide +kernel
theorem dX6_addTo_1 : decode cX6_addTo 1 = .ok (.lstore 4, 2) := by decide +kernel
theorem dX6_addTo_3 : decode cX6_addTo 3 = .ok (.iconst 0, 1) := by decide +kernel
theorem dX6_addTo_4 : decode cX6_addTo 4 = .ok (.istore 6, 2) := by decide +kernel
theorem dX6_addTo_6 : decode cX6_addTo 6 = .ok (.iload 6, 2) := by decide +kernel
theorem dX6_addTo_8 : decode cX6_addTo 8 = .ok (.aload_n 0, 1) := by decide +kernel
theorem dX6_addTo_9 : decode cX6_addTo 9 = .ok (.getfield 22, 3) := by decide +kernel
theorem dX6_addTo_12 : decode cX6_addTo 12 = .ok (.if_icmp .ge 42, 3) := by decide +kernel
theorem dX6_addTo_15 : decode cX6_addTo 15 = .ok (.iconst 0, 1) := by decide +kernel
theorem dX6_addTo_16 : decode cX6_addTo 16 = .ok (.istore 7, 2) := by decide +kernel
theorem dX6_addTo_18 : decode cX6_addTo 18 = .ok (.iload 7, 2) := by decide +kernel
theorem dX6_addTo_20 : decode cX6_addTo 20 = .ok (.iload_n 3, 1) := by decide +kernel
theorem dX6_addTo_21 : decode cX6_addTo 21 = .ok (.if_icmp .ge 27, 3) := by decide +kernel
theorem dX6_addTo_24 : decode cX6_addTo 24 = .ok (.ldc2_w 44, 3) := by decide +kernel
theorem dX6_addTo_27 : decode cX6_addTo 27 = .ok (.lload 4, 2) := by decide +kernel
theorem dX6_addTo_29 : decode cX6_addTo 29 = .ok (.lmul, 1) := by decide +kernel
theorem dX6_addTo_30 : decode cX6_addTo 30 = .ok (.aload_n 0, 1) := by decide +kernel
theorem dX6_addTo_31 : decode cX6_addTo 31 = .ok (.iload 6, 2) := by decide +kernel
theorem dX6_addTo_33 : decode cX6_addTo 33 = .ok (.iload 7, 2) := by decide +kernel
theorem dX6_addTo_35 : decode cX6_addTo 35 = .ok (.invokevirtual 46, 3) := by decide +kernel
theorem dX6_addTo_38 : decode cX6_addTo 38 = .ok (.i2l, 1) := by decide +kernel
theorem dX6_addTo_39 : decode cX6_addTo 39 = .ok (.ladd, 1) := by decide +kernel
theorem dX6_addTo_40 : decode cX6_addTo 40 = .ok (.lstore 4, 2) := by decide +kernel
theorem dX6_addTo_42 : decode cX6_addTo 42 = .ok (.iinc 7 1, 3) := by decide +kernel
theorem dX6_addTo_45 : decode cX6_addTo 45 = .ok (.goto (-27), 3) := by decide +kernel
theorem dX6_addTo_48 : decode cX6_addTo 48 = .ok (.iinc 6 1, 3) := by decide +kernel
theorem dX6_addTo_51 : decode cX6_addTo 51 = .ok (.goto (-45), 3) := by decide +kernel
theorem dX6_addTo_54 : decode cX6_addTo 54 = .ok (.lload 4, 2) := by decide +kernel
theorem dX6_addTo_56 : decode cX6_addTo 56 = .ok (.lreturn, 1) := by decide +kernel
theorem dX7_init_0 : decode cX7_init 0 = .ok (.aload_n 0, 1) := by decide +kernel
theorem dX7_init_1 : decode cX7_init 1 = .ok (.invokespecial 3, 3) := by decide +kernel
theorem dX7_init_4 : decode cX7_init 4 = .ok (.aload_n 0, 1) := by decide +kernel
theorem dX7_init_5 : decode cX7_init 5 = .ok (.iconst 0, 1) := by decide +kernel
theorem dX7_init_6 : decode cX7_init 6 = .ok (.newarray .byte, 2) := by decide +kernel
theorem dX7_init_8 : decode cX7_init 8 = .ok (.putfield 9, 3) := by decide +kernel
theorem dX7_init_11 : decode cX7_init 11 = .ok (.return_, 1) := by decide +kernel
theorem dX7_begin_0 : decode cX7_begin 0 = .ok (.aload_n 0, 1) := by decide +kernel
theorem dX7_begin_1 : decode cX7_begin 1 = .ok (.aload_n 1, 1) := by decide +kernel
theorem dX7_begin_2 : decode cX7_begin 2 = .ok (.putfield 9, 3) := by decide +kernel
theorem dX7_begin_5 : decode cX7_begin 5 = .ok (.aload_n 0, 1) := by decide +kernel
theorem dX7_begin_6 : decode cX7_begin 6 = .ok (.iload_n 2, 1) := by decide +kernel
theorem dX7_begin_7 : decode cX7_begin 7 = .ok (.aload_n 1, 1) := by decide +kernel
theorem dX7_begin_8 : decode cX7_begin 8 = .ok (.arraylength, 1) := by decide +kernel
theorem dX7_begin_9 : decode cX7_begin 9 = .ok (.invokestatic 15, 3) := by decide +kernel
theorem dX7_begin_12 : decode cX7_begin 12 = .ok (.putfield 21, 3) := by decide +kernel
theorem dX7_begin_15 : decode cX7_begin 15 = .ok (.aload_n 0, 1) := by decide +kernel
theorem dX7_begin_16 : decode cX7_begin 16 = .ok (.iconst 0, 1) := by decide +kernel
theorem dX7_begin_17 : decode cX7_begin 17 = .ok (.putfield 25, 3) := by decide +kernel
theorem dX7_begin_20 : decode cX7_begin 20 = .ok (.aload_n 0, 1) := by decide +kernel
theorem dX7_begin_21 : decode cX7_begin 21 = .ok (.invokevirtual 28, 3) := by decide +kernel
theorem dX7_begin_24 : decode cX7_begin 24 = .ok (.return_, 1) := by decide +kernel
theorem dX7_advance_0 : decode cX7_advance 0 = .ok (.aload_n 0, 1) := by decide +kernel
theorem dX7_advance_1 : decode cX7_advance 1 = .ok (.aload_n 0, 1) := by decide +kernel
theorem dX7_advance_2 : decode cX7_advance 2 = .ok (.getfield 25, 3) := by decide +kernel
theorem dX7_advance_5 : decode cX7_advance 5 = .ok (.putfield 31, 3) := by decide +kernel
theorem dX7_advance_8 : decode cX7_advance 8 = .ok (.aload_n 0, 1) := by decide +kernel
theorem dX7_advance_9 : decode cX7_advance 9 = .ok (.getfield 31, 3) := by decide +kernel
theorem dX7_advance_12 : decode cX7_advance 12 = .ok (.aload_n 0, 1) := by decide +kernel
theorem dX7_advance_13 : decode cX7_advance 13 = .ok (.getfield 21, 3) := by decide +kernel
theorem dX7_advance_16 : decode cX7_advance 16 = .ok (.if_icmp .ge 30, 3) := by decide +kernel
theorem dX7_advance_19 : decode cX7_advance 19 = .ok (.aload_n 0, 1) := by decide +kernel
theorem dX7_advance_20 : decode cX7_advance 20 = .ok (.getfield 9, 3) := by decide +kernel
theorem dX7_advance_23 : decode cX7_advance 23 = .ok (.aload_n 0, 1) := by decide +kernel
theorem dX7_advance_24 : decode cX7_advance 24 = .ok (.getfield 31, 3) := by decide +kernel
theorem dX7_advance_27 : decode cX7_advance 27 = .ok (.baload, 1) := by decide +kernel
theorem dX7_advance_28 : decode cX7_advance 28 = .ok (.bipush 32, 2) := by decide +kernel
theorem dX7_advance_30 : decode cX7_advance 30 = .ok (.if_icmp .ne 16, 3) := by decide +kernel
theorem dX7_advance_33 : decode cX7_advance 33 = .ok (.aload_n 0, 1) := by decide +kernel
theorem dX7_advance_34 : decode cX7_advance 34 = .ok (.dup, 1) := by decide +kernel
theorem dX7_advance_35 : decode cX7_advance 35 = .ok (.getfield 31, 3) := by decide +kernel
theorem dX7_advance_38 : decode cX7_advance 38 = .ok (.iconst 1, 1) := by decide +kernel
theorem dX7_advance_39 : decode cX7_advance 39 = .ok (.iadd, 1) := by decide +kernel
theorem dX7_advance_40 : decode cX7_advance 40 = .ok (.putfield 31, 3) := by decide +kernel
theorem dX7_advance_43 : decode cX7_advance 43 = .ok (.goto (-35), 3) := by decide +kernel
theorem dX7_advance_46 : decode cX7_advance 46 = .ok (.aload_n 0, 1) := by decide +kernel
theorem dX7_advance_47 : decode cX7_advance 47 = .ok (.aload_n 0, 1) := by decide +kernel
theorem dX7_advance_48 : decode cX7_advance 48 = .ok (.getfield 31, 3) := by decide +kernel
theorem dX7_advance_51 : decode cX7_advance 51 = .ok (.putfield 25, 3) := by decide +kernel
theorem dX7_advance_54 : decode cX7_advance 54 = .ok (.aload_n 0, 1) := by decide +kernel
theorem dX7_advance_55 : decode cX7_advance 55 = .ok (.iconst 0, 1) := by decide +kernel
theorem dX7_advance_56 : decode cX7_advance 56 = .ok (.putfield 34, 3) := by decide +kernel
theorem dX7_advance_59 : decode cX7_advance 59 = .ok (.aload_n 0, 1) := by decide +kernel
theorem dX7_advance_60 : decode cX7_advance 60 = .ok (.getfield 25, 3) := by decide +kernel
theorem dX7_advance_63 : decode cX7_advance 63 = .ok (.aload_n 0, 1) := by decide +kernel
theorem dX7_advance_64 : decode cX7_advance 64 = .ok (.getfield 21, 3) := by decide +kernel
theorem dX7_advance_67 : decode cX7_advance 67 = .ok (.if_icmp .ge 44, 3) := by decide +kernel
theorem dX7_advance_70 : decode cX7_advance 70 = .ok (.aload_n 0, 1) := by decide +kernel
theorem dX7_advance_71 : decode cX7_advance 71 = .ok (.getfield 9, 3) := by decide +kernel
theorem dX7_advance_74 : decode cX7_advance 74 = .ok (.aload_n 0, 1) := by decide +kernel
theorem dX7_advance_75 : decode cX7_advance 75 = .ok (.getfield 25, 3) := by decide +kernel
theorem dX7_advance_78 : decode cX7_advance 78 = .ok (.baload, 1) := by decide +kernel
theorem dX7_advance_79 : decode cX7_advance 79 = .ok (.bipush 97, 2) := by decide +kernel
theorem dX7_advance_81 : decode cX7_advance 81 = .ok (.if_icmp .lt 30, 3) := by decide +kernel
theorem dX7_advance_84 : decode cX7_advance 84 = .ok (.aload_n 0, 1) := by decide +kernel
theorem dX7_advance_85 : decode cX7_advance 85 = .ok (.getfield 9, 3) := by decide +kernel
theorem dX7_advance_88 : decode cX7_advance 88 = .ok (.aload_n 0, 1) := by decide +kernel
theorem dX7_advance_89 : decode cX7_advance 89 = .ok (.getfield 25, 3) := by decide +kernel
theorem dX7_advance_92 : decode cX7_advance 92 = .ok (.baload, 1) := by decide +kernel
theorem dX7_advance_93 : decode cX7_advance 93 = .ok (.bipush 122, 2) := by decide +kernel
theorem dX7_advance_95 : decode cX7_advance 95 = .ok (.if_icmp .gt 16, 3) := by decide +kernel
theorem dX7_advance_98 : decode cX7_advance 98 = .ok (.aload_n 0, 1) := by decide +kernel
theorem dX7_advance_99 : decode cX7_advance 99 = .ok (.dup, 1) := by decide +kernel
theorem dX7_advance_100 : decode cX7_advance 100 = .ok (.getfield 25, 3) := by decide +kernel
theorem dX7_advance_103 : decode cX7_advance 103 = .ok (.iconst 1, 1) := by decide +kernel
theorem dX7_advance_104 : decode cX7_advance 104 = .ok (.iadd, 1) := by decide +kernel
theorem dX7_advance_105 : decode cX7_advance 105 = .ok (.putfield 25, 3) := by decide +kernel
theorem dX7_advance_108 : decode cX7_advance 108 = .ok (.goto (-49), 3) := by decide +kernel
theorem dX7_advance_111 : decode cX7_advance 111 = .ok (.aload_n 0, 1) := by decide +kernel
theorem dX7_advance_112 : decode cX7_advance 112 = .ok (.getfield 25, 3) := by decide +kernel
theorem dX7_advance_115 : decode cX7_advance 115 = .ok (.aload_n 0, 1) := by decide +kernel
theorem dX7_advance_116 : decode cX7_advance 116 = .ok (.getfield 31, 3) := by decide +kernel
theorem dX7_advance_119 : decode cX7_advance 119 = .ok (.if_icmp .le 9, 3) := by decide +kernel
theorem dX7_advance_122 : decode cX7_advance 122 = .ok (.aload_n 0, 1) := by decide +kernel
theorem dX7_advance_123 : decode cX7_advance 123 = .ok (.iconst 1, 1) := by decide +kernel
theorem dX7_advance_124 : decode cX7_advance 124 = .ok (.putfield 37, 3) := by decide +kernel
theorem dX7_advance_127 : decode cX7_advance 127 = .ok (.return_, 1) := by decide +kernel
theorem dX7_advance_128 : decode cX7_advance 128 = .ok (.aload_n 0, 1) := by decide +kernel
theorem dX7_advance_129 : decode cX7_advance 129 = .ok (.getfield 25, 3) := by decide +kernel
theorem dX7_advance_132 : decode cX7_advance 132 = .ok (.aload_n 0, 1) := by decide +kernel
theorem dX7_advance_133 : decode cX7_advance 133 = .ok (.getfield 21, 3) := by decide +kernel
theorem dX7_advance_136 : decode cX7_advance 136 = .ok (.if_icmp .ge 85, 3) := by decide +kernel
theorem dX7_advance_139 : decode cX7_advance 139 = .ok (.aload_n 0, 1) := by decide +kernel
theorem dX7_advance_140 : decode cX7_advance 140 = .ok (.getfield 9, 3) := by decide +kernel
theorem dX7_advance_143 : decode cX7_advance 143 = .ok (.aload_n 0, 1) := by decide +kernel
theorem dX7_advance_144 : decode cX7_advance 144 = .ok (.getfield 25, 3) := by decide +kernel
theorem dX7_advance_147 : decode cX7_advance 147 = .ok (.baload, 1) := by decide +kernel
theorem dX7_advance_148 : decode cX7_advance 148 = .ok (.bipush 48, 2) := by decide +kernel
theorem dX7_advance_150 : decode cX7_advance 150 = .ok (.if_icmp .lt 71, 3) := by decide +kernel
theorem dX7_advance_153 : decode cX7_advance 153 = .ok (.aload_n 0, 1) := by decide +kernel
theorem dX7_advance_154 : decode cX7_advance 154 = .ok (.getfield 9, 3) := by decide +kernel
theorem dX7_advance_157 : decode cX7_advance 157 = .ok (.aload_n 0, 1) := by decide +kernel
theorem dX7_advance_158 : decode cX7_advance 158 = .ok (.getfield 25, 3) := by decide +kernel
theorem dX7_advance_161 : decode cX7_advance 161 = .ok (.baload, 1) := by decide +kernel
theorem dX7_advance_162 : decode cX7_advance 162 = .ok (.bipush 57, 2) := by decide +kernel
theorem dX7_advance_164 : decode cX7_advance 164 = .ok (.if_icmp .gt 57, 3) := by decide +kernel
theorem dX7_advance_167 : decode cX7_advance 167 = .ok (.aload_n 0, 1) := by decide +kernel
theorem dX7_advance_168 : decode cX7_advance 168 = .ok (.aload_n 0, 1) := by decide +kernel
theorem dX7_advance_169 : decode cX7_advance 169 = .ok (.getfield 34, 3) := by decide +kernel
theorem dX7_advance_172 : decode cX7_advance 172 = .ok (.sipush 9999, 3) := by decide +kernel
theorem dX7_advance_175 : decode cX7_advance 175 = .ok (.if_icmp .le 10, 3) := by decide +kernel
theorem dX7_advance_178 : decode cX7_advance 178 = .ok (.aload_n 0, 1) := by decide +kernel
theorem dX7_advance_179 : decode cX7_advance 179 = .ok (.getfield 34, 3) := by decide +kernel
theorem dX7_advance_182 : decode cX7_advance 182 = .ok (.goto 23, 3) := by decide +kernel
theorem dX7_advance_185 : decode cX7_advance 185 = .ok (.bipush 10, 2) := by decide +kernel
theorem dX7_advance_187 : decode cX7_advance 187 = .ok (.aload_n 0, 1) := by decide +kernel
theorem dX7_advance_188 : decode cX7_advance 188 = .ok (.getfield 34, 3) := by decide +kernel
theorem dX7_advance_191 : decode cX7_advance 191 = .ok (.imul, 1) := by decide +kernel
theorem dX7_advance_192 : decode cX7_advance 192 = .ok (.aload_n 0, 1) := by decide +kernel
theorem dX7_advance_193 : decode cX7_advance 193 = .ok (.getfield 9, 3) := by decide +kernel
theorem dX7_advance_196 : decode cX7_advance 196 = .ok (.aload_n 0, 1) := by decide +kernel
theorem dX7_advance_197 : decode cX7_advance 197 = .ok (.getfield 25, 3) := by decide +kernel
theorem dX7_advance_200 : decode cX7_advance 200 = .ok (.baload, 1) := by decide +kernel
theorem dX7_advance_201 : decode cX7_advance 201 = .ok (.iadd, 1) := by decide +kernel
theorem dX7_advance_202 : decode cX7_advance 202 = .ok (.bipush 48, 2) := by decide +kernel
theorem dX7_advance_204 : decode cX7_advance 204 = .ok (.isub, 1) := by decide +kernel
theorem dX7_advance_205 : decode cX7_advance 205 = .ok (.putfield 34, 3) := by decide +kernel
theorem dX7_advance_208 : decode cX7_advance 208 = .ok (.aload_n 0, 1) := by decide +kernel
theorem dX7_advance_209 : decode cX7_advance 209 = .ok (.dup, 1) := by decide +kernel
theorem dX7_advance_210 : decode cX7_advance 210 = .ok (.getfield 25, 3) := by decide +kernel
theorem dX7_advance_213 : decode cX7_advance 213 = .ok (.iconst 1, 1) := by decide +kernel
theorem dX7_advance_214 : decode cX7_advance 214 = .ok (.iadd, 1) := by decide +kernel
theorem dX7_advance_215 : decode cX7_advance 215 = .ok (.putfield 25, 3) := by decide +kernel
theorem dX7_advance_218 : decode cX7_advance 218 = .ok (.goto (-90), 3) := by decide +kernel
theorem dX7_advance_221 : decode cX7_advance 221 = .ok (.aload_n 0, 1) := by decide +kernel
theorem dX7_advance_222 : decode cX7_advance 222 = .ok (.getfield 25, 3) := by decide +kernel
theorem dX7_advance_225 : decode cX7_advance 225 = .ok (.aload_n 0, 1) := by decide +kernel
theorem dX7_advance_226 : decode cX7_advance 226 = .ok (.getfield 31, 3) := by decide +kernel
theorem dX7_advance_229 : decode cX7_advance 229 = .ok (.if_icmp .le 9, 3) := by decide +kernel
theorem dX7_advance_232 : decode cX7_advance 232 = .ok (.aload_n 0, 1) := by decide +kernel
theorem dX7_advance_233 : decode cX7_advance 233 = .ok (.iconst 2, 1) := by decide +kernel
theorem dX7_advance_234 : decode cX7_advance 234 = .ok (.putfield 37, 3) := by decide +kernel
theorem dX7_advance_237 : decode cX7_advance 237 = .ok (.return_, 1) := by decide +kernel
theorem dX7_advance_238 : decode cX7_advance 238 = .ok (.aload_n 0, 1) := by decide +kernel
theorem dX7_advance_239 : decode cX7_advance 239 = .ok (.aload_n 0, 1) := by decide +kernel
theorem dX7_advance_240 : decode cX7_advance 240 = .ok (.getfield 31, 3) := by decide +kernel
theorem dX7_advance_243 : decode cX7_advance 243 = .ok (.aload_n 0, 1) := by decide +kernel
theorem dX7_advance_244 : decode cX7_advance 244 = .ok (.getfield 21, 3) := by decide +kernel
theorem dX7_advance_247 : decode cX7_advance 247 = .ok (.if_icmp .ge 7, 3) := by decide +kernel
theorem dX7_advance_250 : decode cX7_advance 250 = .ok (.iconst 3, 1) := by decide +kernel
theorem dX7_advance_251 : decode cX7_advance 251 = .ok (.goto 4, 3) := by decide +kernel
theorem dX7_advance_254 : decode cX7_advance 254 = .ok (.iconst 0, 1) := by decide +kernel
theorem dX7_advance_255 : decode cX7_advance 255 = .ok (.putfield 37, 3) := by decide +kernel
theorem dX7_advance_258 : decode cX7_advance 258 = .ok (.aload_n 0, 1) := by decide +kernel
theorem dX7_advance_259 : decode cX7_advance 259 = .ok (.aload_n 0, 1) := by decide +kernel
theorem dX7_advance_260 : decode cX7_advance 260 = .ok (.getfield 31, 3) := by decide +kernel
theorem dX7_advance_263 : decode cX7_advance 263 = .ok (.iconst 1, 1) := by decide +kernel
theorem dX7_advance_264 : decode cX7_advance 264 = .ok (.iadd, 1) := by decide +kernel
theorem dX7_advance_265 : decode cX7_advance 265 = .ok (.aload_n 0, 1) := by decide +kernel
theorem dX7_advance_266 : decode cX7_advance 266 = .ok (.getfield 21, 3) := by decide +kernel
theorem dX7_advance_269 : decode cX7_advance 269 = .ok (.invokestatic 15, 3) := by decide +kernel
theorem dX7_advance_272 : decode cX7_advance 272 = .ok (.putfield 25, 3) := by decide +kernel
theorem dX7_advance_275 : decode cX7_advance 275 = .ok (.return_, 1) := by decide +kernel
theorem dX7_isWord_0 : decode cX7_isWord 0 = .ok (.aload_n 0, 1) := by decide +kernel
theorem dX7_isWord_1 : decode cX7_isWord 1 = .ok (.getfield 37, 3) := by decide +kernel
theorem dX7_isWord_4 : decode cX7_isWord 4 = .ok (.iconst 1, 1) := by decide +kernel
theorem dX7_isWord_5 : decode cX7_isWord 5 = .ok (.if_icmp .ne 19, 3) := by decide +kernel
theorem dX7_isWord_8 : decode cX7_isWord 8 = .ok (.aload_n 0, 1) := by decide +kernel
theorem dX7_isWord_9 : decode cX7_isWord 9 = .ok (.getfield 25, 3) := by decide +kernel
theorem dX7_isWord_12 : decode cX7_isWord 12 = .ok (.aload_n 0, 1) := by decide +kernel
theorem dX7_isWord_13 : decode cX7_isWord 13 = .ok (.getfield 31, 3) := by decide +kernel
theorem dX7_isWord_16 : decode cX7_isWord 16 = .ok (.isub, 1) := by decide +kernel
theorem dX7_isWord_17 : decode cX7_isWord 17 = .ok (.aload_n 1, 1) := by decide +kernel
theorem dX7_isWord_18 : decode cX7_isWord 18 = .ok (.invokevirtual 40, 3) := by decide +kernel
theorem dX7_isWord_21 : decode cX7_isWord 21 = .ok (.if_icmp .eq 5, 3) := by decide +kernel
theorem dX7_isWord_24 : decode cX7_isWord 24 = .ok (.iconst 0, 1) := by decide +kernel
theorem dX7_isWord_25 : decode cX7_isWord 25 = .ok (.ireturn, 1) := by decide +kernel
theorem dX7_isWord_26 : decode cX7_isWord 26 = .ok (.iconst 0, 1) := by decide +kernel
theorem dX7_isWord_27 : decode cX7_isWord 27 = .ok (.istore_n 2, 1) := by decide +kernel
theorem dX7_isWord_28 : decode cX7_isWord 28 = .ok (.iload_n 2, 1) := by decide +kernel
theorem dX7_isWord_29 : decode cX7_isWord 29 = .ok (.aload_n 1, 1) := by decide +kernel
theorem dX7_isWord_30 : decode cX7_isWord 30 = .ok (.invokevirtual 40, 3) := by decide +kernel
theorem dX7_isWord_33 : decode cX7_isWord 33 = .ok (.if_icmp .ge 30, 3) := by decide +kernel
theorem dX7_isWord_36 : decode cX7_isWord 36 = .ok (.aload_n 0, 1) := by decide +kernel
theorem dX7_isWord_37 : decode cX7_isWord 37 = .ok (.getfield 9, 3) := by decide +kernel
theorem dX7_isWord_40 : decode cX7_isWord 40 = .ok (.aload_n 0, 1) := by decide +kernel
theorem dX7_isWord_41 : decode cX7_isWord 41 = .ok (.getfield 31, 3) := by decide +kernel
theorem dX7_isWord_44 : decode cX7_isWord 44 = .ok (.iload_n 2, 1) := by decide +kernel
theorem dX7_isWord_45 : decode cX7_isWord 45 = .ok (.iadd, 1) := by decide +kernel
theorem dX7_isWord_46 : decode cX7_isWord 46 = .ok (.baload, 1) := by decide +kernel
theorem dX7_isWord_47 : decode cX7_isWord 47 = .ok (.aload_n 1, 1) := by decide +kernel
theorem dX7_isWord_48 : decode cX7_isWord 48 = .ok (.iload_n 2, 1) := by decide +kernel
theorem dX7_isWord_49 : decode cX7_isWord 49 = .ok (.invokevirtual 45, 3) := by decide +kernel
theorem dX7_isWord_52 : decode cX7_isWord 52 = .ok (.if_icmp .eq 5, 3) := by decide +kernel
theorem dX7_isWord_55 : decode cX7_isWord 55 = .ok (.iconst 0, 1) := by decide +kernel
theorem dX7_isWord_56 : decode cX7_isWord 56 = .ok (.ireturn, 1) := by decide +kernel
theorem dX7_isWord_57 : decode cX7_isWord 57 = .ok (.iinc 2 1, 3) := by decide +kernel
theorem dX7_isWord_60 : decode cX7_isWord 60 = .ok (.goto (-32), 3) := by decide +kernel
theorem dX7_isWord_63 : decode cX7_isWord 63 = .ok (.iconst 1, 1) := by decide +kernel
theorem dX7_isWord_64 : decode cX7_isWord 64 = .ok (.ireturn, 1) := by decide +kernel
theorem dX7_isSign_0 : decode cX7_isSign 0 = .ok (.aload_n 0, 1) := by decide +kernel
theorem dX7_isSign_1 : decode cX7_isSign 1 = .ok (.getfield 37, 3) := by decide +kernel
theorem dX7_isSign_4 : decode cX7_isSign 4 = .ok (.iconst 3, 1) := by decide +kernel
theorem dX7_isSign_5 : decode cX7_isSign 5 = .ok (.if_icmp .ne 31, 3) := by decide +kernel
theorem dX7_isSign_8 : decode cX7_isSign 8 = .ok (.aload_n 0, 1) := by decide +kernel
theorem dX7_isSign_9 : decode cX7_isSign 9 = .ok (.getfield 31, 3) := by decide +kernel
theorem dX7_isSign_12 : decode cX7_isSign 12 = .ok (.aload_n 0, 1) := by decide +kernel
theorem dX7_isSign_13 : decode cX7_isSign 13 = .ok (.getfield 21, 3) := by decide +kernel
theorem dX7_isSign_16 : decode cX7_isSign 16 = .ok (.if_icmp .ge 20, 3) := by decide +kernel
theorem dX7_isSign_19 : decode cX7_isSign 19 = .ok (.aload_n 0, 1) := by decide +kernel
theorem dX7_isSign_20 : decode cX7_isSign 20 = .ok (.getfield 9, 3) := by decide +kernel
theorem dX7_isSign_23 : decode cX7_isSign 23 = .ok (.aload_n 0, 1) := by decide +kernel
theorem dX7_isSign_24 : decode cX7_isSign 24 = .ok (.getfield 31, 3) := by decide +kernel
theorem dX7_isSign_27 : decode cX7_isSign 27 = .ok (.baload, 1) := by decide +kernel
theorem dX7_isSign_28 : decode cX7_isSign 28 = .ok (.iload_n 1, 1) := by decide +kernel
theorem dX7_isSign_29 : decode cX7_isSign 29 = .ok (.if_icmp .ne 7, 3) := by decide +kernel
theorem dX7_isSign_32 : decode cX7_isSign 32 = .ok (.iconst 1, 1) := by decide +kernel
theorem dX7_isSign_33 : decode cX7_isSign 33 = .ok (.goto 4, 3) := by decide +kernel
theorem dX7_isSign_36 : decode cX7_isSign 36 = .ok (.iconst 0, 1) := by decide +kernel
theorem dX7_isSign_37 : decode cX7_isSign 37 = .ok (.ireturn, 1) := by decide +kernel
theorem dX8_init_0 : decode cX8_init 0 = .ok (.aload_n 0, 1) := by decide +kernel
theorem dX8_init_1 : decode cX8_init 1 = .ok (.invokespecial 1, 3) := by decide +kernel
theorem dX8_init_4 : decode cX8_init 4 = .ok (.aload_n 0, 1) := by decide +kernel
theorem dX8_init_5 : decode cX8_init 5 = .ok (.sipush 800, 3) := by decide +kernel
theorem dX8_init_8 : decode cX8_init 8 = .ok (.newarray .byte, 2) := by decide +kernel
theorem dX8_init_10 : decode cX8_init 10 = .ok (.putfield 9, 3) := by decide +kernel
theorem dX8_init_13 : decode cX8_init 13 = .ok (.aload_n 0, 1) := by decide +kernel
theorem dX8_init_14 : decode cX8_init 14 = .ok (.iconst 0, 1) := by decide +kernel
theorem dX8_init_15 : decode cX8_init 15 = .ok (.putfield 13, 3) := by decide +kernel
theorem dX8_init_18 : decode cX8_init 18 = .ok (.aload_n 0, 1) := by decide +kernel
theorem dX8_init_19 : decode cX8_init 19 = .ok (.iconst (-1), 1) := by decide +kernel
theorem dX8_init_20 : decode cX8_init 20 = .ok (.putfield 17, 3) := by decide +kernel
theorem dX8_init_23 : decode cX8_init 23 = .ok (.aload_n 0, 1) := by decide +kernel
theorem dX8_init_24 : decode cX8_init 24 = .ok (.new 20, 3) := by decide +kernel
theorem dX8_init_27 : decode cX8_init 27 = .ok (.dup, 1) := by decide +kernel
theorem dX8_init_28 : decode cX8_init 28 = .ok (.invokespecial 22, 3) := by decide +kernel
theorem dX8_init_31 : decode cX8_init 31 = .ok (.putfield 23, 3) := by decide +kernel
theorem dX8_init_34 : decode cX8_init 34 = .ok (.aload_n 0, 1) := by decide +kernel
theorem dX8_init_35 : decode cX8_init 35 = .ok (.new 27, 3) := by decide +kernel
theorem dX8_init_38 : decode cX8_init 38 = .ok (.dup, 1) := by decide +kernel
theorem dX8_init_39 : decode cX8_init 39 = .ok (.invokespecial 29, 3) := by decide +kernel
theorem dX8_init_42 : decode cX8_init 42 = .ok (.putfield 30, 3) := by decide +kernel
theorem dX8_init_45 : decode cX8_init 45 = .ok (.aload_n 0, 1) := by decide +kernel
theorem dX8_init_46 : decode cX8_init 46 = .ok (.new 34, 3) := by decide +kernel
theorem dX8_init_49 : decode cX8_init 49 = .ok (.dup, 1) := by decide +kernel
theorem dX8_init_50 : decode cX8_init 50 = .ok (.invokespecial 36, 3) := by decide +kernel
theorem dX8_init_53 : decode cX8_init 53 = .ok (.putfield 37, 3) := by decide +kernel
theorem dX8_init_56 : decode cX8_init 56 = .ok (.aload_n 0, 1) := by decide +kernel
theorem dX8_init_57 : decode cX8_init 57 = .ok (.new 41, 3) := by decide +kernel
theorem dX8_init_60 : decode cX8_init 60 = .ok (.dup, 1) := by decide +kernel
theorem dX8_init_61 : decode cX8_init 61 = .ok (.invokespecial 43, 3) := by decide +kernel
theorem dX8_init_64 : decode cX8_init 64 = .ok (.putfield 44, 3) := by decide +kernel
theorem dX8_init_67 : decode cX8_init 67 = .ok (.return_, 1) := by decide +kernel
theorem dX8_append_0 : decode cX8_append 0 = .ok (.aload_n 0, 1) := by decide +kernel
theorem dX8_append_1 : decode cX8_append 1 = .ok (.getfield 13, 3) := by decide +kernel
theorem dX8_append_4 : decode cX8_append 4 = .ok (.sipush 780, 3) := by decide +kernel
theorem dX8_append_7 : decode cX8_append 7 = .ok (.if_icmp .le 5, 3) := by decide +kernel
theorem dX8_append_10 : decode cX8_append 10 = .ok (.iconst (-1), 1) := by decide +kernel
theorem dX8_append_11 : decode cX8_append 11 = .ok (.ireturn, 1) := by decide +kernel
theorem dX8_append_12 : decode cX8_append 12 = .ok (.aload_n 0, 1) := by decide +kernel
theorem dX8_append_13 : decode cX8_append 13 = .ok (.iload_n 1, 1) := by decide +kernel
theorem dX8_append_14 : decode cX8_append 14 = .ok (.invokevirtual 48, 3) := by decide +kernel
theorem dX8_append_17 : decode cX8_append 17 = .ok (.aload_n 0, 1) := by decide +kernel
theorem dX8_append_18 : decode cX8_append 18 = .ok (.iload_n 2, 1) := by decide +kernel
theorem dX8_append_19 : decode cX8_append 19 = .ok (.invokevirtual 48, 3) := by decide +kernel
theorem dX8_append_22 : decode cX8_append 22 = .ok (.aload_n 0, 1) := by decide +kernel
theorem dX8_append_23 : decode cX8_append 23 = .ok (.iload_n 3, 1) := by decide +kernel
theorem dX8_append_24 : decode cX8_append 24 = .ok (.invokevirtual 48, 3) := by decide +kernel
theorem dX8_append_27 : decode cX8_append 27 = .ok (.aload_n 0, 1) := by decide +kernel
theorem dX8_append_28 : decode cX8_append 28 = .ok (.iload 4, 2) := by decide +kernel
theorem dX8_append_30 : decode cX8_append 30 = .ok (.invokevirtual 48, 3) := by decide +kernel
theorem dX8_append_33 : decode cX8_append 33 = .ok (.aload_n 0, 1) := by decide +kernel
theorem dX8_append_34 : decode cX8_append 34 = .ok (.iload 5, 2) := by decide +kernel
theorem dX8_append_36 : decode cX8_append 36 = .ok (.invokevirtual 48, 3) := by decide +kernel
theorem dX8_append_39 : decode cX8_append 39 = .ok (.aload_n 0, 1) := by decide +kernel
theorem dX8_append_40 : decode cX8_append 40 = .ok (.getfield 13, 3) := by decide +kernel
theorem dX8_append_43 : decode cX8_append 43 = .ok (.ireturn, 1) := by decide +kernel
theorem dX8_load_0 : decode cX8_load 0 = .ok (.iload_n 1, 1) := by decide +kernel
theorem dX8_load_1 : decode cX8_load 1 = .ok (.ifCond .lt 11, 3) := by decide +kernel
theorem dX8_load_4 : decode cX8_load 4 = .ok (.iload_n 1, 1) := by decide +kernel
theorem dX8_load_5 : decode cX8_load 5 = .ok (.aload_n 0, 1) := by decide +kernel
theorem dX8_load_6 : decode cX8_load 6 = .ok (.getfield 13, 3) := by decide +kernel
theorem dX8_load_9 : decode cX8_load 9 = .ok (.if_icmp .le 13, 3) := by decide +kernel
theorem dX8_load_12 : decode cX8_load 12 = .ok (.new 52, 3) := by decide +kernel
theorem dX8_load_15 : decode cX8_load 15 = .ok (.dup, 1) := by decide +kernel
theorem dX8_load_16 : decode cX8_load 16 = .ok (.ldc 54, 2) := by decide +kernel
theorem dX8_load_18 : decode cX8_load 18 = .ok (.invokespecial 56, 3) := by decide +kernel
theorem dX8_load_21 : decode cX8_load 21 = .ok (.athrow, 1) := by decide +kernel
theorem dX8_load_22 : decode cX8_load 22 = .ok (.aload_n 0, 1) := by decide +kernel
theorem dX8_load_23 : decode cX8_load 23 = .ok (.getfield 23, 3) := by decide +kernel
theorem dX8_load_26 : decode cX8_load 26 = .ok (.aload_n 0, 1) := by decide +kernel
theorem dX8_load_27 : decode cX8_load 27 = .ok (.getfield 9, 3) := by decide +kernel
theorem dX8_load_30 : decode cX8_load 30 = .ok (.iload_n 1, 1) := by decide +kernel
theorem dX8_load_31 : decode cX8_load 31 = .ok (.aload_n 0, 1) := by decide +kernel
theorem dX8_load_32 : decode cX8_load 32 = .ok (.getfield 30, 3) := by decide +kernel
theorem dX8_load_35 : decode cX8_load 35 = .ok (.invokevirtual 59, 3) := by decide +kernel
theorem dX8_load_38 : decode cX8_load 38 = .ok (.istore_n 2, 1) := by decide +kernel
theorem dX8_load_39 : decode cX8_load 39 = .ok (.aload_n 0, 1) := by decide +kernel
theorem dX8_load_40 : decode cX8_load 40 = .ok (.iconst 0, 1) := by decide +kernel
theorem dX8_load_41 : decode cX8_load 41 = .ok (.putfield 13, 3) := by decide +kernel
theorem dX8_load_44 : decode cX8_load 44 = .ok (.aload_n 0, 1) := by decide +kernel
theorem dX8_load_45 : decode cX8_load 45 = .ok (.aload_n 0, 1) := by decide +kernel
theorem dX8_load_46 : decode cX8_load 46 = .ok (.getfield 23, 3) := by decide +kernel
theorem dX8_load_49 : decode cX8_load 49 = .ok (.getfield 63, 3) := by decide +kernel
theorem dX8_load_52 : decode cX8_load 52 = .ok (.putfield 17, 3) := by decide +kernel
theorem dX8_load_55 : decode cX8_load 55 = .ok (.iload_n 2, 1) := by decide +kernel
theorem dX8_load_56 : decode cX8_load 56 = .ok (.ifCond .ne 11, 3) := by decide +kernel
theorem dX8_load_59 : decode cX8_load 59 = .ok (.aload_n 0, 1) := by decide +kernel
theorem dX8_load_60 : decode cX8_load 60 = .ok (.getfield 23, 3) := by decide +kernel
theorem dX8_load_63 : decode cX8_load 63 = .ok (.getfield 66, 3) := by decide +kernel
theorem dX8_load_66 : decode cX8_load 66 = .ok (.ireturn, 1) := by decide +kernel
theorem dX8_load_67 : decode cX8_load 67 = .ok (.aload_n 0, 1) := by decide +kernel
theorem dX8_load_68 : decode cX8_load 68 = .ok (.getfield 37, 3) := by decide +kernel
theorem dX8_load_71 : decode cX8_load 71 = .ok (.invokevirtual 69, 3) := by decide +kernel
theorem dX8_load_74 : decode cX8_load 74 = .ok (.astore_n 3, 1) := by decide +kernel
theorem dX8_load_75 : decode cX8_load 75 = .ok (.aload_n 3, 1) := by decide +kernel
theorem dX8_load_76 : decode cX8_load 76 = .ok (.aload_n 0, 1) := by decide +kernel
theorem dX8_load_77 : decode cX8_load 77 = .ok (.getfield 30, 3) := by decide +kernel
theorem dX8_load_80 : decode cX8_load 80 = .ok (.invokevirtual 73, 3) := by decide +kernel
theorem dX8_load_83 : decode cX8_load 83 = .ok (.aload_n 3, 1) := by decide +kernel
theorem dX8_load_84 : decode cX8_load 84 = .ok (.getfield 77, 3) := by decide +kernel
theorem dX8_load_87 : decode cX8_load 87 = .ok (.ireturn, 1) := by decide +kernel
theorem dX8_errorOffset_0 : decode cX8_errorOffset 0 = .ok (.aload_n 0, 1) := by decide +kernel
theorem dX8_errorOffset_1 : decode cX8_errorOffset 1 = .ok (.getfield 17, 3) := by decide +kernel
theorem dX8_errorOffset_4 : decode cX8_errorOffset 4 = .ok (.ireturn, 1) := by decide +kernel
theorem dX8_breaks_0 : decode cX8_breaks 0 = .ok (.aload_n 0, 1) := by decide +kernel
theorem dX8_breaks_1 : decode cX8_breaks 1 = .ok (.getfield 37, 3) := by decide +kernel
theorem dX8_breaks_4 : decode cX8_breaks 4 = .ok (.invokevirtual 80, 3) := by decide +kernel
theorem dX8_breaks_7 : decode cX8_breaks 7 = .ok (.getfield 77, 3) := by decide +kernel
theorem dX8_breaks_10 : decode cX8_breaks 10 = .ok (.ireturn, 1) := by decide +kernel
theorem dX8_sponsors_0 : decode cX8_sponsors 0 = .ok (.aload_n 0, 1) := by decide +kernel
theorem dX8_sponsors_1 : decode cX8_sponsors 1 = .ok (.getfield 37, 3) := by decide +kernel
theorem dX8_sponsors_4 : decode cX8_sponsors 4 = .ok (.invokevirtual 80, 3) := by decide +kernel
theorem dX8_sponsors_7 : decode cX8_sponsors 7 = .ok (.getfield 83, 3) := by decide +kernel
theorem dX8_sponsors_10 : decode cX8_sponsors 10 = .ok (.ireturn, 1) := by decide +kernel
theorem dX8_breakOf_0 : decode cX8_breakOf 0 = .ok (.aload_n 0, 1) := by decide +kernel
theorem dX8_breakOf_1 : decode cX8_breakOf 1 = .ok (.getfield 37, 3) := by decide +kernel
theorem dX8_breakOf_4 : decode cX8_breakOf 4 = .ok (.invokevirtual 80, 3) := by decide +kernel
theorem dX8_breakOf_7 : decode cX8_breakOf 7 = .ok (.astore_n 3, 1) := by decide +kernel
theorem dX8_breakOf_8 : decode cX8_breakOf 8 = .ok (.aload_n 3, 1) := by decide +kernel
theorem dX8_breakOf_9 : decode cX8_breakOf 9 = .ok (.iload_n 1, 1) := by decide +kernel
theorem dX8_breakOf_10 : decode cX8_breakOf 10 = .ok (.invokestatic 86, 3) := by decide +kernel
theorem dX8_breakOf_13 : decode cX8_breakOf 13 = .ok (.iload_n 2, 1) := by decide +kernel
theorem dX8_breakOf_14 : decode cX8_breakOf 14 = .ok (.iconst 0, 1) := by decide +kernel
theorem dX8_breakOf_15 : decode cX8_breakOf 15 = .ok (.bipush 6, 2) := by decide +kernel
theorem dX8_breakOf_17 : decode cX8_breakOf 17 = .ok (.invokestatic 90, 3) := by decide +kernel
theorem dX8_breakOf_20 : decode cX8_breakOf 20 = .ok (.aload_n 3, 1) := by decide +kernel
theorem dX8_breakOf_21 : decode cX8_breakOf 21 = .ok (.getfield 94, 3) := by decide +kernel
theorem dX8_breakOf_24 : decode cX8_breakOf 24 = .ok (.iload_n 1, 1) := by decide +kernel
theorem dX8_breakOf_25 : decode cX8_breakOf 25 = .ok (.aaload, 1) := by decide +kernel
theorem dX8_breakOf_26 : decode cX8_breakOf 26 = .ok (.astore 4, 2) := by decide +kernel
theorem dX8_breakOf_28 : decode cX8_breakOf 28 = .ok (.iload_n 2, 1) := by decide +kernel
theorem dX8_breakOf_29 : decode cX8_breakOf 29 = .ok (.tableswitch 78 0 5 #[39, 45, 51, 57, 63, 69], 39) := by decide +kernel
theorem dX8_breakOf_68 : decode cX8_breakOf 68 = .ok (.aload 4, 2) := by decide +kernel
theorem dX8_breakOf_70 : decode cX8_breakOf 70 = .ok (.getfield 98, 3) := by decide +kernel
theorem dX8_breakOf_73 : decode cX8_breakOf 73 = .ok (.ireturn, 1) := by decide +kernel
theorem dX8_breakOf_74 : decode cX8_breakOf 74 = .ok (.aload 4, 2) := by decide +kernel
theorem dX8_breakOf_76 : decode cX8_breakOf 76 = .ok (.getfield 103, 3) := by decide +kernel
theorem dX8_breakOf_79 : decode cX8_breakOf 79 = .ok (.ireturn, 1) := by decide +kernel
theorem dX8_breakOf_80 : decode cX8_breakOf 80 = .ok (.aload 4, 2) := by decide +kernel
theorem dX8_breakOf_82 : decode cX8_breakOf 82 = .ok (.getfield 106, 3) := by decide +kernel
theorem dX8_breakOf_85 : decode cX8_breakOf 85 = .ok (.ireturn, 1) := by decide +kernel
theorem dX8_breakOf_86 : decode cX8_breakOf 86 = .ok (.aload 4, 2) := by decide +kernel
theorem dX8_breakOf_88 : decode cX8_breakOf 88 = .ok (.getfield 108, 3) := by decide +kernel
