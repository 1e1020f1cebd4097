theorem dX0_init_0 : decode cX0_init 0 = .ok (.aload_n 0, 1) := by decide +kernel
theorem dX0_init_1 : decode cX0_init 1 = .ok (.invokespecial 3, 3) := by decide +kernel
theorem dX0_init_4 : decode cX0_init 4 = .ok (.aload_n 0, 1) := by decide +kernel
theorem dX0_init_5 : decode cX0_init 5 = .ok (.new 9, 3) := by decide +kernel
theorem dX0_init_8 : decode cX0_init 8 = .ok (.dup, 1) := by decide +kernel
theorem dX0_init_9 : decode cX0_init 9 = .ok (.bipush 8, 2) := by decide +kernel
theorem dX0_init_11 : decode cX0_init 11 = .ok (.invokespecial 11, 3) := by decide +kernel
theorem dX0_init_14 : decode cX0_init 14 = .ok (.putfield 14, 3) := by decide +kernel
theorem dX0_init_17 : decode cX0_init 17 = .ok (.return_, 1) := by decide +kernel
theorem dX0_setUp_0 : decode cX0_setUp 0 = .ok (.aload_n 0, 1) := by decide +kernel
theorem dX0_setUp_1 : decode cX0_setUp 1 = .ok (.iload_n 1, 1) := by decide +kernel
theorem dX0_setUp_2 : decode cX0_setUp 2 = .ok (.putfield 20, 3) := by decide +kernel
theorem dX0_setUp_5 : decode cX0_setUp 5 = .ok (.aload_n 0, 1) := by decide +kernel
theorem dX0_setUp_6 : decode cX0_setUp 6 = .ok (.iload_n 2, 1) := by decide +kernel
theorem dX0_setUp_7 : decode cX0_setUp 7 = .ok (.putfield 24, 3) := by decide +kernel
theorem dX0_setUp_10 : decode cX0_setUp 10 = .ok (.aload_n 0, 1) := by decide +kernel
theorem dX0_setUp_11 : decode cX0_setUp 11 = .ok (.iload_n 3, 1) := by decide +kernel
theorem dX0_setUp_12 : decode cX0_setUp 12 = .ok (.putfield 27, 3) := by decide +kernel
theorem dX0_setUp_15 : decode cX0_setUp 15 = .ok (.aload_n 0, 1) := by decide +kernel
theorem dX0_setUp_16 : decode cX0_setUp 16 = .ok (.iload 4, 2) := by decide +kernel
theorem dX0_setUp_18 : decode cX0_setUp 18 = .ok (.putfield 30, 3) := by decide +kernel
theorem dX0_setUp_21 : decode cX0_setUp 21 = .ok (.aload_n 0, 1) := by decide +kernel
theorem dX0_setUp_22 : decode cX0_setUp 22 = .ok (.iconst 0, 1) := by decide +kernel
theorem dX0_setUp_23 : decode cX0_setUp 23 = .ok (.putfield 33, 3) := by decide +kernel
theorem dX0_setUp_26 : decode cX0_setUp 26 = .ok (.aload_n 0, 1) := by decide +kernel
theorem dX0_setUp_27 : decode cX0_setUp 27 = .ok (.getfield 14, 3) := by decide +kernel
theorem dX0_setUp_30 : decode cX0_setUp 30 = .ok (.iconst 0, 1) := by decide +kernel
theorem dX0_setUp_31 : decode cX0_setUp 31 = .ok (.putfield 36, 3) := by decide +kernel
theorem dX0_setUp_34 : decode cX0_setUp 34 = .ok (.return_, 1) := by decide +kernel
theorem dX0_copyFrom_0 : decode cX0_copyFrom 0 = .ok (.aload_n 0, 1) := by decide +kernel
theorem dX0_copyFrom_1 : decode cX0_copyFrom 1 = .ok (.aload_n 1, 1) := by decide +kernel
theorem dX0_copyFrom_2 : decode cX0_copyFrom 2 = .ok (.getfield 20, 3) := by decide +kernel
theorem dX0_copyFrom_5 : decode cX0_copyFrom 5 = .ok (.putfield 20, 3) := by decide +kernel
theorem dX0_copyFrom_8 : decode cX0_copyFrom 8 = .ok (.aload_n 0, 1) := by decide +kernel
theorem dX0_copyFrom_9 : decode cX0_copyFrom 9 = .ok (.aload_n 1, 1) := by decide +kernel
theorem dX0_copyFrom_10 : decode cX0_copyFrom 10 = .ok (.getfield 24, 3) := by decide +kernel
theorem dX0_copyFrom_13 : decode cX0_copyFrom 13 = .ok (.putfield 24, 3) := by decide +kernel
theorem dX0_copyFrom_16 : decode cX0_copyFrom 16 = .ok (.aload_n 0, 1) := by decide +kernel
theorem dX0_copyFrom_17 : decode cX0_copyFrom 17 = .ok (.aload_n 1, 1) := by decide +kernel
theorem dX0_copyFrom_18 : decode cX0_copyFrom 18 = .ok (.getfield 27, 3) := by decide +kernel
theorem dX0_copyFrom_21 : decode cX0_copyFrom 21 = .ok (.putfield 27, 3) := by decide +kernel
theorem dX0_copyFrom_24 : decode cX0_copyFrom 24 = .ok (.aload_n 0, 1) := by decide +kernel
theorem dX0_copyFrom_25 : decode cX0_copyFrom 25 = .ok (.aload_n 1, 1) := by decide +kernel
theorem dX0_copyFrom_26 : decode cX0_copyFrom 26 = .ok (.getfield 30, 3) := by decide +kernel
theorem dX0_copyFrom_29 : decode cX0_copyFrom 29 = .ok (.putfield 30, 3) := by decide +kernel
theorem dX0_copyFrom_32 : decode cX0_copyFrom 32 = .ok (.aload_n 0, 1) := by decide +kernel
theorem dX0_copyFrom_33 : decode cX0_copyFrom 33 = .ok (.aload_n 1, 1) := by decide +kernel
theorem dX0_copyFrom_34 : decode cX0_copyFrom 34 = .ok (.getfield 33, 3) := by decide +kernel
theorem dX0_copyFrom_37 : decode cX0_copyFrom 37 = .ok (.putfield 33, 3) := by decide +kernel
theorem dX0_copyFrom_40 : decode cX0_copyFrom 40 = .ok (.aload_n 0, 1) := by decide +kernel
theorem dX0_copyFrom_41 : decode cX0_copyFrom 41 = .ok (.getfield 14, 3) := by decide +kernel
theorem dX0_copyFrom_44 : decode cX0_copyFrom 44 = .ok (.aload_n 1, 1) := by decide +kernel
theorem dX0_copyFrom_45 : decode cX0_copyFrom 45 = .ok (.getfield 14, 3) := by decide +kernel
theorem dX0_copyFrom_48 : decode cX0_copyFrom 48 = .ok (.invokevirtual 39, 3) := by decide +kernel
theorem dX0_copyFrom_51 : decode cX0_copyFrom 51 = .ok (.return_, 1) := by decide +kernel
theorem dX0_isLaterThan_0 : decode cX0_isLaterThan 0 = .ok (.aload_n 0, 1) := by decide +kernel
theorem dX0_isLaterThan_1 : decode cX0_isLaterThan 1 = .ok (.getfield 20, 3) := by decide +kernel
theorem dX0_isLaterThan_4 : decode cX0_isLaterThan 4 = .ok (.iload_n 1, 1) := by decide +kernel
theorem dX0_isLaterThan_5 : decode cX0_isLaterThan 5 = .ok (.if_icmp .gt 19, 3) := by decide +kernel
theorem dX0_isLaterThan_8 : decode cX0_isLaterThan 8 = .ok (.aload_n 0, 1) := by decide +kernel
theorem dX0_isLaterThan_9 : decode cX0_isLaterThan 9 = .ok (.getfield 20, 3) := by decide +kernel
theorem dX0_isLaterThan_12 : decode cX0_isLaterThan 12 = .ok (.iload_n 1, 1) := by decide +kernel
theorem dX0_isLaterThan_13 : decode cX0_isLaterThan 13 = .ok (.if_icmp .ne 15, 3) := by decide +kernel
theorem dX0_isLaterThan_16 : decode cX0_isLaterThan 16 = .ok (.aload_n 0, 1) := by decide +kernel
theorem dX0_isLaterThan_17 : decode cX0_isLaterThan 17 = .ok (.getfield 24, 3) := by decide +kernel
theorem dX0_isLaterThan_20 : decode cX0_isLaterThan 20 = .ok (.iload_n 2, 1) := by decide +kernel
theorem dX0_isLaterThan_21 : decode cX0_isLaterThan 21 = .ok (.if_icmp .le 7, 3) := by decide +kernel
theorem dX0_isLaterThan_24 : decode cX0_isLaterThan 24 = .ok (.iconst 1, 1) := by decide +kernel
theorem dX0_isLaterThan_25 : decode cX0_isLaterThan 25 = .ok (.goto 4, 3) := by decide +kernel
theorem dX0_isLaterThan_28 : decode cX0_isLaterThan 28 = .ok (.iconst 0, 1) := by decide +kernel
theorem dX0_isLaterThan_29 : decode cX0_isLaterThan 29 = .ok (.ireturn, 1) := by decide +kernel
theorem dX1_init_0 : decode cX1_init 0 = .ok (.aload_n 0, 1) := by decide +kernel
theorem dX1_init_1 : decode cX1_init 1 = .ok (.invokespecial 3, 3) := by decide +kernel
theorem dX1_init_4 : decode cX1_init 4 = .ok (.aload_n 0, 1) := by decide +kernel
theorem dX1_init_5 : decode cX1_init 5 = .ok (.bipush 8, 2) := by decide +kernel
theorem dX1_init_7 : decode cX1_init 7 = .ok (.newarray .int, 2) := by decide +kernel
theorem dX1_init_9 : decode cX1_init 9 = .ok (.putfield 9, 3) := by decide +kernel
theorem dX1_init_12 : decode cX1_init 12 = .ok (.aload_n 0, 1) := by decide +kernel
theorem dX1_init_13 : decode cX1_init 13 = .ok (.sipush 256, 3) := by decide +kernel
theorem dX1_init_16 : decode cX1_init 16 = .ok (.bipush 8, 2) := by decide +kernel
theorem dX1_init_18 : decode cX1_init 18 = .ok (.multianewarray 15 2, 4) := by decide +kernel
theorem dX1_init_22 : decode cX1_init 22 = .ok (.putfield 17, 3) := by decide +kernel
theorem dX1_init_25 : decode cX1_init 25 = .ok (.aload_n 0, 1) := by decide +kernel
theorem dX1_init_26 : decode cX1_init 26 = .ok (.bipush 8, 2) := by decide +kernel
theorem dX1_init_28 : decode cX1_init 28 = .ok (.newarray .int, 2) := by decide +kernel
theorem dX1_init_30 : decode cX1_init 30 = .ok (.putfield 20, 3) := by decide +kernel
theorem dX1_init_33 : decode cX1_init 33 = .ok (.return_, 1) := by decide +kernel
theorem dX1_countOrders_0 : decode cX1_countOrders 0 = .ok (.iload_n 2, 1) := by decide +kernel
theorem dX1_countOrders_1 : decode cX1_countOrders 1 = .ok (.ifCond .ne 5, 3) := by decide +kernel
theorem dX1_countOrders_4 : decode cX1_countOrders 4 = .ok (.iconst 1, 1) := by decide +kernel
theorem dX1_countOrders_5 : decode cX1_countOrders 5 = .ok (.ireturn, 1) := by decide +kernel
theorem dX1_countOrders_6 : decode cX1_countOrders 6 = .ok (.aload_n 0, 1) := by decide +kernel
theorem dX1_countOrders_7 : decode cX1_countOrders 7 = .ok (.aload_n 1, 1) := by decide +kernel
theorem dX1_countOrders_8 : decode cX1_countOrders 8 = .ok (.iload_n 2, 1) := by decide +kernel
theorem dX1_countOrders_9 : decode cX1_countOrders 9 = .ok (.invokevirtual 23, 3) := by decide +kernel
theorem dX1_countOrders_12 : decode cX1_countOrders 12 = .ok (.aload_n 0, 1) := by decide +kernel
theorem dX1_countOrders_13 : decode cX1_countOrders 13 = .ok (.iload_n 2, 1) := by decide +kernel
theorem dX1_countOrders_14 : decode cX1_countOrders 14 = .ok (.iload_n 2, 1) := by decide +kernel
theorem dX1_countOrders_15 : decode cX1_countOrders 15 = .ok (.invokevirtual 27, 3) := by decide +kernel
theorem dX1_countOrders_18 : decode cX1_countOrders 18 = .ok (.ireturn, 1) := by decide +kernel
theorem dX1_findFirst_0 : decode cX1_findFirst 0 = .ok (.aload_n 0, 1) := by decide +kernel
theorem dX1_findFirst_1 : decode cX1_findFirst 1 = .ok (.aload_n 1, 1) := by decide +kernel
theorem dX1_findFirst_2 : decode cX1_findFirst 2 = .ok (.iload_n 2, 1) := by decide +kernel
theorem dX1_findFirst_3 : decode cX1_findFirst 3 = .ok (.invokevirtual 23, 3) := by decide +kernel
theorem dX1_findFirst_6 : decode cX1_findFirst 6 = .ok (.iload_n 2, 1) := by decide +kernel
theorem dX1_findFirst_7 : decode cX1_findFirst 7 = .ok (.istore_n 3, 1) := by decide +kernel
theorem dX1_findFirst_8 : decode cX1_findFirst 8 = .ok (.iload_n 2, 1) := by decide +kernel
theorem dX1_findFirst_9 : decode cX1_findFirst 9 = .ok (.istore 4, 2) := by decide +kernel
theorem dX1_findFirst_11 : decode cX1_findFirst 11 = .ok (.iconst 0, 1) := by decide +kernel
theorem dX1_findFirst_12 : decode cX1_findFirst 12 = .ok (.istore 5, 2) := by decide +kernel
theorem dX1_findFirst_14 : decode cX1_findFirst 14 = .ok (.iload 5, 2) := by decide +kernel
theorem dX1_findFirst_16 : decode cX1_findFirst 16 = .ok (.bipush 8, 2) := by decide +kernel
theorem dX1_findFirst_18 : decode cX1_findFirst 18 = .ok (.if_icmp .ge 58, 3) := by decide +kernel
theorem dX1_findFirst_21 : decode cX1_findFirst 21 = .ok (.iload_n 3, 1) := by decide +kernel
theorem dX1_findFirst_22 : decode cX1_findFirst 22 = .ok (.ifCond .eq 54, 3) := by decide +kernel
theorem dX1_findFirst_25 : decode cX1_findFirst 25 = .ok (.aload_n 0, 1) := by decide +kernel
theorem dX1_findFirst_26 : decode cX1_findFirst 26 = .ok (.iload_n 3, 1) := by decide +kernel
theorem dX1_findFirst_27 : decode cX1_findFirst 27 = .ok (.iload 4, 2) := by decide +kernel
theorem dX1_findFirst_29 : decode cX1_findFirst 29 = .ok (.invokevirtual 31, 3) := by decide +kernel
theorem dX1_findFirst_32 : decode cX1_findFirst 32 = .ok (.istore 6, 2) := by decide +kernel
theorem dX1_findFirst_34 : decode cX1_findFirst 34 = .ok (.iload 6, 2) := by decide +kernel
theorem dX1_findFirst_36 : decode cX1_findFirst 36 = .ok (.ifCond .ge 5, 3) := by decide +kernel
theorem dX1_findFirst_39 : decode cX1_findFirst 39 = .ok (.iconst 0, 1) := by decide +kernel
theorem dX1_findFirst_40 : decode cX1_findFirst 40 = .ok (.ireturn, 1) := by decide +kernel
theorem dX1_findFirst_41 : decode cX1_findFirst 41 = .ok (.aload_n 0, 1) := by decide +kernel
theorem dX1_findFirst_42 : decode cX1_findFirst 42 = .ok (.getfield 20, 3) := by decide +kernel
theorem dX1_findFirst_45 : decode cX1_findFirst 45 = .ok (.iload 5, 2) := by decide +kernel
theorem dX1_findFirst_47 : decode cX1_findFirst 47 = .ok (.iload 6, 2) := by decide +kernel
theorem dX1_findFirst_49 : decode cX1_findFirst 49 = .ok (.iastore, 1) := by decide +kernel
theorem dX1_findFirst_50 : decode cX1_findFirst 50 = .ok (.iload_n 3, 1) := by decide +kernel
theorem dX1_findFirst_51 : decode cX1_findFirst 51 = .ok (.iconst 1, 1) := by decide +kernel
theorem dX1_findFirst_52 : decode cX1_findFirst 52 = .ok (.iload 6, 2) := by decide +kernel
theorem dX1_findFirst_54 : decode cX1_findFirst 54 = .ok (.ishl, 1) := by decide +kernel
theorem dX1_findFirst_55 : decode cX1_findFirst 55 = .ok (.iconst (-1), 1) := by decide +kernel
theorem dX1_findFirst_56 : decode cX1_findFirst 56 = .ok (.ixor, 1) := by decide +kernel
theorem dX1_findFirst_57 : decode cX1_findFirst 57 = .ok (.iand, 1) := by decide +kernel
theorem dX1_findFirst_58 : decode cX1_findFirst 58 = .ok (.istore_n 3, 1) := by decide +kernel
theorem dX1_findFirst_59 : decode cX1_findFirst 59 = .ok (.iload_n 3, 1) := by decide +kernel
theorem dX1_findFirst_60 : decode cX1_findFirst 60 = .ok (.aload_n 0, 1) := by decide +kernel
theorem dX1_findFirst_61 : decode cX1_findFirst 61 = .ok (.getfield 9, 3) := by decide +kernel
theorem dX1_findFirst_64 : decode cX1_findFirst 64 = .ok (.iload 6, 2) := by decide +kernel
theorem dX1_findFirst_66 : decode cX1_findFirst 66 = .ok (.iaload, 1) := by decide +kernel
theorem dX1_findFirst_67 : decode cX1_findFirst 67 = .ok (.iand, 1) := by decide +kernel
theorem dX1_findFirst_68 : decode cX1_findFirst 68 = .ok (.istore 4, 2) := by decide +kernel
theorem dX1_findFirst_70 : decode cX1_findFirst 70 = .ok (.iinc 5 1, 3) := by decide +kernel
theorem dX1_findFirst_73 : decode cX1_findFirst 73 = .ok (.goto (-59), 3) := by decide +kernel
theorem dX1_findFirst_76 : decode cX1_findFirst 76 = .ok (.iconst 1, 1) := by decide +kernel
theorem dX1_findFirst_77 : decode cX1_findFirst 77 = .ok (.ireturn, 1) := by decide +kernel
theorem dX1_countBeginnings_0 : decode cX1_countBeginnings 0 = .ok (.aload_n 0, 1) := by decide +kernel
theorem dX1_countBeginnings_1 : decode cX1_countBeginnings 1 = .ok (.aload_n 1, 1) := by decide +kernel
theorem dX1_countBeginnings_2 : decode cX1_countBeginnings 2 = .ok (.invokevirtual 34, 3) := by decide +kernel
theorem dX1_countBeginnings_5 : decode cX1_countBeginnings 5 = .ok (.iconst 1, 1) := by decide +kernel
theorem dX1_countBeginnings_6 : decode cX1_countBeginnings 6 = .ok (.istore_n 3, 1) := by decide +kernel
theorem dX1_countBeginnings_7 : decode cX1_countBeginnings 7 = .ok (.iload_n 3, 1) := by decide +kernel
theorem dX1_countBeginnings_8 : decode cX1_countBeginnings 8 = .ok (.aload_n 0, 1) := by decide +kernel
theorem dX1_countBeginnings_9 : decode cX1_countBeginnings 9 = .ok (.getfield 17, 3) := by decide +kernel
theorem dX1_countBeginnings_12 : decode cX1_countBeginnings 12 = .ok (.arraylength, 1) := by decide +kernel
theorem dX1_countBeginnings_13 : decode cX1_countBeginnings 13 = .ok (.if_icmp .ge 27, 3) := by decide +kernel
theorem dX1_countBeginnings_16 : decode cX1_countBeginnings 16 = .ok (.iload_n 3, 1) := by decide +kernel
theorem dX1_countBeginnings_17 : decode cX1_countBeginnings 17 = .ok (.iload_n 2, 1) := by decide +kernel
theorem dX1_countBeginnings_18 : decode cX1_countBeginnings 18 = .ok (.if_icmp .gt 22, 3) := by decide +kernel
theorem dX1_countBeginnings_21 : decode cX1_countBeginnings 21 = .ok (.iload_n 3, 1) := by decide +kernel
theorem dX1_countBeginnings_22 : decode cX1_countBeginnings 22 = .ok (.iload_n 2, 1) := by decide +kernel
theorem dX1_countBeginnings_23 : decode cX1_countBeginnings 23 = .ok (.iconst (-1), 1) := by decide +kernel
theorem dX1_countBeginnings_24 : decode cX1_countBeginnings 24 = .ok (.ixor, 1) := by decide +kernel
theorem dX1_countBeginnings_25 : decode cX1_countBeginnings 25 = .ok (.iand, 1) := by decide +kernel
theorem dX1_countBeginnings_26 : decode cX1_countBeginnings 26 = .ok (.ifCond .ne 8, 3) := by decide +kernel
theorem dX1_countBeginnings_29 : decode cX1_countBeginnings 29 = .ok (.aload_n 0, 1) := by decide +kernel
theorem dX1_countBeginnings_30 : decode cX1_countBeginnings 30 = .ok (.iload_n 3, 1) := by decide +kernel
theorem dX1_countBeginnings_31 : decode cX1_countBeginnings 31 = .ok (.invokevirtual 38, 3) := by decide +kernel
theorem dX1_countBeginnings_34 : decode cX1_countBeginnings 34 = .ok (.iinc 3 1, 3) := by decide +kernel
theorem dX1_countBeginnings_37 : decode cX1_countBeginnings 37 = .ok (.goto (-30), 3) := by decide +kernel
theorem dX1_countBeginnings_40 : decode cX1_countBeginnings 40 = .ok (.return_, 1) := by decide +kernel
theorem dX1_findFriends_0 : decode cX1_findFriends 0 = .ok (.iconst 0, 1) := by decide +kernel
theorem dX1_findFriends_1 : decode cX1_findFriends 1 = .ok (.istore_n 2, 1) := by decide +kernel
theorem dX1_findFriends_2 : decode cX1_findFriends 2 = .ok (.iload_n 2, 1) := by decide +kernel
theorem dX1_findFriends_3 : decode cX1_findFriends 3 = .ok (.aload_n 1, 1) := by decide +kernel
theorem dX1_findFriends_4 : decode cX1_findFriends 4 = .ok (.getfield 42, 3) := by decide +kernel
theorem dX1_findFriends_7 : decode cX1_findFriends 7 = .ok (.if_icmp .ge 53, 3) := by decide +kernel
theorem dX1_findFriends_10 : decode cX1_findFriends 10 = .ok (.aload_n 0, 1) := by decide +kernel
theorem dX1_findFriends_11 : decode cX1_findFriends 11 = .ok (.getfield 9, 3) := by decide +kernel
theorem dX1_findFriends_14 : decode cX1_findFriends 14 = .ok (.iload_n 2, 1) := by decide +kernel
theorem dX1_findFriends_15 : decode cX1_findFriends 15 = .ok (.iconst 0, 1) := by decide +kernel
theorem dX1_findFriends_16 : decode cX1_findFriends 16 = .ok (.iastore, 1) := by decide +kernel
theorem dX1_findFriends_17 : decode cX1_findFriends 17 = .ok (.iconst 0, 1) := by decide +kernel
theorem dX1_findFriends_18 : decode cX1_findFriends 18 = .ok (.istore_n 3, 1) := by decide +kernel
theorem dX1_findFriends_19 : decode cX1_findFriends 19 = .ok (.iload_n 3, 1) := by decide +kernel
theorem dX1_findFriends_20 : decode cX1_findFriends 20 = .ok (.aload_n 1, 1) := by decide +kernel
theorem dX1_findFriends_21 : decode cX1_findFriends 21 = .ok (.getfield 42, 3) := by decide +kernel
theorem dX1_findFriends_24 : decode cX1_findFriends 24 = .ok (.if_icmp .ge 30, 3) := by decide +kernel
theorem dX1_findFriends_27 : decode cX1_findFriends 27 = .ok (.aload_n 1, 1) := by decide +kernel
theorem dX1_findFriends_28 : decode cX1_findFriends 28 = .ok (.iload_n 2, 1) := by decide +kernel
theorem dX1_findFriends_29 : decode cX1_findFriends 29 = .ok (.iload_n 3, 1) := by decide +kernel
theorem dX1_findFriends_30 : decode cX1_findFriends 30 = .ok (.invokevirtual 48, 3) := by decide +kernel
theorem dX1_findFriends_33 : decode cX1_findFriends 33 = .ok (.ifCond .ne 15, 3) := by decide +kernel
theorem dX1_findFriends_36 : decode cX1_findFriends 36 = .ok (.aload_n 0, 1) := by decide +kernel
theorem dX1_findFriends_37 : decode cX1_findFriends 37 = .ok (.getfield 9, 3) := by decide +kernel
theorem dX1_findFriends_40 : decode cX1_findFriends 40 = .ok (.iload_n 2, 1) := by decide +kernel
theorem dX1_findFriends_41 : decode cX1_findFriends 41 = .ok (.dup2, 1) := by decide +kernel
theorem dX1_findFriends_42 : decode cX1_findFriends 42 = .ok (.iaload, 1) := by decide +kernel
theorem dX1_findFriends_43 : decode cX1_findFriends 43 = .ok (.iconst 1, 1) := by decide +kernel
theorem dX1_findFriends_44 : decode cX1_findFriends 44 = .ok (.iload_n 3, 1) := by decide +kernel
theorem dX1_findFriends_45 : decode cX1_findFriends 45 = .ok (.ishl, 1) := by decide +kernel
theorem dX1_findFriends_46 : decode cX1_findFriends 46 = .ok (.ior, 1) := by decide +kernel
theorem dX1_findFriends_47 : decode cX1_findFriends 47 = .ok (.iastore, 1) := by decide +kernel
theorem dX1_findFriends_48 : decode cX1_findFriends 48 = .ok (.iinc 3 1, 3) := by decide +kernel
theorem dX1_findFriends_51 : decode cX1_findFriends 51 = .ok (.goto (-32), 3) := by decide +kernel
theorem dX1_findFriends_54 : decode cX1_findFriends 54 = .ok (.iinc 2 1, 3) := by decide +kernel
theorem dX1_findFriends_57 : decode cX1_findFriends 57 = .ok (.goto (-55), 3) := by decide +kernel
theorem dX1_findFriends_60 : decode cX1_findFriends 60 = .ok (.return_, 1) := by decide +kernel
theorem dX1_countBeginningsOf_0 : decode cX1_countBeginningsOf 0 = .ok (.iconst 0, 1) := by decide +kernel
theorem dX1_countBeginningsOf_1 : decode cX1_countBeginningsOf 1 = .ok (.istore_n 2, 1) := by decide +kernel
theorem dX1_countBeginningsOf_2 : decode cX1_countBeginningsOf 2 = .ok (.iload_n 2, 1) := by decide +kernel
theorem dX1_countBeginningsOf_3 : decode cX1_countBeginningsOf 3 = .ok (.bipush 8, 2) := by decide +kernel
theorem dX1_countBeginningsOf_5 : decode cX1_countBeginningsOf 5 = .ok (.if_icmp .ge 59, 3) := by decide +kernel
theorem dX1_countBeginningsOf_8 : decode cX1_countBeginningsOf 8 = .ok (.iload_n 1, 1) := by decide +kernel
theorem dX1_countBeginningsOf_9 : decode cX1_countBeginningsOf 9 = .ok (.iconst 1, 1) := by decide +kernel
theorem dX1_countBeginningsOf_10 : decode cX1_countBeginningsOf 10 = .ok (.iload_n 2, 1) := by decide +kernel
theorem dX1_countBeginningsOf_11 : decode cX1_countBeginningsOf 11 = .ok (.ishl, 1) := by decide +kernel
theorem dX1_countBeginningsOf_12 : decode cX1_countBeginningsOf 12 = .ok (.iconst (-1), 1) := by decide +kernel
theorem dX1_countBeginningsOf_13 : decode cX1_countBeginningsOf 13 = .ok (.ixor, 1) := by decide +kernel
theorem dX1_countBeginningsOf_14 : decode cX1_countBeginningsOf 14 = .ok (.iand, 1) := by decide +kernel
theorem dX1_countBeginningsOf_15 : decode cX1_countBeginningsOf 15 = .ok (.istore_n 3, 1) := by decide +kernel
theorem dX1_countBeginningsOf_16 : decode cX1_countBeginningsOf 16 = .ok (.iload_n 3, 1) := by decide +kernel
theorem dX1_countBeginningsOf_17 : decode cX1_countBeginningsOf 17 = .ok (.ifCond .ne 15, 3) := by decide +kernel
theorem dX1_countBeginningsOf_20 : decode cX1_countBeginningsOf 20 = .ok (.aload_n 0, 1) := by decide +kernel
theorem dX1_countBeginningsOf_21 : decode cX1_countBeginningsOf 21 = .ok (.getfield 17, 3) := by decide +kernel
theorem dX1_countBeginningsOf_24 : decode cX1_countBeginningsOf 24 = .ok (.iload_n 1, 1) := by decide +kernel
theorem dX1_countBeginningsOf_25 : decode cX1_countBeginningsOf 25 = .ok (.aaload, 1) := by decide +kernel
theorem dX1_countBeginningsOf_26 : decode cX1_countBeginningsOf 26 = .ok (.iload_n 2, 1) := by decide +kernel
theorem dX1_countBeginningsOf_27 : decode cX1_countBeginningsOf 27 = .ok (.iconst 1, 1) := by decide +kernel
theorem dX1_countBeginningsOf_28 : decode cX1_countBeginningsOf 28 = .ok (.iastore, 1) := by decide +kernel
theorem dX1_countBeginningsOf_29 : decode cX1_countBeginningsOf 29 = .ok (.goto 29, 3) := by decide +kernel
theorem dX1_countBeginningsOf_32 : decode cX1_countBeginningsOf 32 = .ok (.iload_n 3, 1) := by decide +kernel
theorem dX1_countBeginningsOf_33 : decode cX1_countBeginningsOf 33 = .ok (.iload_n 1, 1) := by decide +kernel
theorem dX1_countBeginningsOf_34 : decode cX1_countBeginningsOf 34 = .ok (.if_icmp .eq 24, 3) := by decide +kernel
theorem dX1_countBeginningsOf_37 : decode cX1_countBeginningsOf 37 = .ok (.aload_n 0, 1) := by decide +kernel
theorem dX1_countBeginningsOf_38 : decode cX1_countBeginningsOf 38 = .ok (.getfield 17, 3) := by decide +kernel
theorem dX1_countBeginningsOf_41 : decode cX1_countBeginningsOf 41 = .ok (.iload_n 1, 1) := by decide +kernel
theorem dX1_countBeginningsOf_42 : decode cX1_countBeginningsOf 42 = .ok (.aaload, 1) := by decide +kernel
theorem dX1_countBeginningsOf_43 : decode cX1_countBeginningsOf 43 = .ok (.iload_n 2, 1) := by decide +kernel
theorem dX1_countBeginningsOf_44 : decode cX1_countBeginningsOf 44 = .ok (.aload_n 0, 1) := by decide +kernel
theorem dX1_countBeginningsOf_45 : decode cX1_countBeginningsOf 45 = .ok (.iload_n 3, 1) := by decide +kernel
theorem dX1_countBeginningsOf_46 : decode cX1_countBeginningsOf 46 = .ok (.iload_n 3, 1) := by decide +kernel
theorem dX1_countBeginningsOf_47 : decode cX1_countBeginningsOf 47 = .ok (.aload_n 0, 1) := by decide +kernel
theorem dX1_countBeginningsOf_48 : decode cX1_countBeginningsOf 48 = .ok (.getfield 9, 3) := by decide +kernel
theorem dX1_countBeginningsOf_51 : decode cX1_countBeginningsOf 51 = .ok (.iload_n 2, 1) := by decide +kernel
theorem dX1_countBeginningsOf_52 : decode cX1_countBeginningsOf 52 = .ok (.iaload, 1) := by decide +kernel
theorem dX1_countBeginningsOf_53 : decode cX1_countBeginningsOf 53 = .ok (.iand, 1) := by decide +kernel
theorem dX1_countBeginningsOf_54 : decode cX1_countBeginningsOf 54 = .ok (.invokevirtual 27, 3) := by decide +kernel
theorem dX1_countBeginningsOf_57 : decode cX1_countBeginningsOf 57 = .ok (.iastore, 1) := by decide +kernel
theorem dX1_countBeginningsOf_58 : decode cX1_countBeginningsOf 58 = .ok (.iinc 2 1, 3) := by decide +kernel
theorem dX1_countBeginningsOf_61 : decode cX1_countBeginningsOf 61 = .ok (.goto (-59), 3) := by decide +kernel
theorem dX1_countBeginningsOf_64 : decode cX1_countBeginningsOf 64 = .ok (.return_, 1) := by decide +kernel
theorem dX1_sumOver_0 : decode cX1_sumOver 0 = .ok (.iconst 0, 1) := by decide +kernel
theorem dX1_sumOver_1 : decode cX1_sumOver 1 = .ok (.istore_n 3, 1) := by decide +kernel
theorem dX1_sumOver_2 : decode cX1_sumOver 2 = .ok (.iconst 0, 1) := by decide +kernel
theorem dX1_sumOver_3 : decode cX1_sumOver 3 = .ok (.istore 4, 2) := by decide +kernel
theorem dX1_sumOver_5 : decode cX1_sumOver 5 = .ok (.iload 4, 2) := by decide +kernel
theorem dX1_sumOver_7 : decode cX1_sumOver 7 = .ok (.bipush 8, 2) := by decide +kernel
theorem dX1_sumOver_9 : decode cX1_sumOver 9 = .ok (.if_icmp .ge 30, 3) := by decide +kernel
theorem dX1_sumOver_12 : decode cX1_sumOver 12 = .ok (.iload_n 2, 1) := by decide +kernel
theorem dX1_sumOver_13 : decode cX1_sumOver 13 = .ok (.iload 4, 2) := by decide +kernel
theorem dX1_sumOver_15 : decode cX1_sumOver 15 = .ok (.ishr, 1) := by decide +kernel
theorem dX1_sumOver_16 : decode cX1_sumOver 16 = .ok (.iconst 1, 1) := by decide +kernel
theorem dX1_sumOver_17 : decode cX1_sumOver 17 = .ok (.iand, 1) := by decide +kernel
theorem dX1_sumOver_18 : decode cX1_sumOver 18 = .ok (.ifCond .eq 15, 3) := by decide +kernel
theorem dX1_sumOver_21 : decode cX1_sumOver 21 = .ok (.iload_n 3, 1) := by decide +kernel
theorem dX1_sumOver_22 : decode cX1_sumOver 22 = .ok (.aload_n 0, 1) := by decide +kernel
theorem dX1_sumOver_23 : decode cX1_sumOver 23 = .ok (.getfield 17, 3) := by decide +kernel
theorem dX1_sumOver_26 : decode cX1_sumOver 26 = .ok (.iload_n 1, 1) := by decide +kernel
theorem dX1_sumOver_27 : decode cX1_sumOver 27 = .ok (.aaload, 1) := by decide +kernel
theorem dX1_sumOver_28 : decode cX1_sumOver 28 = .ok (.iload 4, 2) := by decide +kernel
theorem dX1_sumOver_30 : decode cX1_sumOver 30 = .ok (.iaload, 1) := by decide +kernel
theorem dX1_sumOver_31 : decode cX1_sumOver 31 = .ok (.iadd, 1) := by decide +kernel
theorem dX1_sumOver_32 : decode cX1_sumOver 32 = .ok (.istore_n 3, 1) := by decide +kernel
theorem dX1_sumOver_33 : decode cX1_sumOver 33 = .ok (.iinc 4 1, 3) := by decide +kernel
theorem dX1_sumOver_36 : decode cX1_sumOver 36 = .ok (.goto (-31), 3) := by decide +kernel
theorem dX1_sumOver_39 : decode cX1_sumOver 39 = .ok (.iload_n 3, 1) := by decide +kernel
theorem dX1_sumOver_40 : decode cX1_sumOver 40 = .ok (.ireturn, 1) := by decide +kernel
theorem dX1_smallestBeginning_0 : decode cX1_smallestBeginning 0 = .ok (.iconst 0, 1) := by decide +kernel
theorem dX1_smallestBeginning_1 : decode cX1_smallestBeginning 1 = .ok (.istore_n 3, 1) := by decide +kernel
theorem dX1_smallestBeginning_2 : decode cX1_smallestBeginning 2 = .ok (.iload_n 3, 1) := by decide +kernel
theorem dX1_smallestBeginning_3 : decode cX1_smallestBeginning 3 = .ok (.bipush 8, 2) := by decide +kernel
theorem dX1_smallestBeginning_5 : decode cX1_smallestBeginning 5 = .ok (.if_icmp .ge 30, 3) := by decide +kernel
theorem dX1_smallestBeginning_8 : decode cX1_smallestBeginning 8 = .ok (.iload_n 2, 1) := by decide +kernel
theorem dX1_smallestBeginning_9 : decode cX1_smallestBeginning 9 = .ok (.iload_n 3, 1) := by decide +kernel
theorem dX1_smallestBeginning_10 : decode cX1_smallestBeginning 10 = .ok (.ishr, 1) := by decide +kernel
theorem dX1_smallestBeginning_11 : decode cX1_smallestBeginning 11 = .ok (.iconst 1, 1) := by decide +kernel
theorem dX1_smallestBeginning_12 : decode cX1_smallestBeginning 12 = .ok (.iand, 1) := by decide +kernel
theorem dX1_smallestBeginning_13 : decode cX1_smallestBeginning 13 = .ok (.ifCond .eq 16, 3) := by decide +kernel
theorem dX1_smallestBeginning_16 : decode cX1_smallestBeginning 16 = .ok (.aload_n 0, 1) := by decide +kernel
theorem dX1_smallestBeginning_17 : decode cX1_smallestBeginning 17 = .ok (.getfield 17, 3) := by decide +kernel
theorem dX1_smallestBeginning_20 : decode cX1_smallestBeginning 20 = .ok (.iload_n 1, 1) := by decide +kernel
theorem dX1_smallestBeginning_21 : decode cX1_smallestBeginning 21 = .ok (.aaload, 1) := by decide +kernel
theorem dX1_smallestBeginning_22 : decode cX1_smallestBeginning 22 = .ok (.iload_n 3, 1) := by decide +kernel
theorem dX1_smallestBeginning_23 : decode cX1_smallestBeginning 23 = .ok (.iaload, 1) := by decide +kernel
theorem dX1_smallestBeginning_24 : decode cX1_smallestBeginning 24 = .ok (.ifCond .le 5, 3) := by decide +kernel
theorem dX1_smallestBeginning_27 : decode cX1_smallestBeginning 27 = .ok (.iload_n 3, 1) := by decide +kernel
theorem dX1_smallestBeginning_28 : decode cX1_smallestBeginning 28 = .ok (.ireturn, 1) := by decide +kernel
theorem dX1_smallestBeginning_29 : decode cX1_smallestBeginning 29 = .ok (.iinc 3 1, 3) := by decide +kernel
theorem dX1_smallestBeginning_32 : decode cX1_smallestBeginning 32 = .ok (.goto (-30), 3) := by decide +kernel
theorem dX1_smallestBeginning_35 : decode cX1_smallestBeginning 35 = .ok (.iconst (-1), 1) := by decide +kernel
theorem dX1_smallestBeginning_36 : decode cX1_smallestBeginning 36 = .ok (.ireturn, 1) := by decide +kernel
theorem dX2_init_0 : decode cX2_init 0 = .ok (.aload_n 0, 1) := by decide +kernel
theorem dX2_init_1 : decode cX2_init 1 = .ok (.invokespecial 3, 3) := by decide +kernel
theorem dX2_init_4 : decode cX2_init 4 = .ok (.aload_n 0, 1) := by decide +kernel
theorem dX2_init_5 : decode cX2_init 5 = .ok (.sipush 800, 3) := by decide +kernel
theorem dX2_init_8 : decode cX2_init 8 = .ok (.newarray .int, 2) := by decide +kernel
theorem dX2_init_10 : decode cX2_init 10 = .ok (.putfield 9, 3) := by decide +kernel
theorem dX2_init_13 : decode cX2_init 13 = .ok (.aload_n 0, 1) := by decide +kernel
theorem dX2_init_14 : decode cX2_init 14 = .ok (.iconst 5, 1) := by decide +kernel
theorem dX2_init_15 : decode cX2_init 15 = .ok (.newarray .int, 2) := by decide +kernel
theorem dX2_init_17 : decode cX2_init 17 = .ok (.putfield 15, 3) := by decide +kernel
theorem dX2_init_20 : decode cX2_init 20 = .ok (.aload_n 0, 1) := by decide +kernel
theorem dX2_init_21 : decode cX2_init 21 = .ok (.bipush 11, 2) := by decide +kernel
theorem dX2_init_23 : decode cX2_init 23 = .ok (.newarray .int, 2) := by decide +kernel
theorem dX2_init_25 : decode cX2_init 25 = .ok (.putfield 18, 3) := by decide +kernel
theorem dX2_init_28 : decode cX2_init 28 = .ok (.aload_n 0, 1) := by decide +kernel
theorem dX2_init_29 : decode cX2_init 29 = .ok (.iconst 0, 1) := by decide +kernel
theorem dX2_init_30 : decode cX2_init 30 = .ok (.putfield 21, 3) := by decide +kernel
theorem dX2_init_33 : decode cX2_init 33 = .ok (.return_, 1) := by decide +kernel
theorem dX2_clear_0 : decode cX2_clear 0 = .ok (.aload_n 0, 1) := by decide +kernel
theorem dX2_clear_1 : decode cX2_clear 1 = .ok (.iconst 0, 1) := by decide +kernel
theorem dX2_clear_2 : decode cX2_clear 2 = .ok (.putfield 21, 3) := by decide +kernel
theorem dX2_clear_5 : decode cX2_clear 5 = .ok (.return_, 1) := by decide +kernel
theorem dX2_setDefault_0 : decode cX2_setDefault 0 = .ok (.aload_n 0, 1) := by decide +kernel
theorem dX2_setDefault_1 : decode cX2_setDefault 1 = .ok (.invokevirtual 25, 3) := by decide +kernel
theorem dX2_setDefault_4 : decode cX2_setDefault 4 = .ok (.aload_n 0, 1) := by decide +kernel
theorem dX2_setDefault_5 : decode cX2_setDefault 5 = .ok (.iconst (-1), 1) := by decide +kernel
theorem dX2_setDefault_6 : decode cX2_setDefault 6 = .ok (.invokevirtual 28, 3) := by decide +kernel
theorem dX2_setDefault_9 : decode cX2_setDefault 9 = .ok (.aload_n 0, 1) := by decide +kernel
theorem dX2_setDefault_10 : decode cX2_setDefault 10 = .ok (.bipush (-3), 2) := by decide +kernel
theorem dX2_setDefault_12 : decode cX2_setDefault 12 = .ok (.invokevirtual 28, 3) := by decide +kernel
theorem dX2_setDefault_15 : decode cX2_setDefault 15 = .ok (.aload_n 0, 1) := by decide +kernel
theorem dX2_setDefault_16 : decode cX2_setDefault 16 = .ok (.bipush (-8), 2) := by decide +kernel
theorem dX2_setDefault_18 : decode cX2_setDefault 18 = .ok (.invokevirtual 28, 3) := by decide +kernel
theorem dX2_setDefault_21 : decode cX2_setDefault 21 = .ok (.aload_n 0, 1) := by decide +kernel
theorem dX2_setDefault_22 : decode cX2_setDefault 22 = .ok (.bipush 10, 2) := by decide +kernel
theorem dX2_setDefault_24 : decode cX2_setDefault 24 = .ok (.invokevirtual 28, 3) := by decide +kernel
theorem dX2_setDefault_27 : decode cX2_setDefault 27 = .ok (.aload_n 0, 1) := by decide +kernel
theorem dX2_setDefault_28 : decode cX2_setDefault 28 = .ok (.bipush (-9), 2) := by decide +kernel
theorem dX2_setDefault_30 : decode cX2_setDefault 30 = .ok (.invokevirtual 28, 3) := by decide +kernel
theorem dX2_setDefault_33 : decode cX2_setDefault 33 = .ok (.return_, 1) := by decide +kernel
theorem dX2_emit_0 : decode cX2_emit 0 = .ok (.aload_n 0, 1) := by decide +kernel
theorem dX2_emit_1 : decode cX2_emit 1 = .ok (.getfield 21, 3) := by decide +kernel
theorem dX2_emit_4 : decode cX2_emit 4 = .ok (.aload_n 0, 1) := by decide +kernel
theorem dX2_emit_5 : decode cX2_emit 5 = .ok (.getfield 9, 3) := by decide +kernel
theorem dX2_emit_8 : decode cX2_emit 8 = .ok (.arraylength, 1) := by decide +kernel
theorem dX2_emit_9 : decode cX2_emit 9 = .ok (.if_icmp .ge 23, 3) := by decide +kernel
theorem dX2_emit_12 : decode cX2_emit 12 = .ok (.aload_n 0, 1) := by decide +kernel
theorem dX2_emit_13 : decode cX2_emit 13 = .ok (.getfield 9, 3) := by decide +kernel
theorem dX2_emit_16 : decode cX2_emit 16 = .ok (.aload_n 0, 1) := by decide +kernel
theorem dX2_emit_17 : decode cX2_emit 17 = .ok (.getfield 21, 3) := by decide +kernel
theorem dX2_emit_20 : decode cX2_emit 20 = .ok (.iload_n 1, 1) := by decide +kernel
theorem dX2_emit_21 : decode cX2_emit 21 = .ok (.iastore, 1) := by decide +kernel
theorem dX2_emit_22 : decode cX2_emit 22 = .ok (.aload_n 0, 1) := by decide +kernel
theorem dX2_emit_23 : decode cX2_emit 23 = .ok (.dup, 1) := by decide +kernel
theorem dX2_emit_24 : decode cX2_emit 24 = .ok (.getfield 21, 3) := by decide +kernel
theorem dX2_emit_27 : decode cX2_emit 27 = .ok (.iconst 1, 1) := by decide +kernel
theorem dX2_emit_28 : decode cX2_emit 28 = .ok (.iadd, 1) := by decide +kernel
theorem dX2_emit_29 : decode cX2_emit 29 = .ok (.putfield 21, 3) := by decide +kernel
theorem dX2_emit_32 : decode cX2_emit 32 = .ok (.return_, 1) := by decide +kernel
theorem dX2_copyFrom_0 : decode cX2_copyFrom 0 = .ok (.aload_n 0, 1) := by decide +kernel
theorem dX2_copyFrom_1 : decode cX2_copyFrom 1 = .ok (.iconst 0, 1) := by decide +kernel
theorem dX2_copyFrom_2 : decode cX2_copyFrom 2 = .ok (.putfield 21, 3) := by decide +kernel
theorem dX2_copyFrom_5 : decode cX2_copyFrom 5 = .ok (.iconst 0, 1) := by decide +kernel
theorem dX2_copyFrom_6 : decode cX2_copyFrom 6 = .ok (.istore_n 2, 1) := by decide +kernel
theorem dX2_copyFrom_7 : decode cX2_copyFrom 7 = .ok (.iload_n 2, 1) := by decide +kernel
theorem dX2_copyFrom_8 : decode cX2_copyFrom 8 = .ok (.aload_n 1, 1) := by decide +kernel
theorem dX2_copyFrom_9 : decode cX2_copyFrom 9 = .ok (.getfield 21, 3) := by decide +kernel
theorem dX2_copyFrom_12 : decode cX2_copyFrom 12 = .ok (.if_icmp .ge 19, 3) := by decide +kernel
theorem dX2_copyFrom_15 : decode cX2_copyFrom 15 = .ok (.aload_n 0, 1) := by decide +kernel
theorem dX2_copyFrom_16 : decode cX2_copyFrom 16 = .ok (.aload_n 1, 1) := by decide +kernel
theorem dX2_copyFrom_17 : decode cX2_copyFrom 17 = .ok (.getfield 9, 3) := by decide +kernel
theorem dX2_copyFrom_20 : decode cX2_copyFrom 20 = .ok (.iload_n 2, 1) := by decide +kernel
theorem dX2_copyFrom_21 : decode cX2_copyFrom 21 = .ok (.iaload, 1) := by decide +kernel
theorem dX2_copyFrom_22 : decode cX2_copyFrom 22 = .ok (.invokevirtual 28, 3) := by decide +kernel
theorem dX2_copyFrom_25 : decode cX2_copyFrom 25 = .ok (.iinc 2 1, 3) := by decide +kernel
theorem dX2_copyFrom_28 : decode cX2_copyFrom 28 = .ok (.goto (-21), 3) := by decide +kernel
theorem dX2_copyFrom_31 : decode cX2_copyFrom 31 = .ok (.return_, 1) := by decide +kernel
theorem dX2_evaluate_0 : decode cX2_evaluate 0 = .ok (.aload_n 0, 1) := by decide +kernel
theorem dX2_evaluate_1 : decode cX2_evaluate 1 = .ok (.getfield 15, 3) := by decide +kernel
theorem dX2_evaluate_4 : decode cX2_evaluate 4 = .ok (.iconst 0, 1) := by decide +kernel
theorem dX2_evaluate_5 : decode cX2_evaluate 5 = .ok (.iload_n 1, 1) := by decide +kernel
theorem dX2_evaluate_6 : decode cX2_evaluate 6 = .ok (.iastore, 1) := by decide +kernel
theorem dX2_evaluate_7 : decode cX2_evaluate 7 = .ok (.aload_n 0, 1) := by decide +kernel
theorem dX2_evaluate_8 : decode cX2_evaluate 8 = .ok (.getfield 15, 3) := by decide +kernel
theorem dX2_evaluate_11 : decode cX2_evaluate 11 = .ok (.iconst 1, 1) := by decide +kernel
theorem dX2_evaluate_12 : decode cX2_evaluate 12 = .ok (.iload_n 2, 1) := by decide +kernel
theorem dX2_evaluate_13 : decode cX2_evaluate 13 = .ok (.iastore, 1) := by decide +kernel
theorem dX2_evaluate_14 : decode cX2_evaluate 14 = .ok (.aload_n 0, 1) := by decide +kernel
theorem dX2_evaluate_15 : decode cX2_evaluate 15 = .ok (.getfield 15, 3) := by decide +kernel
theorem dX2_evaluate_18 : decode cX2_evaluate 18 = .ok (.iconst 2, 1) := by decide +kernel
theorem dX2_evaluate_19 : decode cX2_evaluate 19 = .ok (.iload_n 3, 1) := by decide +kernel
theorem dX2_evaluate_20 : decode cX2_evaluate 20 = .ok (.iastore, 1) := by decide +kernel
theorem dX2_evaluate_21 : decode cX2_evaluate 21 = .ok (.aload_n 0, 1) := by decide +kernel
theorem dX2_evaluate_22 : decode cX2_evaluate 22 = .ok (.getfield 15, 3) := by decide +kernel
theorem dX2_evaluate_25 : decode cX2_evaluate 25 = .ok (.iconst 3, 1) := by decide +kernel
theorem dX2_evaluate_26 : decode cX2_evaluate 26 = .ok (.iload 4, 2) := by decide +kernel
theorem dX2_evaluate_28 : decode cX2_evaluate 28 = .ok (.iastore, 1) := by decide +kernel
theorem dX2_evaluate_29 : decode cX2_evaluate 29 = .ok (.aload_n 0, 1) := by decide +kernel
theorem dX2_evaluate_30 : decode cX2_evaluate 30 = .ok (.getfield 15, 3) := by decide +kernel
theorem dX2_evaluate_33 : decode cX2_evaluate 33 = .ok (.iconst 4, 1) := by decide +kernel
theorem dX2_evaluate_34 : decode cX2_evaluate 34 = .ok (.iload 5, 2) := by decide +kernel
theorem dX2_evaluate_36 : decode cX2_evaluate 36 = .ok (.iastore, 1) := by decide +kernel
theorem dX2_evaluate_37 : decode cX2_evaluate 37 = .ok (.iconst 0, 1) := by decide +kernel
theorem dX2_evaluate_38 : decode cX2_evaluate 38 = .ok (.istore 6, 2) := by decide +kernel
theorem dX2_evaluate_40 : decode cX2_evaluate 40 = .ok (.iconst 0, 1) := by decide +kernel
theorem dX2_evaluate_41 : decode cX2_evaluate 41 = .ok (.istore 7, 2) := by decide +kernel
theorem dX2_evaluate_43 : decode cX2_evaluate 43 = .ok (.iload 7, 2) := by decide +kernel
theorem dX2_evaluate_45 : decode cX2_evaluate 45 = .ok (.aload_n 0, 1) := by decide +kernel
theorem dX2_evaluate_46 : decode cX2_evaluate 46 = .ok (.getfield 21, 3) := by decide +kernel
theorem dX2_evaluate_49 : decode cX2_evaluate 49 = .ok (.if_icmp .ge 115, 3) := by decide +kernel
theorem dX2_evaluate_52 : decode cX2_evaluate 52 = .ok (.aload_n 0, 1) := by decide +kernel
theorem dX2_evaluate_53 : decode cX2_evaluate 53 = .ok (.getfield 9, 3) := by decide +kernel
theorem dX2_evaluate_56 : decode cX2_evaluate 56 = .ok (.iload 7, 2) := by decide +kernel
theorem dX2_evaluate_58 : decode cX2_evaluate 58 = .ok (.iaload, 1) := by decide +kernel
theorem dX2_evaluate_59 : decode cX2_evaluate 59 = .ok (.istore 8, 2) := by decide +kernel
theorem dX2_evaluate_61 : decode cX2_evaluate 61 = .ok (.iload 8, 2) := by decide +kernel
theorem dX2_evaluate_63 : decode cX2_evaluate 63 = .ok (.bipush (-5), 2) := by decide +kernel
theorem dX2_evaluate_65 : decode cX2_evaluate 65 = .ok (.if_icmp .lt 45, 3) := by decide +kernel
theorem dX2_evaluate_68 : decode cX2_evaluate 68 = .ok (.iload 6, 2) := by decide +kernel
theorem dX2_evaluate_70 : decode cX2_evaluate 70 = .ok (.aload_n 0, 1) := by decide +kernel
theorem dX2_evaluate_71 : decode cX2_evaluate 71 = .ok (.getfield 18, 3) := by decide +kernel
theorem dX2_evaluate_74 : decode cX2_evaluate 74 = .ok (.arraylength, 1) := by decide +kernel
theorem dX2_evaluate_75 : decode cX2_evaluate 75 = .ok (.if_icmp .ge 35, 3) := by decide +kernel
theorem dX2_evaluate_78 : decode cX2_evaluate 78 = .ok (.aload_n 0, 1) := by decide +kernel
theorem dX2_evaluate_79 : decode cX2_evaluate 79 = .ok (.getfield 18, 3) := by decide +kernel
theorem dX2_evaluate_82 : decode cX2_evaluate 82 = .ok (.iload 6, 2) := by decide +kernel
theorem dX2_evaluate_84 : decode cX2_evaluate 84 = .ok (.iload 8, 2) := by decide +kernel
theorem dX2_evaluate_86 : decode cX2_evaluate 86 = .ok (.ifCond .lt 8, 3) := by decide +kernel
theorem dX2_evaluate_89 : decode cX2_evaluate 89 = .ok (.iload 8, 2) := by decide +kernel
theorem dX2_evaluate_91 : decode cX2_evaluate 91 = .ok (.goto 12, 3) := by decide +kernel
theorem dX2_evaluate_94 : decode cX2_evaluate 94 = .ok (.aload_n 0, 1) := by decide +kernel
theorem dX2_evaluate_95 : decode cX2_evaluate 95 = .ok (.getfield 15, 3) := by decide +kernel
theorem dX2_evaluate_98 : decode cX2_evaluate 98 = .ok (.iconst (-1), 1) := by decide +kernel
theorem dX2_evaluate_99 : decode cX2_evaluate 99 = .ok (.iload 8, 2) := by decide +kernel
theorem dX2_evaluate_101 : decode cX2_evaluate 101 = .ok (.isub, 1) := by decide +kernel
theorem dX2_evaluate_102 : decode cX2_evaluate 102 = .ok (.iaload, 1) := by decide +kernel
theorem dX2_evaluate_103 : decode cX2_evaluate 103 = .ok (.iastore, 1) := by decide +kernel
theorem dX2_evaluate_104 : decode cX2_evaluate 104 = .ok (.iinc 6 1, 3) := by decide +kernel
theorem dX2_evaluate_107 : decode cX2_evaluate 107 = .ok (.goto 51, 3) := by decide +kernel
theorem dX2_evaluate_110 : decode cX2_evaluate 110 = .ok (.iload 8, 2) := by decide +kernel
theorem dX2_evaluate_112 : decode cX2_evaluate 112 = .ok (.bipush (-5), 2) := by decide +kernel
theorem dX2_evaluate_114 : decode cX2_evaluate 114 = .ok (.if_icmp .ge 44, 3) := by decide +kernel
theorem dX2_evaluate_117 : decode cX2_evaluate 117 = .ok (.iload 6, 2) := by decide +kernel
theorem dX2_evaluate_119 : decode cX2_evaluate 119 = .ok (.iconst 2, 1) := by decide +kernel
theorem dX2_evaluate_120 : decode cX2_evaluate 120 = .ok (.if_icmp .lt 38, 3) := by decide +kernel
theorem dX2_evaluate_123 : decode cX2_evaluate 123 = .ok (.iinc 6 (-1), 3) := by decide +kernel
theorem dX2_evaluate_126 : decode cX2_evaluate 126 = .ok (.aload_n 0, 1) := by decide +kernel
theorem dX2_evaluate_127 : decode cX2_evaluate 127 = .ok (.getfield 18, 3) := by decide +kernel
theorem dX2_evaluate_130 : decode cX2_evaluate 130 = .ok (.iload 6, 2) := by decide +kernel
theorem dX2_evaluate_132 : decode cX2_evaluate 132 = .ok (.iconst 1, 1) := by decide +kernel
theorem dX2_evaluate_133 : decode cX2_evaluate 133 = .ok (.isub, 1) := by decide +kernel
theorem dX2_evaluate_134 : decode cX2_evaluate 134 = .ok (.iload 8, 2) := by decide +kernel
theorem dX2_evaluate_136 : decode cX2_evaluate 136 = .ok (.aload_n 0, 1) := by decide +kernel
theorem dX2_evaluate_137 : decode cX2_evaluate 137 = .ok (.getfield 18, 3) := by decide +kernel
theorem dX2_evaluate_140 : decode cX2_evaluate 140 = .ok (.iload 6, 2) := by decide +kernel
theorem dX2_evaluate_142 : decode cX2_evaluate 142 = .ok (.iconst 1, 1) := by decide +kernel
theorem dX2_evaluate_143 : decode cX2_evaluate 143 = .ok (.isub, 1) := by decide +kernel
theorem dX2_evaluate_144 : decode cX2_evaluate 144 = .ok (.iaload, 1) := by decide +kernel
theorem dX2_evaluate_145 : decode cX2_evaluate 145 = .ok (.i2l, 1) := by decide +kernel
theorem dX2_evaluate_146 : decode cX2_evaluate 146 = .ok (.aload_n 0, 1) := by decide +kernel
theorem dX2_evaluate_147 : decode cX2_evaluate 147 = .ok (.getfield 18, 3) := by decide +kernel
theorem dX2_evaluate_150 : decode cX2_evaluate 150 = .ok (.iload 6, 2) := by decide +kernel
theorem dX2_evaluate_152 : decode cX2_evaluate 152 = .ok (.iaload, 1) := by decide +kernel
theorem dX2_evaluate_153 : decode cX2_evaluate 153 = .ok (.i2l, 1) := by decide +kernel
theorem dX2_evaluate_154 : decode cX2_evaluate 154 = .ok (.invokestatic 32, 3) := by decide +kernel
theorem dX2_evaluate_157 : decode cX2_evaluate 157 = .ok (.iastore, 1) := by decide +kernel
theorem dX2_evaluate_158 : decode cX2_evaluate 158 = .ok (.iinc 7 1, 3) := by decide +kernel
theorem dX2_evaluate_161 : decode cX2_evaluate 161 = .ok (.goto (-118), 3) := by decide +kernel
theorem dX2_evaluate_164 : decode cX2_evaluate 164 = .ok (.aload_n 0, 1) := by decide +kernel
theorem dX2_evaluate_165 : decode cX2_evaluate 165 = .ok (.getfield 18, 3) := by decide +kernel
theorem dX2_evaluate_168 : decode cX2_evaluate 168 = .ok (.iconst 0, 1) := by decide +kernel
theorem dX2_evaluate_169 : decode cX2_evaluate 169 = .ok (.iaload, 1) := by decide +kernel
theorem dX2_evaluate_170 : decode cX2_evaluate 170 = .ok (.ireturn, 1) := by decide +kernel
theorem dX2_operate_0 : decode cX2_operate 0 = .ok (.iload_n 0, 1) := by decide +kernel
theorem dX2_operate_1 : decode cX2_operate 1 = .ok (.tableswitch 51 (-8) (-6) #[43, 35, 27], 27) := by decide +kernel
theorem dX2_operate_28 : decode cX2_operate 28 = .ok (.lload_n 1, 1) := by decide +kernel
theorem dX2_operate_29 : decode cX2_operate 29 = .ok (.lload_n 3, 1) := by decide +kernel
theorem dX2_operate_30 : decode cX2_operate 30 = .ok (.ladd, 1) := by decide +kernel
theorem dX2_operate_31 : decode cX2_operate 31 = .ok (.lstore 5, 2) := by decide +kernel
theorem dX2_operate_33 : decode cX2_operate 33 = .ok (.goto 34, 3) := by decide +kernel
theorem dX2_operate_36 : decode cX2_operate 36 = .ok (.lload_n 1, 1) := by decide +kernel
theorem dX2_operate_37 : decode cX2_operate 37 = .ok (.lload_n 3, 1) := by decide +kernel
theorem dX2_operate_38 : decode cX2_operate 38 = .ok (.lsub, 1) := by decide +kernel
theorem dX2_operate_39 : decode cX2_operate 39 = .ok (.lstore 5, 2) := by decide +kernel
theorem dX2_operate_41 : decode cX2_operate 41 = .ok (.goto 26, 3) := by decide +kernel
theorem dX2_operate_44 : decode cX2_operate 44 = .ok (.lload_n 1, 1) := by decide +kernel
theorem dX2_operate_45 : decode cX2_operate 45 = .ok (.lload_n 3, 1) := by decide +kernel
theorem dX2_operate_46 : decode cX2_operate 46 = .ok (.lmul, 1) := by decide +kernel
theorem dX2_operate_47 : decode cX2_operate 47 = .ok (.lstore 5, 2) := by decide +kernel
theorem dX2_operate_49 : decode cX2_operate 49 = .ok (.goto 18, 3) := by decide +kernel
theorem dX2_operate_52 : decode cX2_operate 52 = .ok (.lload_n 3, 1) := by decide +kernel
theorem dX2_operate_53 : decode cX2_operate 53 = .ok (.lconst 0, 1) := by decide +kernel
theorem dX2_operate_54 : decode cX2_operate 54 = .ok (.lcmp, 1) := by decide +kernel
theorem dX2_operate_55 : decode cX2_operate 55 = .ok (.ifCond .ne 7, 3) := by decide +kernel
theorem dX2_operate_58 : decode cX2_operate 58 = .ok (.lconst 0, 1) := by decide +kernel
theorem dX2_operate_59 : decode cX2_operate 59 = .ok (.goto 6, 3) := by decide +kernel
theorem dX2_operate_62 : decode cX2_operate 62 = .ok (.lload_n 1, 1) := by decide +kernel
theorem dX2_operate_63 : decode cX2_operate 63 = .ok (.lload_n 3, 1) := by decide +kernel
theorem dX2_operate_64 : decode cX2_operate 64 = .ok (.ldiv, 1) := by decide +kernel
theorem dX2_operate_65 : decode cX2_operate 65 = .ok (.lstore 5, 2) := by decide +kernel
theorem dX2_operate_67 : decode cX2_operate 67 = .ok (.ldc2_w 36, 3) := by decide +kernel
theorem dX2_operate_70 : decode cX2_operate 70 = .ok (.ldc2_w 38, 3) := by decide +kernel
theorem dX2_operate_73 : decode cX2_operate 73 = .ok (.lload 5, 2) := by decide +kernel
theorem dX2_operate_75 : decode cX2_operate 75 = .ok (.invokestatic 40, 3) := by decide +kernel
theorem dX2_operate_78 : decode cX2_operate 78 = .ok (.invokestatic 46, 3) := by decide +kernel
theorem dX2_operate_81 : decode cX2_operate 81 = .ok (.l2i, 1) := by decide +kernel
theorem dX2_operate_82 : decode cX2_operate 82 = .ok (.ireturn, 1) := by decide +kernel
theorem dX3_init_0 : decode cX3_init 0 = .ok (.aload_n 0, 1) := by decide +kernel
theorem dX3_init_1 : decode cX3_init 1 = .ok (.invokespecial 3, 3) := by decide +kernel
theorem dX3_init_4 : decode cX3_init 4 = .ok (.aload_n 0, 1) := by decide +kernel
theorem dX3_init_5 : decode cX3_init 5 = .ok (.bipush 9, 2) := by decide +kernel
theorem dX3_init_7 : decode cX3_init 7 = .ok (.anewarray 9, 3) := by decide +kernel
theorem dX3_init_10 : decode cX3_init 10 = .ok (.putfield 11, 3) := by decide +kernel
theorem dX3_init_13 : decode cX3_init 13 = .ok (.iconst 0, 1) := by decide +kernel
theorem dX3_init_14 : decode cX3_init 14 = .ok (.istore_n 1, 1) := by decide +kernel
theorem dX3_init_15 : decode cX3_init 15 = .ok (.iload_n 1, 1) := by decide +kernel
theorem dX3_init_16 : decode cX3_init 16 = .ok (.aload_n 0, 1) := by decide +kernel
theorem dX3_init_17 : decode cX3_init 17 = .ok (.getfield 11, 3) := by decide +kernel
theorem dX3_init_20 : decode cX3_init 20 = .ok (.arraylength, 1) := by decide +kernel
theorem dX3_init_21 : decode cX3_init 21 = .ok (.if_icmp .ge 22, 3) := by decide +kernel
theorem dX3_init_24 : decode cX3_init 24 = .ok (.aload_n 0, 1) := by decide +kernel
theorem dX3_init_25 : decode cX3_init 25 = .ok (.getfield 11, 3) := by decide +kernel
theorem dX3_init_28 : decode cX3_init 28 = .ok (.iload_n 1, 1) := by decide +kernel
theorem dX3_init_29 : decode cX3_init 29 = .ok (.new 9, 3) := by decide +kernel
theorem dX3_init_32 : decode cX3_init 32 = .ok (.dup, 1) := by decide +kernel
theorem dX3_init_33 : decode cX3_init 33 = .ok (.invokespecial 17, 3) := by decide +kernel
theorem dX3_init_36 : decode cX3_init 36 = .ok (.aastore, 1) := by decide +kernel
theorem dX3_init_37 : decode cX3_init 37 = .ok (.iinc 1 1, 3) := by decide +kernel
theorem dX3_init_40 : decode cX3_init 40 = .ok (.goto (-25), 3) := by decide +kernel
theorem dX3_init_43 : decode cX3_init 43 = .ok (.aload_n 0, 1) := by decide +kernel
theorem dX3_init_44 : decode cX3_init 44 = .ok (.iconst 0, 1) := by decide +kernel
theorem dX3_init_45 : decode cX3_init 45 = .ok (.putfield 18, 3) := by decide +kernel
theorem dX3_init_48 : decode cX3_init 48 = .ok (.aload_n 0, 1) := by decide +kernel
theorem dX3_init_49 : decode cX3_init 49 = .ok (.iconst 0, 1) := by decide +kernel
theorem dX3_init_50 : decode cX3_init 50 = .ok (.putfield 22, 3) := by decide +kernel
theorem dX3_init_53 : decode cX3_init 53 = .ok (.return_, 1) := by decide +kernel
theorem dX3_latest_0 : decode cX3_latest 0 = .ok (.aload_n 0, 1) := by decide +kernel
theorem dX3_latest_1 : decode cX3_latest 1 = .ok (.getfield 11, 3) := by decide +kernel
theorem dX3_latest_4 : decode cX3_latest 4 = .ok (.aload_n 0, 1) := by decide +kernel
theorem dX3_latest_5 : decode cX3_latest 5 = .ok (.getfield 18, 3) := by decide +kernel
theorem dX3_latest_8 : decode cX3_latest 8 = .ok (.aaload, 1) := by decide +kernel
theorem dX3_latest_9 : decode cX3_latest 9 = .ok (.areturn, 1) := by decide +kernel
theorem dX3_beginChange_0 : decode cX3_beginChange 0 = .ok (.aload_n 0, 1) := by decide +kernel
theorem dX3_beginChange_1 : decode cX3_beginChange 1 = .ok (.getfield 18, 3) := by decide +kernel
theorem dX3_beginChange_4 : decode cX3_beginChange 4 = .ok (.iconst 1, 1) := by decide +kernel
theorem dX3_beginChange_5 : decode cX3_beginChange 5 = .ok (.iadd, 1) := by decide +kernel
theorem dX3_beginChange_6 : decode cX3_beginChange 6 = .ok (.aload_n 0, 1) := by decide +kernel
theorem dX3_beginChange_7 : decode cX3_beginChange 7 = .ok (.getfield 11, 3) := by decide +kernel
theorem dX3_beginChange_10 : decode cX3_beginChange 10 = .ok (.arraylength, 1) := by decide +kernel
theorem dX3_beginChange_11 : decode cX3_beginChange 11 = .ok (.if_icmp .ge 12, 3) := by decide +kernel
theorem dX3_beginChange_14 : decode cX3_beginChange 14 = .ok (.aload_n 0, 1) := by decide +kernel
theorem dX3_beginChange_15 : decode cX3_beginChange 15 = .ok (.getfield 18, 3) := by decide +kernel
theorem dX3_beginChange_18 : decode cX3_beginChange 18 = .ok (.iconst 1, 1) := by decide +kernel
theorem dX3_beginChange_19 : decode cX3_beginChange 19 = .ok (.iadd, 1) := by decide +kernel
theorem dX3_beginChange_20 : decode cX3_beginChange 20 = .ok (.goto 4, 3) := by decide +kernel
theorem dX3_beginChange_23 : decode cX3_beginChange 23 = .ok (.iconst 0, 1) := by decide +kernel
theorem dX3_beginChange_24 : decode cX3_beginChange 24 = .ok (.istore_n 1, 1) := by decide +kernel
theorem dX3_beginChange_25 : decode cX3_beginChange 25 = .ok (.aload_n 0, 1) := by decide +kernel
theorem dX3_beginChange_26 : decode cX3_beginChange 26 = .ok (.getfield 11, 3) := by decide +kernel
theorem dX3_beginChange_29 : decode cX3_beginChange 29 = .ok (.iload_n 1, 1) := by decide +kernel
theorem dX3_beginChange_30 : decode cX3_beginChange 30 = .ok (.aaload, 1) := by decide +kernel
theorem dX3_beginChange_31 : decode cX3_beginChange 31 = .ok (.aload_n 0, 1) := by decide +kernel
theorem dX3_beginChange_32 : decode cX3_beginChange 32 = .ok (.getfield 11, 3) := by decide +kernel
theorem dX3_beginChange_35 : decode cX3_beginChange 35 = .ok (.aload_n 0, 1) := by decide +kernel
theorem dX3_beginChange_36 : decode cX3_beginChange 36 = .ok (.getfield 18, 3) := by decide +kernel
theorem dX3_beginChange_39 : decode cX3_beginChange 39 = .ok (.aaload, 1) := by decide +kernel
theorem dX3_beginChange_40 : decode cX3_beginChange 40 = .ok (.invokevirtual 25, 3) := by decide +kernel
theorem dX3_beginChange_43 : decode cX3_beginChange 43 = .ok (.aload_n 0, 1) := by decide +kernel
theorem dX3_beginChange_44 : decode cX3_beginChange 44 = .ok (.iload_n 1, 1) := by decide +kernel
theorem dX3_beginChange_45 : decode cX3_beginChange 45 = .ok (.putfield 18, 3) := by decide +kernel
theorem dX3_beginChange_48 : decode cX3_beginChange 48 = .ok (.aload_n 0, 1) := by decide +kernel
theorem dX3_beginChange_49 : decode cX3_beginChange 49 = .ok (.aload_n 0, 1) := by decide +kernel
theorem dX3_beginChange_50 : decode cX3_beginChange 50 = .ok (.getfield 22, 3) := by decide +kernel
theorem dX3_beginChange_53 : decode cX3_beginChange 53 = .ok (.iconst 1, 1) := by decide +kernel
theorem dX3_beginChange_54 : decode cX3_beginChange 54 = .ok (.iadd, 1) := by decide +kernel
theorem dX3_beginChange_55 : decode cX3_beginChange 55 = .ok (.bipush 8, 2) := by decide +kernel
theorem dX3_beginChange_57 : decode cX3_beginChange 57 = .ok (.invokestatic 29, 3) := by decide +kernel
theorem dX3_beginChange_60 : decode cX3_beginChange 60 = .ok (.putfield 22, 3) := by decide +kernel
theorem dX3_beginChange_63 : decode cX3_beginChange 63 = .ok (.aload_n 0, 1) := by decide +kernel
theorem dX3_beginChange_64 : decode cX3_beginChange 64 = .ok (.getfield 11, 3) := by decide +kernel
theorem dX3_beginChange_67 : decode cX3_beginChange 67 = .ok (.aload_n 0, 1) := by decide +kernel
theorem dX3_beginChange_68 : decode cX3_beginChange 68 = .ok (.getfield 18, 3) := by decide +kernel
theorem dX3_beginChange_71 : decode cX3_beginChange 71 = .ok (.aaload, 1) := by decide +kernel
theorem dX3_beginChange_72 : decode cX3_beginChange 72 = .ok (.areturn, 1) := by decide +kernel
theorem dX3_stepBack_0 : decode cX3_stepBack 0 = .ok (.aload_n 0, 1) := by decide +kernel
theorem dX3_stepBack_1 : decode cX3_stepBack 1 = .ok (.getfield 22, 3) := by decide +kernel
theorem dX3_stepBack_4 : decode cX3_stepBack 4 = .ok (.ifCond .ne 5, 3) := by decide +kernel
theorem dX3_stepBack_7 : decode cX3_stepBack 7 = .ok (.iconst (-1), 1) := by decide +kernel
theorem dX3_stepBack_8 : decode cX3_stepBack 8 = .ok (.ireturn, 1) := by decide +kernel
theorem dX3_stepBack_9 : decode cX3_stepBack 9 = .ok (.aload_n 0, 1) := by decide +kernel
theorem dX3_stepBack_10 : decode cX3_stepBack 10 = .ok (.aload_n 0, 1) := by decide +kernel
theorem dX3_stepBack_11 : decode cX3_stepBack 11 = .ok (.getfield 18, 3) := by decide +kernel
theorem dX3_stepBack_14 : decode cX3_stepBack 14 = .ok (.ifCond .le 12, 3) := by decide +kernel
theorem dX3_stepBack_17 : decode cX3_stepBack 17 = .ok (.aload_n 0, 1) := by decide +kernel
theorem dX3_stepBack_18 : decode cX3_stepBack 18 = .ok (.getfield 18, 3) := by decide +kernel
theorem dX3_stepBack_21 : decode cX3_stepBack 21 = .ok (.iconst 1, 1) := by decide +kernel
theorem dX3_stepBack_22 : decode cX3_stepBack 22 = .ok (.isub, 1) := by decide +kernel
theorem dX3_stepBack_23 : decode cX3_stepBack 23 = .ok (.goto 10, 3) := by decide +kernel
theorem dX3_stepBack_26 : decode cX3_stepBack 26 = .ok (.aload_n 0, 1) := by decide +kernel
theorem dX3_stepBack_27 : decode cX3_stepBack 27 = .ok (.getfield 11, 3) := by decide +kernel
theorem dX3_stepBack_30 : decode cX3_stepBack 30 = .ok (.arraylength, 1) := by decide +kernel
theorem dX3_stepBack_31 : decode cX3_stepBack 31 = .ok (.iconst 1, 1) := by decide +kernel
theorem dX3_stepBack_32 : decode cX3_stepBack 32 = .ok (.isub, 1) := by decide +kernel
theorem dX3_stepBack_33 : decode cX3_stepBack 33 = .ok (.putfield 18, 3) := by decide +kernel
theorem dX3_stepBack_36 : decode cX3_stepBack 36 = .ok (.aload_n 0, 1) := by decide +kernel
theorem dX3_stepBack_37 : decode cX3_stepBack 37 = .ok (.dup, 1) := by decide +kernel
theorem dX3_stepBack_38 : decode cX3_stepBack 38 = .ok (.getfield 22, 3) := by decide +kernel
theorem dX3_stepBack_41 : decode cX3_stepBack 41 = .ok (.iconst 1, 1) := by decide +kernel
theorem dX3_stepBack_42 : decode cX3_stepBack 42 = .ok (.isub, 1) := by decide +kernel
theorem dX3_stepBack_43 : decode cX3_stepBack 43 = .ok (.putfield 22, 3) := by decide +kernel
theorem dX3_stepBack_46 : decode cX3_stepBack 46 = .ok (.aload_n 0, 1) := by decide +kernel
theorem dX3_stepBack_47 : decode cX3_stepBack 47 = .ok (.getfield 22, 3) := by decide +kernel
theorem dX3_stepBack_50 : decode cX3_stepBack 50 = .ok (.ireturn, 1) := by decide +kernel
theorem dX4_init_0 : decode cX4_init 0 = .ok (.aload_n 0, 1) := by decide +kernel
theorem dX4_init_1 : decode cX4_init 1 = .ok (.invokespecial 3, 3) := by decide +kernel
theorem dX4_init_4 : decode cX4_init 4 = .ok (.aload_n 0, 1) := by decide +kernel
theorem dX4_init_5 : decode cX4_init 5 = .ok (.bipush 20, 2) := by decide +kernel
theorem dX4_init_7 : decode cX4_init 7 = .ok (.anewarray 9, 3) := by decide +kernel
theorem dX4_init_10 : decode cX4_init 10 = .ok (.putfield 11, 3) := by decide +kernel
theorem dX4_init_13 : decode cX4_init 13 = .ok (.iconst 0, 1) := by decide +kernel
theorem dX4_init_14 : decode cX4_init 14 = .ok (.istore_n 1, 1) := by decide +kernel
theorem dX4_init_15 : decode cX4_init 15 = .ok (.iload_n 1, 1) := by decide +kernel
theorem dX4_init_16 : decode cX4_init 16 = .ok (.bipush 20, 2) := by decide +kernel
theorem dX4_init_18 : decode cX4_init 18 = .ok (.if_icmp .ge 22, 3) := by decide +kernel
theorem dX4_init_21 : decode cX4_init 21 = .ok (.aload_n 0, 1) := by decide +kernel
theorem dX4_init_22 : decode cX4_init 22 = .ok (.getfield 11, 3) := by decide +kernel
theorem dX4_init_25 : decode cX4_init 25 = .ok (.iload_n 1, 1) := by decide +kernel
theorem dX4_init_26 : decode cX4_init 26 = .ok (.new 9, 3) := by decide +kernel
theorem dX4_init_29 : decode cX4_init 29 = .ok (.dup, 1) := by decide +kernel
theorem dX4_init_30 : decode cX4_init 30 = .ok (.invokespecial 17, 3) := by decide +kernel
theorem dX4_init_33 : decode cX4_init 33 = .ok (.aastore, 1) := by decide +kernel
theorem dX4_init_34 : decode cX4_init 34 = .ok (.iinc 1 1, 3) := by decide +kernel
theorem dX4_init_37 : decode cX4_init 37 = .ok (.goto (-22), 3) := by decide +kernel
theorem dX4_init_40 : decode cX4_init 40 = .ok (.aload_n 0, 1) := by decide +kernel
theorem dX4_init_41 : decode cX4_init 41 = .ok (.bipush 8, 2) := by decide +kernel
theorem dX4_init_43 : decode cX4_init 43 = .ok (.newarray .int, 2) := by decide +kernel
theorem dX4_init_45 : decode cX4_init 45 = .ok (.putfield 18, 3) := by decide +kernel
theorem dX4_init_48 : decode cX4_init 48 = .ok (.aload_n 0, 1) := by decide +kernel
theorem dX4_init_49 : decode cX4_init 49 = .ok (.bipush 8, 2) := by decide +kernel
theorem dX4_init_51 : decode cX4_init 51 = .ok (.newarray .int, 2) := by decide +kernel
theorem dX4_init_53 : decode cX4_init 53 = .ok (.putfield 22, 3) := by decide +kernel
theorem dX4_init_56 : decode cX4_init 56 = .ok (.aload_n 0, 1) := by decide +kernel
theorem dX4_init_57 : decode cX4_init 57 = .ok (.bipush 10, 2) := by decide +kernel
theorem dX4_init_59 : decode cX4_init 59 = .ok (.newarray .int, 2) := by decide +kernel
theorem dX4_init_61 : decode cX4_init 61 = .ok (.putfield 25, 3) := by decide +kernel
theorem dX4_init_64 : decode cX4_init 64 = .ok (.aload_n 0, 1) := by decide +kernel
theorem dX4_init_65 : decode cX4_init 65 = .ok (.new 28, 3) := by decide +kernel
theorem dX4_init_68 : decode cX4_init 68 = .ok (.dup, 1) := by decide +kernel
theorem dX4_init_69 : decode cX4_init 69 = .ok (.invokespecial 30, 3) := by decide +kernel
theorem dX4_init_72 : decode cX4_init 72 = .ok (.putfield 31, 3) := by decide +kernel
theorem dX4_init_75 : decode cX4_init 75 = .ok (.aload_n 0, 1) := by decide +kernel
theorem dX4_init_76 : decode cX4_init 76 = .ok (.new 35, 3) := by decide +kernel
theorem dX4_init_79 : decode cX4_init 79 = .ok (.dup, 1) := by decide +kernel
theorem dX4_init_80 : decode cX4_init 80 = .ok (.sipush 160, 3) := by decide +kernel
theorem dX4_init_83 : decode cX4_init 83 = .ok (.invokespecial 37, 3) := by decide +kernel
theorem dX4_init_86 : decode cX4_init 86 = .ok (.putfield 40, 3) := by decide +kernel
theorem dX4_init_89 : decode cX4_init 89 = .ok (.return_, 1) := by decide +kernel
theorem dX4_clear_0 : decode cX4_clear 0 = .ok (.aload_n 0, 1) := by decide +kernel
theorem dX4_clear_1 : decode cX4_clear 1 = .ok (.iconst 0, 1) := by decide +kernel
theorem dX4_clear_2 : decode cX4_clear 2 = .ok (.putfield 44, 3) := by decide +kernel
theorem dX4_clear_5 : decode cX4_clear 5 = .ok (.aload_n 0, 1) := by decide +kernel
theorem dX4_clear_6 : decode cX4_clear 6 = .ok (.iconst 0, 1) := by decide +kernel
theorem dX4_clear_7 : decode cX4_clear 7 = .ok (.putfield 48, 3) := by decide +kernel
theorem dX4_clear_10 : decode cX4_clear 10 = .ok (.iconst 0, 1) := by decide +kernel
theorem dX4_clear_11 : decode cX4_clear 11 = .ok (.istore_n 1, 1) := by decide +kernel
theorem dX4_clear_12 : decode cX4_clear 12 = .ok (.iload_n 1, 1) := by decide +kernel
theorem dX4_clear_13 : decode cX4_clear 13 = .ok (.aload_n 0, 1) := by decide +kernel
theorem dX4_clear_14 : decode cX4_clear 14 = .ok (.getfield 25, 3) := by decide +kernel
theorem dX4_clear_17 : decode cX4_clear 17 = .ok (.arraylength, 1) := by decide +kernel
theorem dX4_clear_18 : decode cX4_clear 18 = .ok (.if_icmp .ge 16, 3) := by decide +kernel
theorem dX4_clear_21 : decode cX4_clear 21 = .ok (.aload_n 0, 1) := by decide +kernel
theorem dX4_clear_22 : decode cX4_clear 22 = .ok (.getfield 25, 3) := by decide +kernel
theorem dX4_clear_25 : decode cX4_clear 25 = .ok (.iload_n 1, 1) := by decide +kernel
theorem dX4_clear_26 : decode cX4_clear 26 = .ok (.iconst 0, 1) := by decide +kernel
theorem dX4_clear_27 : decode cX4_clear 27 = .ok (.iastore, 1) := by decide +kernel
theorem dX4_clear_28 : decode cX4_clear 28 = .ok (.iinc 1 1, 3) := by decide +kernel
theorem dX4_clear_31 : decode cX4_clear 31 = .ok (.goto (-19), 3) := by decide +kernel
theorem dX4_clear_34 : decode cX4_clear 34 = .ok (.aload_n 0, 1) := by decide +kernel
theorem dX4_clear_35 : decode cX4_clear 35 = .ok (.getfield 31, 3) := by decide +kernel
theorem dX4_clear_38 : decode cX4_clear 38 = .ok (.invokevirtual 51, 3) := by decide +kernel
theorem dX4_clear_41 : decode cX4_clear 41 = .ok (.aload_n 0, 1) := by decide +kernel
theorem dX4_clear_42 : decode cX4_clear 42 = .ok (.getfield 40, 3) := by decide +kernel
theorem dX4_clear_45 : decode cX4_clear 45 = .ok (.iconst 0, 1) := by decide +kernel
theorem dX4_clear_46 : decode cX4_clear 46 = .ok (.putfield 54, 3) := by decide +kernel
theorem dX4_clear_49 : decode cX4_clear 49 = .ok (.aload_n 0, 1) := by decide +kernel
theorem dX4_clear_50 : decode cX4_clear 50 = .ok (.iconst 0, 1) := by decide +kernel
theorem dX4_clear_51 : decode cX4_clear 51 = .ok (.putfield 57, 3) := by decide +kernel
theorem dX4_clear_54 : decode cX4_clear 54 = .ok (.return_, 1) := by decide +kernel
theorem dX4_copyFrom_0 : decode cX4_copyFrom 0 = .ok (.aload_n 0, 1) := by decide +kernel
theorem dX4_copyFrom_1 : decode cX4_copyFrom 1 = .ok (.aload_n 1, 1) := by decide +kernel
theorem dX4_copyFrom_2 : decode cX4_copyFrom 2 = .ok (.getfield 44, 3) := by decide +kernel
theorem dX4_copyFrom_5 : decode cX4_copyFrom 5 = .ok (.putfield 44, 3) := by decide +kernel
theorem dX4_copyFrom_8 : decode cX4_copyFrom 8 = .ok (.iconst 0, 1) := by decide +kernel
theorem dX4_copyFrom_9 : decode cX4_copyFrom 9 = .ok (.istore_n 2, 1) := by decide +kernel
theorem dX4_copyFrom_10 : decode cX4_copyFrom 10 = .ok (.iload_n 2, 1) := by decide +kernel
theorem dX4_copyFrom_11 : decode cX4_copyFrom 11 = .ok (.aload_n 0, 1) := by decide +kernel
theorem dX4_copyFrom_12 : decode cX4_copyFrom 12 = .ok (.getfield 44, 3) := by decide +kernel
theorem dX4_copyFrom_15 : decode cX4_copyFrom 15 = .ok (.if_icmp .ge 24, 3) := by decide +kernel
theorem dX4_copyFrom_18 : decode cX4_copyFrom 18 = .ok (.aload_n 0, 1) := by decide +kernel
theorem dX4_copyFrom_19 : decode cX4_copyFrom 19 = .ok (.getfield 11, 3) := by decide +kernel
theorem dX4_copyFrom_22 : decode cX4_copyFrom 22 = .ok (.iload_n 2, 1) := by decide +kernel
theorem dX4_copyFrom_23 : decode cX4_copyFrom 23 = .ok (.aaload, 1) := by decide +kernel
theorem dX4_copyFrom_24 : decode cX4_copyFrom 24 = .ok (.aload_n 1, 1) := by decide +kernel
theorem dX4_copyFrom_25 : decode cX4_copyFrom 25 = .ok (.getfield 11, 3) := by decide +kernel
theorem dX4_copyFrom_28 : decode cX4_copyFrom 28 = .ok (.iload_n 2, 1) := by decide +kernel
theorem dX4_copyFrom_29 : decode cX4_copyFrom 29 = .ok (.aaload, 1) := by decide +kernel
theorem dX4_copyFrom_30 : decode cX4_copyFrom 30 = .ok (.invokevirtual 60, 3) := by decide +kernel
theorem dX4_copyFrom_33 : decode cX4_copyFrom 33 = .ok (.iinc 2 1, 3) := by decide +kernel
theorem dX4_copyFrom_36 : decode cX4_copyFrom 36 = .ok (.goto (-26), 3) := by decide +kernel
theorem dX4_copyFrom_39 : decode cX4_copyFrom 39 = .ok (.aload_n 0, 1) := by decide +kernel
theorem dX4_copyFrom_40 : decode cX4_copyFrom 40 = .ok (.aload_n 1, 1) := by decide +kernel
theorem dX4_copyFrom_41 : decode cX4_copyFrom 41 = .ok (.getfield 48, 3) := by decide +kernel
theorem dX4_copyFrom_44 : decode cX4_copyFrom 44 = .ok (.putfield 48, 3) := by decide +kernel
theorem dX4_copyFrom_47 : decode cX4_copyFrom 47 = .ok (.iconst 0, 1) := by decide +kernel
theorem dX4_copyFrom_48 : decode cX4_copyFrom 48 = .ok (.istore_n 2, 1) := by decide +kernel
theorem dX4_copyFrom_49 : decode cX4_copyFrom 49 = .ok (.iload_n 2, 1) := by decide +kernel
theorem dX4_copyFrom_50 : decode cX4_copyFrom 50 = .ok (.aload_n 0, 1) := by decide +kernel
theorem dX4_copyFrom_51 : decode cX4_copyFrom 51 = .ok (.getfield 48, 3) := by decide +kernel
theorem dX4_copyFrom_54 : decode cX4_copyFrom 54 = .ok (.if_icmp .ge 33, 3) := by decide +kernel
theorem dX4_copyFrom_57 : decode cX4_copyFrom 57 = .ok (.aload_n 0, 1) := by decide +kernel
theorem dX4_copyFrom_58 : decode cX4_copyFrom 58 = .ok (.getfield 18, 3) := by decide +kernel
theorem dX4_copyFrom_61 : decode cX4_copyFrom 61 = .ok (.iload_n 2, 1) := by decide +kernel
theorem dX4_copyFrom_62 : decode cX4_copyFrom 62 = .ok (.aload_n 1, 1) := by decide +kernel
theorem dX4_copyFrom_63 : decode cX4_copyFrom 63 = .ok (.getfield 18, 3) := by decide +kernel
theorem dX4_copyFrom_66 : decode cX4_copyFrom 66 = .ok (.iload_n 2, 1) := by decide +kernel
theorem dX4_copyFrom_67 : decode cX4_copyFrom 67 = .ok (.iaload, 1) := by decide +kernel
theorem dX4_copyFrom_68 : decode cX4_copyFrom 68 = .ok (.iastore, 1) := by decide +kernel
theorem dX4_copyFrom_69 : decode cX4_copyFrom 69 = .ok (.aload_n 0, 1) := by decide +kernel
theorem dX4_copyFrom_70 : decode cX4_copyFrom 70 = .ok (.getfield 22, 3) := by decide +kernel
theorem dX4_copyFrom_73 : decode cX4_copyFrom 73 = .ok (.iload_n 2, 1) := by decide +kernel
theorem dX4_copyFrom_74 : decode cX4_copyFrom 74 = .ok (.aload_n 1, 1) := by decide +kernel
theorem dX4_copyFrom_75 : decode cX4_copyFrom 75 = .ok (.getfield 22, 3) := by decide +kernel
theorem dX4_copyFrom_78 : decode cX4_copyFrom 78 = .ok (.iload_n 2, 1) := by decide +kernel
theorem dX4_copyFrom_79 : decode cX4_copyFrom 79 = .ok (.iaload, 1) := by decide +kernel
theorem dX4_copyFrom_80 : decode cX4_copyFrom 80 = .ok (.iastore, 1) := by decide +kernel
theorem dX4_copyFrom_81 : decode cX4_copyFrom 81 = .ok (.iinc 2 1, 3) := by decide +kernel
theorem dX4_copyFrom_84 : decode cX4_copyFrom 84 = .ok (.goto (-35), 3) := by decide +kernel
theorem dX4_copyFrom_87 : decode cX4_copyFrom 87 = .ok (.iconst 0, 1) := by decide +kernel
theorem dX4_copyFrom_88 : decode cX4_copyFrom 88 = .ok (.istore_n 2, 1) := by decide +kernel
theorem dX4_copyFrom_89 : decode cX4_copyFrom 89 = .ok (.iload_n 2, 1) := by decide +kernel
theorem dX4_copyFrom_90 : decode cX4_copyFrom 90 = .ok (.aload_n 0, 1) := by decide +kernel
theorem dX4_copyFrom_91 : decode cX4_copyFrom 91 = .ok (.getfield 25, 3) := by decide +kernel
theorem dX4_copyFrom_94 : decode cX4_copyFrom 94 = .ok (.arraylength, 1) := by decide +kernel
theorem dX4_copyFrom_95 : decode cX4_copyFrom 95 = .ok (.if_icmp .ge 21, 3) := by decide +kernel
theorem dX4_copyFrom_98 : decode cX4_copyFrom 98 = .ok (.aload_n 0, 1) := by decide +kernel
theorem dX4_copyFrom_99 : decode cX4_copyFrom 99 = .ok (.getfield 25, 3) := by decide +kernel
theorem dX4_copyFrom_102 : decode cX4_copyFrom 102 = .ok (.iload_n 2, 1) := by decide +kernel
theorem dX4_copyFrom_103 : decode cX4_copyFrom 103 = .ok (.aload_n 1, 1) := by decide +kernel
theorem dX4_copyFrom_104 : decode cX4_copyFrom 104 = .ok (.getfield 25, 3) := by decide +kernel
theorem dX4_copyFrom_107 : decode cX4_copyFrom 107 = .ok (.iload_n 2, 1) := by decide +kernel
theorem dX4_copyFrom_108 : decode cX4_copyFrom 108 = .ok (.iaload, 1) := by decide +kernel
theorem dX4_copyFrom_109 : decode cX4_copyFrom 109 = .ok (.iastore, 1) := by decide +kernel
theorem dX4_copyFrom_110 : decode cX4_copyFrom 110 = .ok (.iinc 2 1, 3) := by decide +kernel
theorem dX4_copyFrom_113 : decode cX4_copyFrom 113 = .ok (.goto (-24), 3) := by decide +kernel
theorem dX4_copyFrom_116 : decode cX4_copyFrom 116 = .ok (.aload_n 0, 1) := by decide +kernel
theorem dX4_copyFrom_117 : decode cX4_copyFrom 117 = .ok (.getfield 31, 3) := by decide +kernel
theorem dX4_copyFrom_120 : decode cX4_copyFrom 120 = .ok (.aload_n 1, 1) := by decide +kernel
theorem dX4_copyFrom_121 : decode cX4_copyFrom 121 = .ok (.getfield 31, 3) := by decide +kernel
theorem dX4_copyFrom_124 : decode cX4_copyFrom 124 = .ok (.invokevirtual 64, 3) := by decide +kernel
theorem dX4_copyFrom_127 : decode cX4_copyFrom 127 = .ok (.aload_n 0, 1) := by decide +kernel
theorem dX4_copyFrom_128 : decode cX4_copyFrom 128 = .ok (.getfield 40, 3) := by decide +kernel
theorem dX4_copyFrom_131 : decode cX4_copyFrom 131 = .ok (.aload_n 1, 1) := by decide +kernel
theorem dX4_copyFrom_132 : decode cX4_copyFrom 132 = .ok (.getfield 40, 3) := by decide +kernel
theorem dX4_copyFrom_135 : decode cX4_copyFrom 135 = .ok (.invokevirtual 67, 3) := by decide +kernel
theorem dX4_copyFrom_138 : decode cX4_copyFrom 138 = .ok (.aload_n 0, 1) := by decide +kernel
theorem dX4_copyFrom_139 : decode cX4_copyFrom 139 = .ok (.aload_n 1, 1) := by decide +kernel
theorem dX4_copyFrom_140 : decode cX4_copyFrom 140 = .ok (.getfield 57, 3) := by decide +kernel
theorem dX4_copyFrom_143 : decode cX4_copyFrom 143 = .ok (.putfield 57, 3) := by decide +kernel
theorem dX4_copyFrom_146 : decode cX4_copyFrom 146 = .ok (.return_, 1) := by decide +kernel
theorem dX4_hasBreakAt_0 : decode cX4_hasBreakAt 0 = .ok (.iconst 0, 1) := by decide +kernel
theorem dX4_hasBreakAt_1 : decode cX4_hasBreakAt 1 = .ok (.istore_n 3, 1) := by decide +kernel
theorem dX4_hasBreakAt_2 : decode cX4_hasBreakAt 2 = .ok (.iload_n 3, 1) := by decide +kernel
theorem dX4_hasBreakAt_3 : decode cX4_hasBreakAt 3 = .ok (.aload_n 0, 1) := by decide +kernel
theorem dX4_hasBreakAt_4 : decode cX4_hasBreakAt 4 = .ok (.getfield 44, 3) := by decide +kernel
theorem dX4_hasBreakAt_7 : decode cX4_hasBreakAt 7 = .ok (.if_icmp .ge 37, 3) := by decide +kernel
theorem dX4_hasBreakAt_10 : decode cX4_hasBreakAt 10 = .ok (.aload_n 0, 1) := by decide +kernel
theorem dX4_hasBreakAt_11 : decode cX4_hasBreakAt 11 = .ok (.getfield 11, 3) := by decide +kernel
theorem dX4_hasBreakAt_14 : decode cX4_hasBreakAt 14 = .ok (.iload_n 3, 1) := by decide +kernel
theorem dX4_hasBreakAt_15 : decode cX4_hasBreakAt 15 = .ok (.aaload, 1) := by decide +kernel
theorem dX4_hasBreakAt_16 : decode cX4_hasBreakAt 16 = .ok (.getfield 70, 3) := by decide +kernel
theorem dX4_hasBreakAt_19 : decode cX4_hasBreakAt 19 = .ok (.iload_n 1, 1) := by decide +kernel
theorem dX4_hasBreakAt_20 : decode cX4_hasBreakAt 20 = .ok (.if_icmp .ne 18, 3) := by decide +kernel
theorem dX4_hasBreakAt_23 : decode cX4_hasBreakAt 23 = .ok (.aload_n 0, 1) := by decide +kernel
theorem dX4_hasBreakAt_24 : decode cX4_hasBreakAt 24 = .ok (.getfield 11, 3) := by decide +kernel
theorem dX4_hasBreakAt_27 : decode cX4_hasBreakAt 27 = .ok (.iload_n 3, 1) := by decide +kernel
theorem dX4_hasBreakAt_28 : decode cX4_hasBreakAt 28 = .ok (.aaload, 1) := by decide +kernel
theorem dX4_hasBreakAt_29 : decode cX4_hasBreakAt 29 = .ok (.getfield 73, 3) := by decide +kernel
theorem dX4_hasBreakAt_32 : decode cX4_hasBreakAt 32 = .ok (.iload_n 2, 1) := by decide +kernel
theorem dX4_hasBreakAt_33 : decode cX4_hasBreakAt 33 = .ok (.if_icmp .ne 5, 3) := by decide +kernel
theorem dX4_hasBreakAt_36 : decode cX4_hasBreakAt 36 = .ok (.iconst 1, 1) := by decide +kernel
theorem dX4_hasBreakAt_37 : decode cX4_hasBreakAt 37 = .ok (.ireturn, 1) := by decide +kernel
theorem dX4_hasBreakAt_38 : decode cX4_hasBreakAt 38 = .ok (.iinc 3 1, 3) := by decide +kernel
theorem dX4_hasBreakAt_41 : decode cX4_hasBreakAt 41 = .ok (.goto (-39), 3) := by decide +kernel
theorem dX4_hasBreakAt_44 : decode cX4_hasBreakAt 44 = .ok (.iconst 0, 1) := by decide +kernel
theorem dX4_hasBreakAt_45 : decode cX4_hasBreakAt 45 = .ok (.ireturn, 1) := by decide +kernel
theorem dX4_addBreak_0 : decode cX4_addBreak 0 = .ok (.aload_n 0, 1) := by decide +kernel
theorem dX4_addBreak_1 : decode cX4_addBreak 1 = .ok (.getfield 44, 3) := by decide +kernel
theorem dX4_addBreak_4 : decode cX4_addBreak 4 = .ok (.bipush 20, 2) := by decide +kernel
theorem dX4_addBreak_6 : decode cX4_addBreak 6 = .ok (.if_icmp .lt 4, 3) := by decide +kernel
theorem dX4_addBreak_9 : decode cX4_addBreak 9 = .ok (.return_, 1) := by decide +kernel
theorem dX4_addBreak_10 : decode cX4_addBreak 10 = .ok (.aload_n 0, 1) := by decide +kernel
theorem dX4_addBreak_11 : decode cX4_addBreak 11 = .ok (.getfield 11, 3) := by decide +kernel
theorem dX4_addBreak_14 : decode cX4_addBreak 14 = .ok (.aload_n 0, 1) := by decide +kernel
theorem dX4_addBreak_15 : decode cX4_addBreak 15 = .ok (.getfield 44, 3) := by decide +kernel
theorem dX4_addBreak_18 : decode cX4_addBreak 18 = .ok (.aaload, 1) := by decide +kernel
theorem dX4_addBreak_19 : decode cX4_addBreak 19 = .ok (.astore 5, 2) := by decide +kernel
theorem dX4_addBreak_21 : decode cX4_addBreak 21 = .ok (.aload 5, 2) := by decide +kernel
theorem dX4_addBreak_23 : decode cX4_addBreak 23 = .ok (.iload_n 1, 1) := by decide +kernel
theorem dX4_addBreak_24 : decode cX4_addBreak 24 = .ok (.iload_n 2, 1) := by decide +kernel
theorem dX4_addBreak_25 : decode cX4_addBreak 25 = .ok (.iload_n 3, 1) := by decide +kernel
theorem dX4_addBreak_26 : decode cX4_addBreak 26 = .ok (.iload 4, 2) := by decide +kernel
theorem dX4_addBreak_28 : decode cX4_addBreak 28 = .ok (.invokevirtual 76, 3) := by decide +kernel
theorem dX4_addBreak_31 : decode cX4_addBreak 31 = .ok (.aload_n 0, 1) := by decide +kernel
theorem dX4_addBreak_32 : decode cX4_addBreak 32 = .ok (.getfield 44, 3) := by decide +kernel
theorem dX4_addBreak_35 : decode cX4_addBreak 35 = .ok (.istore 6, 2) := by decide +kernel
theorem dX4_addBreak_37 : decode cX4_addBreak 37 = .ok (.iload 6, 2) := by decide +kernel
theorem dX4_addBreak_39 : decode cX4_addBreak 39 = .ok (.ifCond .le 42, 3) := by decide +kernel
theorem dX4_addBreak_42 : decode cX4_addBreak 42 = .ok (.aload_n 0, 1) := by decide +kernel
theorem dX4_addBreak_43 : decode cX4_addBreak 43 = .ok (.getfield 11, 3) := by decide +kernel
theorem dX4_addBreak_46 : decode cX4_addBreak 46 = .ok (.iload 6, 2) := by decide +kernel
theorem dX4_addBreak_48 : decode cX4_addBreak 48 = .ok (.iconst 1, 1) := by decide +kernel
theorem dX4_addBreak_49 : decode cX4_addBreak 49 = .ok (.isub, 1) := by decide +kernel
theorem dX4_addBreak_50 : decode cX4_addBreak 50 = .ok (.aaload, 1) := by decide +kernel
theorem dX4_addBreak_51 : decode cX4_addBreak 51 = .ok (.iload_n 1, 1) := by decide +kernel
theorem dX4_addBreak_52 : decode cX4_addBreak 52 = .ok (.iload_n 2, 1) := by decide +kernel
theorem dX4_addBreak_53 : decode cX4_addBreak 53 = .ok (.invokevirtual 80, 3) := by decide +kernel
theorem dX4_addBreak_56 : decode cX4_addBreak 56 = .ok (.ifCond .eq 25, 3) := by decide +kernel
theorem dX4_addBreak_59 : decode cX4_addBreak 59 = .ok (.aload_n 0, 1) := by decide +kernel
theorem dX4_addBreak_60 : decode cX4_addBreak 60 = .ok (.getfield 11, 3) := by decide +kernel
theorem dX4_addBreak_63 : decode cX4_addBreak 63 = .ok (.iload 6, 2) := by decide +kernel
theorem dX4_addBreak_65 : decode cX4_addBreak 65 = .ok (.aload_n 0, 1) := by decide +kernel
theorem dX4_addBreak_66 : decode cX4_addBreak 66 = .ok (.getfield 11, 3) := by decide +kernel
theorem dX4_addBreak_69 : decode cX4_addBreak 69 = .ok (.iload 6, 2) := by decide +kernel
theorem dX4_addBreak_71 : decode cX4_addBreak 71 = .ok (.iconst 1, 1) := by decide +kernel
theorem dX4_addBreak_72 : decode cX4_addBreak 72 = .ok (.isub, 1) := by decide +kernel
theorem dX4_addBreak_73 : decode cX4_addBreak 73 = .ok (.aaload, 1) := by decide +kernel
theorem dX4_addBreak_74 : decode cX4_addBreak 74 = .ok (.aastore, 1) := by decide +kernel
theorem dX4_addBreak_75 : decode cX4_addBreak 75 = .ok (.iinc 6 (-1), 3) := by decide +kernel
theorem dX4_addBreak_78 : decode cX4_addBreak 78 = .ok (.goto (-41), 3) := by decide +kernel
theorem dX4_addBreak_81 : decode cX4_addBreak 81 = .ok (.aload_n 0, 1) := by decide +kernel
theorem dX4_addBreak_82 : decode cX4_addBreak 82 = .ok (.getfield 11, 3) := by decide +kernel
theorem dX4_addBreak_85 : decode cX4_addBreak 85 = .ok (.iload 6, 2) := by decide +kernel
theorem dX4_addBreak_87 : decode cX4_addBreak 87 = .ok (.aload 5, 2) := by decide +kernel
theorem dX4_addBreak_89 : decode cX4_addBreak 89 = .ok (.aastore, 1) := by decide +kernel
theorem dX4_addBreak_90 : decode cX4_addBreak 90 = .ok (.aload_n 0, 1) := by decide +kernel
theorem dX4_addBreak_91 : decode cX4_addBreak 91 = .ok (.dup, 1) := by decide +kernel
theorem dX4_addBreak_92 : decode cX4_addBreak 92 = .ok (.getfield 44, 3) := by decide +kernel
theorem dX4_addBreak_95 : decode cX4_addBreak 95 = .ok (.iconst 1, 1) := by decide +kernel
theorem dX4_addBreak_96 : decode cX4_addBreak 96 = .ok (.iadd, 1) := by decide +kernel
theorem dX4_addBreak_97 : decode cX4_addBreak 97 = .ok (.putfield 44, 3) := by decide +kernel
theorem dX4_addBreak_100 : decode cX4_addBreak 100 = .ok (.return_, 1) := by decide +kernel
theorem dX4_addSponsor_0 : decode cX4_addSponsor 0 = .ok (.aload_n 0, 1) := by decide +kernel
theorem dX4_addSponsor_1 : decode cX4_addSponsor 1 = .ok (.getfield 48, 3) := by decide +kernel
theorem dX4_addSponsor_4 : decode cX4_addSponsor 4 = .ok (.bipush 8, 2) := by decide +kernel
theorem dX4_addSponsor_6 : decode cX4_addSponsor 6 = .ok (.if_icmp .lt 4, 3) := by decide +kernel
theorem dX4_addSponsor_9 : decode cX4_addSponsor 9 = .ok (.return_, 1) := by decide +kernel
theorem dX4_addSponsor_10 : decode cX4_addSponsor 10 = .ok (.aload_n 0, 1) := by decide +kernel
theorem dX4_addSponsor_11 : decode cX4_addSponsor 11 = .ok (.getfield 18, 3) := by decide +kernel
theorem dX4_addSponsor_14 : decode cX4_addSponsor 14 = .ok (.aload_n 0, 1) := by decide +kernel
theorem dX4_addSponsor_15 : decode cX4_addSponsor 15 = .ok (.getfield 48, 3) := by decide +kernel
theorem dX4_addSponsor_18 : decode cX4_addSponsor 18 = .ok (.iload_n 1, 1) := by decide +kernel
theorem dX4_addSponsor_19 : decode cX4_addSponsor 19 = .ok (.iastore, 1) := by decide +kernel
theorem dX4_addSponsor_20 : decode cX4_addSponsor 20 = .ok (.aload_n 0, 1) := by decide +kernel
theorem dX4_addSponsor_21 : decode cX4_addSponsor 21 = .ok (.getfield 22, 3) := by decide +kernel
theorem dX4_addSponsor_24 : decode cX4_addSponsor 24 = .ok (.aload_n 0, 1) := by decide +kernel
theorem dX4_addSponsor_25 : decode cX4_addSponsor 25 = .ok (.getfield 48, 3) := by decide +kernel
theorem dX4_addSponsor_28 : decode cX4_addSponsor 28 = .ok (.iload_n 2, 1) := by decide +kernel
theorem dX4_addSponsor_29 : decode cX4_addSponsor 29 = .ok (.iastore, 1) := by decide +kernel
theorem dX4_addSponsor_30 : decode cX4_addSponsor 30 = .ok (.aload_n 0, 1) := by decide +kernel
theorem dX4_addSponsor_31 : decode cX4_addSponsor 31 = .ok (.dup, 1) := by decide +kernel
theorem dX4_addSponsor_32 : decode cX4_addSponsor 32 = .ok (.getfield 48, 3) := by decide +kernel
theorem dX4_addSponsor_35 : decode cX4_addSponsor 35 = .ok (.iconst 1, 1) := by decide +kernel
theorem dX4_addSponsor_36 : decode cX4_addSponsor 36 = .ok (.iadd, 1) := by decide +kernel
theorem dX4_addSponsor_37 : decode cX4_addSponsor 37 = .ok (.putfield 48, 3) := by decide +kernel
theorem dX4_addSponsor_40 : decode cX4_addSponsor 40 = .ok (.return_, 1) := by decide +kernel
theorem dX4_addBan_0 : decode cX4_addBan 0 = .ok (.aload_n 0, 1) := by decide +kernel
theorem dX4_addBan_1 : decode cX4_addBan 1 = .ok (.getfield 25, 3) := by decide +kernel
theorem dX4_addBan_4 : decode cX4_addBan 4 = .ok (.iload_n 1, 1) := by decide +kernel
theorem dX4_addBan_5 : decode cX4_addBan 5 = .ok (.dup2, 1) := by decide +kernel
theorem dX4_addBan_6 : decode cX4_addBan 6 = .ok (.iaload, 1) := by decide +kernel
theorem dX4_addBan_7 : decode cX4_addBan 7 = .ok (.iconst 1, 1) := by decide +kernel
theorem dX4_addBan_8 : decode cX4_addBan 8 = .ok (.iload_n 2, 1) := by decide +kernel
theorem dX4_addBan_9 : decode cX4_addBan 9 = .ok (.ishl, 1) := by decide +kernel
theorem dX4_addBan_10 : decode cX4_addBan 10 = .ok (.ior, 1) := by decide +kernel
theorem dX4_addBan_11 : decode cX4_addBan 11 = .ok (.iastore, 1) := by decide +kernel
theorem dX4_addBan_12 : decode cX4_addBan 12 = .ok (.aload_n 0, 1) := by decide +kernel
theorem dX4_addBan_13 : decode cX4_addBan 13 = .ok (.getfield 25, 3) := by decide +kernel
theorem dX4_addBan_16 : decode cX4_addBan 16 = .ok (.iload_n 2, 1) := by decide +kernel
theorem dX4_addBan_17 : decode cX4_addBan 17 = .ok (.dup2, 1) := by decide +kernel
theorem dX4_addBan_18 : decode cX4_addBan 18 = .ok (.iaload, 1) := by decide +kernel
theorem dX4_addBan_19 : decode cX4_addBan 19 = .ok (.iconst 1, 1) := by decide +kernel
theorem dX4_addBan_20 : decode cX4_addBan 20 = .ok (.iload_n 1, 1) := by decide +kernel
theorem dX4_addBan_21 : decode cX4_addBan 21 = .ok (.ishl, 1) := by decide +kernel
theorem dX4_addBan_22 : decode cX4_addBan 22 = .ok (.ior, 1) := by decide +kernel
theorem dX4_addBan_23 : decode cX4_addBan 23 = .ok (.iastore, 1) := by decide +kernel
theorem dX4_addBan_24 : decode cX4_addBan 24 = .ok (.return_, 1) := by decide +kernel
theorem dX4_hasBan_0 : decode cX4_hasBan 0 = .ok (.aload_n 0, 1) := by decide +kernel
theorem dX4_hasBan_1 : decode cX4_hasBan 1 = .ok (.getfield 25, 3) := by decide +kernel
theorem dX4_hasBan_4 : decode cX4_hasBan 4 = .ok (.iload_n 1, 1) := by decide +kernel
theorem dX4_hasBan_5 : decode cX4_hasBan 5 = .ok (.iaload, 1) := by decide +kernel
theorem dX4_hasBan_6 : decode cX4_hasBan 6 = .ok (.iload_n 2, 1) := by decide +kernel
theorem dX4_hasBan_7 : decode cX4_hasBan 7 = .ok (.ishr, 1) := by decide +kernel
theorem dX4_hasBan_8 : decode cX4_hasBan 8 = .ok (.iconst 1, 1) := by decide +kernel
theorem dX4_hasBan_9 : decode cX4_hasBan 9 = .ok (.iand, 1) := by decide +kernel
theorem dX4_hasBan_10 : decode cX4_hasBan 10 = .ok (.ifCond .eq 7, 3) := by decide +kernel
theorem dX4_hasBan_13 : decode cX4_hasBan 13 = .ok (.iconst 1, 1) := by decide +kernel
theorem dX4_hasBan_14 : decode cX4_hasBan 14 = .ok (.goto 4, 3) := by decide +kernel
theorem dX4_hasBan_17 : decode cX4_hasBan 17 = .ok (.iconst 0, 1) := by decide +kernel
theorem dX4_hasBan_18 : decode cX4_hasBan 18 = .ok (.ireturn, 1) := by decide +kernel
theorem dX4_clash_0 : decode cX4_clash 0 = .ok (.aload_n 0, 1) := by decide +kernel
theorem dX4_clash_1 : decode cX4_clash 1 = .ok (.aload_n 0, 1) := by decide +kernel
theorem dX4_clash_2 : decode cX4_clash 2 = .ok (.getfield 18, 3) := by decide +kernel
theorem dX4_clash_5 : decode cX4_clash 5 = .ok (.iload_n 1, 1) := by decide +kernel
theorem dX4_clash_6 : decode cX4_clash 6 = .ok (.iaload, 1) := by decide +kernel
theorem dX4_clash_7 : decode cX4_clash 7 = .ok (.aload_n 0, 1) := by decide +kernel
theorem dX4_clash_8 : decode cX4_clash 8 = .ok (.getfield 18, 3) := by decide +kernel
theorem dX4_clash_11 : decode cX4_clash 11 = .ok (.iload_n 2, 1) := by decide +kernel
theorem dX4_clash_12 : decode cX4_clash 12 = .ok (.iaload, 1) := by decide +kernel
theorem dX4_clash_13 : decode cX4_clash 13 = .ok (.invokevirtual 84, 3) := by decide +kernel
theorem dX4_clash_16 : decode cX4_clash 16 = .ok (.ireturn, 1) := by decide +kernel
theorem dX4_spotsOf_0 : decode cX4_spotsOf 0 = .ok (.iconst 0, 1) := by decide +kernel
theorem dX4_spotsOf_1 : decode cX4_spotsOf 1 = .ok (.istore_n 2, 1) := by decide +kernel
theorem dX4_spotsOf_2 : decode cX4_spotsOf 2 = .ok (.iconst 0, 1) := by decide +kernel
theorem dX4_spotsOf_3 : decode cX4_spotsOf 3 = .ok (.istore_n 3, 1) := by decide +kernel
theorem dX4_spotsOf_4 : decode cX4_spotsOf 4 = .ok (.iload_n 3, 1) := by decide +kernel
theorem dX4_spotsOf_5 : decode cX4_spotsOf 5 = .ok (.aload_n 0, 1) := by decide +kernel
theorem dX4_spotsOf_6 : decode cX4_spotsOf 6 = .ok (.getfield 44, 3) := by decide +kernel
theorem dX4_spotsOf_9 : decode cX4_spotsOf 9 = .ok (.if_icmp .ge 25, 3) := by decide +kernel
theorem dX4_spotsOf_12 : decode cX4_spotsOf 12 = .ok (.iload_n 2, 1) := by decide +kernel
theorem dX4_spotsOf_13 : decode cX4_spotsOf 13 = .ok (.aload_n 0, 1) := by decide +kernel
theorem dX4_spotsOf_14 : decode cX4_spotsOf 14 = .ok (.getfield 11, 3) := by decide +kernel
theorem dX4_spotsOf_17 : decode cX4_spotsOf 17 = .ok (.iload_n 3, 1) := by decide +kernel
theorem dX4_spotsOf_18 : decode cX4_spotsOf 18 = .ok (.aaload, 1) := by decide +kernel
theorem dX4_spotsOf_19 : decode cX4_spotsOf 19 = .ok (.getfield 87, 3) := by decide +kernel
theorem dX4_spotsOf_22 : decode cX4_spotsOf 22 = .ok (.iload_n 1, 1) := by decide +kernel
theorem dX4_spotsOf_23 : decode cX4_spotsOf 23 = .ok (.invokevirtual 90, 3) := by decide +kernel
theorem dX4_spotsOf_26 : decode cX4_spotsOf 26 = .ok (.iadd, 1) := by decide +kernel
theorem dX4_spotsOf_27 : decode cX4_spotsOf 27 = .ok (.istore_n 2, 1) := by decide +kernel
theorem dX4_spotsOf_28 : decode cX4_spotsOf 28 = .ok (.iinc 3 1, 3) := by decide +kernel
theorem dX4_spotsOf_31 : decode cX4_spotsOf 31 = .ok (.goto (-27), 3) := by decide +kernel
theorem dX4_spotsOf_34 : decode cX4_spotsOf 34 = .ok (.iload_n 2, 1) := by decide +kernel
theorem dX4_spotsOf_35 : decode cX4_spotsOf 35 = .ok (.ireturn, 1) := by decide +kernel
theorem dX4_airedSpotsOf_0 : decode cX4_airedSpotsOf 0 = .ok (.iconst 0, 1) := by decide +kernel
theorem dX4_airedSpotsOf_1 : decode cX4_airedSpotsOf 1 = .ok (.istore_n 2, 1) := by decide +kernel
theorem dX4_airedSpotsOf_2 : decode cX4_airedSpotsOf 2 = .ok (.iconst 0, 1) := by decide +kernel
theorem dX4_airedSpotsOf_3 : decode cX4_airedSpotsOf 3 = .ok (.istore_n 3, 1) := by decide +kernel
theorem dX4_airedSpotsOf_4 : decode cX4_airedSpotsOf 4 = .ok (.iload_n 3, 1) := by decide +kernel
theorem dX4_airedSpotsOf_5 : decode cX4_airedSpotsOf 5 = .ok (.aload_n 0, 1) := by decide +kernel
theorem dX4_airedSpotsOf_6 : decode cX4_airedSpotsOf 6 = .ok (.getfield 44, 3) := by decide +kernel
theorem dX4_airedSpotsOf_9 : decode cX4_airedSpotsOf 9 = .ok (.if_icmp .ge 38, 3) := by decide +kernel
theorem dX4_airedSpotsOf_12 : decode cX4_airedSpotsOf 12 = .ok (.aload_n 0, 1) := by decide +kernel
theorem dX4_airedSpotsOf_13 : decode cX4_airedSpotsOf 13 = .ok (.getfield 11, 3) := by decide +kernel
theorem dX4_airedSpotsOf_16 : decode cX4_airedSpotsOf 16 = .ok (.iload_n 3, 1) := by decide +kernel
theorem dX4_airedSpotsOf_17 : decode cX4_airedSpotsOf 17 = .ok (.aaload, 1) := by decide +kernel
theorem dX4_airedSpotsOf_18 : decode cX4_airedSpotsOf 18 = .ok (.getfield 94, 3) := by decide +kernel
theorem dX4_airedSpotsOf_21 : decode cX4_airedSpotsOf 21 = .ok (.iconst 1, 1) := by decide +kernel
theorem dX4_airedSpotsOf_22 : decode cX4_airedSpotsOf 22 = .ok (.if_icmp .ne 19, 3) := by decide +kernel
theorem dX4_airedSpotsOf_25 : decode cX4_airedSpotsOf 25 = .ok (.iload_n 2, 1) := by decide +kernel
theorem dX4_airedSpotsOf_26 : decode cX4_airedSpotsOf 26 = .ok (.aload_n 0, 1) := by decide +kernel
theorem dX4_airedSpotsOf_27 : decode cX4_airedSpotsOf 27 = .ok (.getfield 11, 3) := by decide +kernel
theorem dX4_airedSpotsOf_30 : decode cX4_airedSpotsOf 30 = .ok (.iload_n 3, 1) := by decide +kernel
theorem dX4_airedSpotsOf_31 : decode cX4_airedSpotsOf 31 = .ok (.aaload, 1) := by decide +kernel
theorem dX4_airedSpotsOf_32 : decode cX4_airedSpotsOf 32 = .ok (.getfield 87, 3) := by decide +kernel
theorem dX4_airedSpotsOf_35 : decode cX4_airedSpotsOf 35 = .ok (.iload_n 1, 1) := by decide +kernel
theorem dX4_airedSpotsOf_36 : decode cX4_airedSpotsOf 36 = .ok (.invokevirtual 90, 3) := by decide +kernel
theorem dX4_airedSpotsOf_39 : decode cX4_airedSpotsOf 39 = .ok (.iadd, 1) := by decide +kernel
theorem dX4_airedSpotsOf_40 : decode cX4_airedSpotsOf 40 = .ok (.istore_n 2, 1) := by decide +kernel
theorem dX4_airedSpotsOf_41 : decode cX4_airedSpotsOf 41 = .ok (.iinc 3 1, 3) := by decide +kernel
theorem dX4_airedSpotsOf_44 : decode cX4_airedSpotsOf 44 = .ok (.goto (-40), 3) := by decide +kernel
theorem dX4_airedSpotsOf_47 : decode cX4_airedSpotsOf 47 = .ok (.iload_n 2, 1) := by decide +kernel
theorem dX4_airedSpotsOf_48 : decode cX4_airedSpotsOf 48 = .ok (.ireturn, 1) := by decide +kernel
theorem dX4_spotsOfDay_0 : decode cX4_spotsOfDay 0 = .ok (.iconst 0, 1) := by decide +kernel
theorem dX4_spotsOfDay_1 : decode cX4_spotsOfDay 1 = .ok (.istore_n 3, 1) := by decide +kernel
theorem dX4_spotsOfDay_2 : decode cX4_spotsOfDay 2 = .ok (.iconst 0, 1) := by decide +kernel
theorem dX4_spotsOfDay_3 : decode cX4_spotsOfDay 3 = .ok (.istore 4, 2) := by decide +kernel
theorem dX4_spotsOfDay_5 : decode cX4_spotsOfDay 5 = .ok (.iload 4, 2) := by decide +kernel
theorem dX4_spotsOfDay_7 : decode cX4_spotsOfDay 7 = .ok (.aload_n 0, 1) := by decide +kernel
theorem dX4_spotsOfDay_8 : decode cX4_spotsOfDay 8 = .ok (.getfield 44, 3) := by decide +kernel
theorem dX4_spotsOfDay_11 : decode cX4_spotsOfDay 11 = .ok (.if_icmp .ge 40, 3) := by decide +kernel
theorem dX4_spotsOfDay_14 : decode cX4_spotsOfDay 14 = .ok (.aload_n 0, 1) := by decide +kernel
theorem dX4_spotsOfDay_15 : decode cX4_spotsOfDay 15 = .ok (.getfield 11, 3) := by decide +kernel
theorem dX4_spotsOfDay_18 : decode cX4_spotsOfDay 18 = .ok (.iload 4, 2) := by decide +kernel
theorem dX4_spotsOfDay_20 : decode cX4_spotsOfDay 20 = .ok (.aaload, 1) := by decide +kernel
theorem dX4_spotsOfDay_21 : decode cX4_spotsOfDay 21 = .ok (.getfield 70, 3) := by decide +kernel
theorem dX4_spotsOfDay_24 : decode cX4_spotsOfDay 24 = .ok (.iload_n 2, 1) := by decide +kernel
theorem dX4_spotsOfDay_25 : decode cX4_spotsOfDay 25 = .ok (.if_icmp .ne 20, 3) := by decide +kernel
theorem dX4_spotsOfDay_28 : decode cX4_spotsOfDay 28 = .ok (.iload_n 3, 1) := by decide +kernel
theorem dX4_spotsOfDay_29 : decode cX4_spotsOfDay 29 = .ok (.aload_n 0, 1) := by decide +kernel
theorem dX4_spotsOfDay_30 : decode cX4_spotsOfDay 30 = .ok (.getfield 11, 3) := by decide +kernel
theorem dX4_spotsOfDay_33 : decode cX4_spotsOfDay 33 = .ok (.iload 4, 2) := by decide +kernel
theorem dX4_spotsOfDay_35 : decode cX4_spotsOfDay 35 = .ok (.aaload, 1) := by decide +kernel
theorem dX4_spotsOfDay_36 : decode cX4_spotsOfDay 36 = .ok (.getfield 87, 3) := by decide +kernel
theorem dX4_spotsOfDay_39 : decode cX4_spotsOfDay 39 = .ok (.iload_n 1, 1) := by decide +kernel
theorem dX4_spotsOfDay_40 : decode cX4_spotsOfDay 40 = .ok (.invokevirtual 90, 3) := by decide +kernel
theorem dX4_spotsOfDay_43 : decode cX4_spotsOfDay 43 = .ok (.iadd, 1) := by decide +kernel
theorem dX4_spotsOfDay_44 : decode cX4_spotsOfDay 44 = .ok (.istore_n 3, 1) := by decide +kernel
theorem dX4_spotsOfDay_45 : decode cX4_spotsOfDay 45 = .ok (.iinc 4 1, 3) := by decide +kernel
theorem dX4_spotsOfDay_48 : decode cX4_spotsOfDay 48 = .ok (.goto (-43), 3) := by decide +kernel
theorem dX4_spotsOfDay_51 : decode cX4_spotsOfDay 51 = .ok (.iload_n 3, 1) := by decide +kernel
theorem dX4_spotsOfDay_52 : decode cX4_spotsOfDay 52 = .ok (.ireturn, 1) := by decide +kernel
theorem dX4_refusal_0 : decode cX4_refusal 0 = .ok (.aload_n 0, 1) := by decide +kernel
theorem dX4_refusal_1 : decode cX4_refusal 1 = .ok (.getfield 11, 3) := by decide +kernel
theorem dX4_refusal_4 : decode cX4_refusal 4 = .ok (.iload_n 3, 1) := by decide +kernel
theorem dX4_refusal_5 : decode cX4_refusal 5 = .ok (.aaload, 1) := by decide +kernel
theorem dX4_refusal_6 : decode cX4_refusal 6 = .ok (.astore 4, 2) := by decide +kernel
theorem dX4_refusal_8 : decode cX4_refusal 8 = .ok (.aload 4, 2) := by decide +kernel
theorem dX4_refusal_10 : decode cX4_refusal 10 = .ok (.getfield 94, 3) := by decide +kernel
theorem dX4_refusal_13 : decode cX4_refusal 13 = .ok (.ifCond .eq 5, 3) := by decide +kernel
theorem dX4_refusal_16 : decode cX4_refusal 16 = .ok (.iconst 1, 1) := by decide +kernel
theorem dX4_refusal_17 : decode cX4_refusal 17 = .ok (.ireturn, 1) := by decide +kernel
theorem dX4_refusal_18 : decode cX4_refusal 18 = .ok (.aload 4, 2) := by decide +kernel
theorem dX4_refusal_20 : decode cX4_refusal 20 = .ok (.getfield 87, 3) := by decide +kernel
theorem dX4_refusal_23 : decode cX4_refusal 23 = .ok (.iload_n 1, 1) := by decide +kernel
theorem dX4_refusal_24 : decode cX4_refusal 24 = .ok (.invokevirtual 97, 3) := by decide +kernel
theorem dX4_refusal_27 : decode cX4_refusal 27 = .ok (.ifCond .lt 5, 3) := by decide +kernel
theorem dX4_refusal_30 : decode cX4_refusal 30 = .ok (.iconst 2, 1) := by decide +kernel
theorem dX4_refusal_31 : decode cX4_refusal 31 = .ok (.ireturn, 1) := by decide +kernel
theorem dX4_refusal_32 : decode cX4_refusal 32 = .ok (.aload_n 0, 1) := by decide +kernel
theorem dX4_refusal_33 : decode cX4_refusal 33 = .ok (.iload_n 1, 1) := by decide +kernel
theorem dX4_refusal_34 : decode cX4_refusal 34 = .ok (.aload 4, 2) := by decide +kernel
theorem dX4_refusal_36 : decode cX4_refusal 36 = .ok (.getfield 70, 3) := by decide +kernel
theorem dX4_refusal_39 : decode cX4_refusal 39 = .ok (.invokevirtual 100, 3) := by decide +kernel
theorem dX4_refusal_42 : decode cX4_refusal 42 = .ok (.aload_n 0, 1) := by decide +kernel
theorem dX4_refusal_43 : decode cX4_refusal 43 = .ok (.getfield 22, 3) := by decide +kernel
theorem dX4_refusal_46 : decode cX4_refusal 46 = .ok (.iload_n 1, 1) := by decide +kernel
theorem dX4_refusal_47 : decode cX4_refusal 47 = .ok (.iaload, 1) := by decide +kernel
theorem dX4_refusal_48 : decode cX4_refusal 48 = .ok (.if_icmp .lt 5, 3) := by decide +kernel
theorem dX4_refusal_51 : decode cX4_refusal 51 = .ok (.iconst 3, 1) := by decide +kernel
theorem dX4_refusal_52 : decode cX4_refusal 52 = .ok (.ireturn, 1) := by decide +kernel
theorem dX4_refusal_53 : decode cX4_refusal 53 = .ok (.aload 4, 2) := by decide +kernel
theorem dX4_refusal_55 : decode cX4_refusal 55 = .ok (.getfield 87, 3) := by decide +kernel
theorem dX4_refusal_58 : decode cX4_refusal 58 = .ok (.invokevirtual 104, 3) := by decide +kernel
theorem dX4_refusal_61 : decode cX4_refusal 61 = .ok (.iload_n 2, 1) := by decide +kernel
theorem dX4_refusal_62 : decode cX4_refusal 62 = .ok (.iadd, 1) := by decide +kernel
theorem dX4_refusal_63 : decode cX4_refusal 63 = .ok (.aload 4, 2) := by decide +kernel
theorem dX4_refusal_65 : decode cX4_refusal 65 = .ok (.getfield 108, 3) := by decide +kernel
theorem dX4_refusal_68 : decode cX4_refusal 68 = .ok (.if_icmp .le 5, 3) := by decide +kernel
theorem dX4_refusal_71 : decode cX4_refusal 71 = .ok (.iconst 4, 1) := by decide +kernel
theorem dX4_refusal_72 : decode cX4_refusal 72 = .ok (.ireturn, 1) := by decide +kernel
theorem dX4_refusal_73 : decode cX4_refusal 73 = .ok (.aload_n 0, 1) := by decide +kernel
theorem dX4_refusal_74 : decode cX4_refusal 74 = .ok (.iload_n 1, 1) := by decide +kernel
theorem dX4_refusal_75 : decode cX4_refusal 75 = .ok (.aload 4, 2) := by decide +kernel
theorem dX4_refusal_77 : decode cX4_refusal 77 = .ok (.getfield 87, 3) := by decide +kernel
theorem dX4_refusal_80 : decode cX4_refusal 80 = .ok (.invokevirtual 111, 3) := by decide +kernel
theorem dX4_refusal_83 : decode cX4_refusal 83 = .ok (.ifCond .ge 7, 3) := by decide +kernel
theorem dX4_refusal_86 : decode cX4_refusal 86 = .ok (.iconst 5, 1) := by decide +kernel
theorem dX4_refusal_87 : decode cX4_refusal 87 = .ok (.goto 4, 3) := by decide +kernel
theorem dX4_refusal_90 : decode cX4_refusal 90 = .ok (.iconst 0, 1) := by decide +kernel
theorem dX4_refusal_91 : decode cX4_refusal 91 = .ok (.ireturn, 1) := by decide +kernel
theorem dX4_placeFor_0 : decode cX4_placeFor 0 = .ok (.iconst 0, 1) := by decide +kernel
theorem dX4_placeFor_1 : decode cX4_placeFor 1 = .ok (.istore_n 3, 1) := by decide +kernel
theorem dX4_placeFor_2 : decode cX4_placeFor 2 = .ok (.iload_n 3, 1) := by decide +kernel
theorem dX4_placeFor_3 : decode cX4_placeFor 3 = .ok (.aload_n 2, 1) := by decide +kernel
theorem dX4_placeFor_4 : decode cX4_placeFor 4 = .ok (.getfield 54, 3) := by decide +kernel
theorem dX4_placeFor_7 : decode cX4_placeFor 7 = .ok (.if_icmp .gt 77, 3) := by decide +kernel
theorem dX4_placeFor_10 : decode cX4_placeFor 10 = .ok (.iload_n 3, 1) := by decide +kernel
theorem dX4_placeFor_11 : decode cX4_placeFor 11 = .ok (.ifCond .eq 19, 3) := by decide +kernel
theorem dX4_placeFor_14 : decode cX4_placeFor 14 = .ok (.aload_n 0, 1) := by decide +kernel
theorem dX4_placeFor_15 : decode cX4_placeFor 15 = .ok (.iload_n 1, 1) := by decide +kernel
theorem dX4_placeFor_16 : decode cX4_placeFor 16 = .ok (.aload_n 2, 1) := by decide +kernel
theorem dX4_placeFor_17 : decode cX4_placeFor 17 = .ok (.getfield 115, 3) := by decide +kernel
theorem dX4_placeFor_20 : decode cX4_placeFor 20 = .ok (.iload_n 3, 1) := by decide +kernel
theorem dX4_placeFor_21 : decode cX4_placeFor 21 = .ok (.iconst 1, 1) := by decide +kernel
theorem dX4_placeFor_22 : decode cX4_placeFor 22 = .ok (.isub, 1) := by decide +kernel
theorem dX4_placeFor_23 : decode cX4_placeFor 23 = .ok (.iaload, 1) := by decide +kernel
theorem dX4_placeFor_24 : decode cX4_placeFor 24 = .ok (.invokevirtual 118, 3) := by decide +kernel
theorem dX4_placeFor_27 : decode cX4_placeFor 27 = .ok (.ifCond .ne 7, 3) := by decide +kernel
theorem dX4_placeFor_30 : decode cX4_placeFor 30 = .ok (.iconst 1, 1) := by decide +kernel
theorem dX4_placeFor_31 : decode cX4_placeFor 31 = .ok (.goto 4, 3) := by decide +kernel
theorem dX4_placeFor_34 : decode cX4_placeFor 34 = .ok (.iconst 0, 1) := by decide +kernel
theorem dX4_placeFor_35 : decode cX4_placeFor 35 = .ok (.istore 4, 2) := by decide +kernel
theorem dX4_placeFor_37 : decode cX4_placeFor 37 = .ok (.iload_n 3, 1) := by decide +kernel
theorem dX4_placeFor_38 : decode cX4_placeFor 38 = .ok (.aload_n 2, 1) := by decide +kernel
theorem dX4_placeFor_39 : decode cX4_placeFor 39 = .ok (.getfield 54, 3) := by decide +kernel
theorem dX4_placeFor_42 : decode cX4_placeFor 42 = .ok (.if_icmp .eq 17, 3) := by decide +kernel
theorem dX4_placeFor_45 : decode cX4_placeFor 45 = .ok (.aload_n 0, 1) := by decide +kernel
theorem dX4_placeFor_46 : decode cX4_placeFor 46 = .ok (.iload_n 1, 1) := by decide +kernel
theorem dX4_placeFor_47 : decode cX4_placeFor 47 = .ok (.aload_n 2, 1) := by decide +kernel
theorem dX4_placeFor_48 : decode cX4_placeFor 48 = .ok (.getfield 115, 3) := by decide +kernel
theorem dX4_placeFor_51 : decode cX4_placeFor 51 = .ok (.iload_n 3, 1) := by decide +kernel
theorem dX4_placeFor_52 : decode cX4_placeFor 52 = .ok (.iaload, 1) := by decide +kernel
theorem dX4_placeFor_53 : decode cX4_placeFor 53 = .ok (.invokevirtual 118, 3) := by decide +kernel
theorem dX4_placeFor_56 : decode cX4_placeFor 56 = .ok (.ifCond .ne 7, 3) := by decide +kernel
theorem dX4_placeFor_59 : decode cX4_placeFor 59 = .ok (.iconst 1, 1) := by decide +kernel
theorem dX4_placeFor_60 : decode cX4_placeFor 60 = .ok (.goto 4, 3) := by decide +kernel
theorem dX4_placeFor_63 : decode cX4_placeFor 63 = .ok (.iconst 0, 1) := by decide +kernel
theorem dX4_placeFor_64 : decode cX4_placeFor 64 = .ok (.istore 5, 2) := by decide +kernel
theorem dX4_placeFor_66 : decode cX4_placeFor 66 = .ok (.iload 4, 2) := by decide +kernel
theorem dX4_placeFor_68 : decode cX4_placeFor 68 = .ok (.ifCond .eq 10, 3) := by decide +kernel
theorem dX4_placeFor_71 : decode cX4_placeFor 71 = .ok (.iload 5, 2) := by decide +kernel
theorem dX4_placeFor_73 : decode cX4_placeFor 73 = .ok (.ifCond .eq 5, 3) := by decide +kernel
theorem dX4_placeFor_76 : decode cX4_placeFor 76 = .ok (.iload_n 3, 1) := by decide +kernel
theorem dX4_placeFor_77 : decode cX4_placeFor 77 = .ok (.ireturn, 1) := by decide +kernel
theorem dX4_placeFor_78 : decode cX4_placeFor 78 = .ok (.iinc 3 1, 3) := by decide +kernel
theorem dX4_placeFor_81 : decode cX4_placeFor 81 = .ok (.goto (-79), 3) := by decide +kernel
theorem dX4_placeFor_84 : decode cX4_placeFor 84 = .ok (.iconst (-1), 1) := by decide +kernel
theorem dX4_placeFor_85 : decode cX4_placeFor 85 = .ok (.ireturn, 1) := by decide +kernel
theorem dX4_priceOf_0 : decode cX4_priceOf 0 = .ok (.aload_n 0, 1) := by decide +kernel
theorem dX4_priceOf_1 : decode cX4_priceOf 1 = .ok (.getfield 11, 3) := by decide +kernel
theorem dX4_priceOf_4 : decode cX4_priceOf 4 = .ok (.iload_n 3, 1) := by decide +kernel
theorem dX4_priceOf_5 : decode cX4_priceOf 5 = .ok (.aaload, 1) := by decide +kernel
theorem dX4_priceOf_6 : decode cX4_priceOf 6 = .ok (.astore 4, 2) := by decide +kernel
theorem dX4_priceOf_8 : decode cX4_priceOf 8 = .ok (.aload 4, 2) := by decide +kernel
theorem dX4_priceOf_10 : decode cX4_priceOf 10 = .ok (.getfield 87, 3) := by decide +kernel
theorem dX4_priceOf_13 : decode cX4_priceOf 13 = .ok (.invokevirtual 104, 3) := by decide +kernel
theorem dX4_priceOf_16 : decode cX4_priceOf 16 = .ok (.istore 5, 2) := by decide +kernel
theorem dX4_priceOf_18 : decode cX4_priceOf 18 = .ok (.aload_n 0, 1) := by decide +kernel
theorem dX4_priceOf_19 : decode cX4_priceOf 19 = .ok (.getfield 31, 3) := by decide +kernel
theorem dX4_priceOf_22 : decode cX4_priceOf 22 = .ok (.aload 4, 2) := by decide +kernel
theorem dX4_priceOf_24 : decode cX4_priceOf 24 = .ok (.getfield 121, 3) := by decide +kernel
theorem dX4_priceOf_27 : decode cX4_priceOf 27 = .ok (.aload 4, 2) := by decide +kernel
theorem dX4_priceOf_29 : decode cX4_priceOf 29 = .ok (.getfield 73, 3) := by decide +kernel
theorem dX4_priceOf_32 : decode cX4_priceOf 32 = .ok (.iload_n 2, 1) := by decide +kernel
theorem dX4_priceOf_33 : decode cX4_priceOf 33 = .ok (.iload 5, 2) := by decide +kernel
theorem dX4_priceOf_35 : decode cX4_priceOf 35 = .ok (.aload_n 0, 1) := by decide +kernel
theorem dX4_priceOf_36 : decode cX4_priceOf 36 = .ok (.iload_n 1, 1) := by decide +kernel
theorem dX4_priceOf_37 : decode cX4_priceOf 37 = .ok (.invokevirtual 124, 3) := by decide +kernel
theorem dX4_priceOf_40 : decode cX4_priceOf 40 = .ok (.invokevirtual 127, 3) := by decide +kernel
theorem dX4_priceOf_43 : decode cX4_priceOf 43 = .ok (.istore 6, 2) := by decide +kernel
theorem dX4_priceOf_45 : decode cX4_priceOf 45 = .ok (.iconst 0, 1) := by decide +kernel
theorem dX4_priceOf_46 : decode cX4_priceOf 46 = .ok (.ldc 131, 2) := by decide +kernel
theorem dX4_priceOf_48 : decode cX4_priceOf 48 = .ok (.iload 6, 2) := by decide +kernel
theorem dX4_priceOf_50 : decode cX4_priceOf 50 = .ok (.invokestatic 132, 3) := by decide +kernel
theorem dX4_priceOf_53 : decode cX4_priceOf 53 = .ok (.invokestatic 137, 3) := by decide +kernel
theorem dX4_priceOf_56 : decode cX4_priceOf 56 = .ok (.ireturn, 1) := by decide +kernel
theorem dX4_cheapestBreak_0 : decode cX4_cheapestBreak 0 = .ok (.iconst (-1), 1) := by decide +kernel
theorem dX4_cheapestBreak_1 : decode cX4_cheapestBreak 1 = .ok (.istore_n 3, 1) := by decide +kernel
theorem dX4_cheapestBreak_2 : decode cX4_cheapestBreak 2 = .ok (.iconst 0, 1) := by decide +kernel
theorem dX4_cheapestBreak_3 : decode cX4_cheapestBreak 3 = .ok (.istore 4, 2) := by decide +kernel
theorem dX4_cheapestBreak_5 : decode cX4_cheapestBreak 5 = .ok (.iconst 0, 1) := by decide +kernel
theorem dX4_cheapestBreak_6 : decode cX4_cheapestBreak 6 = .ok (.istore 5, 2) := by decide +kernel
theorem dX4_cheapestBreak_8 : decode cX4_cheapestBreak 8 = .ok (.iload 5, 2) := by decide +kernel
theorem dX4_cheapestBreak_10 : decode cX4_cheapestBreak 10 = .ok (.aload_n 0, 1) := by decide +kernel
theorem dX4_cheapestBreak_11 : decode cX4_cheapestBreak 11 = .ok (.getfield 44, 3) := by decide +kernel
theorem dX4_cheapestBreak_14 : decode cX4_cheapestBreak 14 = .ok (.if_icmp .ge 48, 3) := by decide +kernel
theorem dX4_cheapestBreak_17 : decode cX4_cheapestBreak 17 = .ok (.aload_n 0, 1) := by decide +kernel
theorem dX4_cheapestBreak_18 : decode cX4_cheapestBreak 18 = .ok (.iload_n 1, 1) := by decide +kernel
theorem dX4_cheapestBreak_19 : decode cX4_cheapestBreak 19 = .ok (.iload_n 2, 1) := by decide +kernel
theorem dX4_cheapestBreak_20 : decode cX4_cheapestBreak 20 = .ok (.iload 5, 2) := by decide +kernel
theorem dX4_cheapestBreak_22 : decode cX4_cheapestBreak 22 = .ok (.invokevirtual 140, 3) := by decide +kernel
theorem dX4_cheapestBreak_25 : decode cX4_cheapestBreak 25 = .ok (.ifCond .ne 31, 3) := by decide +kernel
theorem dX4_cheapestBreak_28 : decode cX4_cheapestBreak 28 = .ok (.aload_n 0, 1) := by decide +kernel
theorem dX4_cheapestBreak_29 : decode cX4_cheapestBreak 29 = .ok (.iload_n 1, 1) := by decide +kernel
theorem dX4_cheapestBreak_30 : decode cX4_cheapestBreak 30 = .ok (.iload_n 2, 1) := by decide +kernel
theorem dX4_cheapestBreak_31 : decode cX4_cheapestBreak 31 = .ok (.iload 5, 2) := by decide +kernel
theorem dX4_cheapestBreak_33 : decode cX4_cheapestBreak 33 = .ok (.invokevirtual 144, 3) := by decide +kernel
theorem dX4_cheapestBreak_36 : decode cX4_cheapestBreak 36 = .ok (.istore 6, 2) := by decide +kernel
theorem dX4_cheapestBreak_38 : decode cX4_cheapestBreak 38 = .ok (.iload_n 3, 1) := by decide +kernel
theorem dX4_cheapestBreak_39 : decode cX4_cheapestBreak 39 = .ok (.ifCond .lt 10, 3) := by decide +kernel
theorem dX4_cheapestBreak_42 : decode cX4_cheapestBreak 42 = .ok (.iload 6, 2) := by decide +kernel
theorem dX4_cheapestBreak_44 : decode cX4_cheapestBreak 44 = .ok (.iload 4, 2) := by decide +kernel
theorem dX4_cheapestBreak_46 : decode cX4_cheapestBreak 46 = .ok (.if_icmp .ge 10, 3) := by decide +kernel
theorem dX4_cheapestBreak_49 : decode cX4_cheapestBreak 49 = .ok (.iload 5, 2) := by decide +kernel
theorem dX4_cheapestBreak_51 : decode cX4_cheapestBreak 51 = .ok (.istore_n 3, 1) := by decide +kernel
theorem dX4_cheapestBreak_52 : decode cX4_cheapestBreak 52 = .ok (.iload 6, 2) := by decide +kernel
theorem dX4_cheapestBreak_54 : decode cX4_cheapestBreak 54 = .ok (.istore 4, 2) := by decide +kernel
theorem dX4_cheapestBreak_56 : decode cX4_cheapestBreak 56 = .ok (.iinc 5 1, 3) := by decide +kernel
theorem dX4_cheapestBreak_59 : decode cX4_cheapestBreak 59 = .ok (.goto (-51), 3) := by decide +kernel
theorem dX4_cheapestBreak_62 : decode cX4_cheapestBreak 62 = .ok (.iload_n 3, 1) := by decide +kernel
theorem dX4_cheapestBreak_63 : decode cX4_cheapestBreak 63 = .ok (.ireturn, 1) := by decide +kernel
theorem dX4_widestBreak_0 : decode cX4_widestBreak 0 = .ok (.iconst (-1), 1) := by decide +kernel
theorem dX4_widestBreak_1 : decode cX4_widestBreak 1 = .ok (.istore_n 3, 1) := by decide +kernel
theorem dX4_widestBreak_2 : decode cX4_widestBreak 2 = .ok (.iconst 0, 1) := by decide +kernel
theorem dX4_widestBreak_3 : decode cX4_widestBreak 3 = .ok (.istore 4, 2) := by decide +kernel
theorem dX4_widestBreak_5 : decode cX4_widestBreak 5 = .ok (.iload 4, 2) := by decide +kernel
theorem dX4_widestBreak_7 : decode cX4_widestBreak 7 = .ok (.aload_n 0, 1) := by decide +kernel
theorem dX4_widestBreak_8 : decode cX4_widestBreak 8 = .ok (.getfield 44, 3) := by decide +kernel
theorem dX4_widestBreak_11 : decode cX4_widestBreak 11 = .ok (.if_icmp .ge 61, 3) := by decide +kernel
theorem dX4_widestBreak_14 : decode cX4_widestBreak 14 = .ok (.iload_n 3, 1) := by decide +kernel
theorem dX4_widestBreak_15 : decode cX4_widestBreak 15 = .ok (.ifCond .lt 25, 3) := by decide +kernel
theorem dX4_widestBreak_18 : decode cX4_widestBreak 18 = .ok (.aload_n 0, 1) := by decide +kernel
theorem dX4_widestBreak_19 : decode cX4_widestBreak 19 = .ok (.getfield 11, 3) := by decide +kernel
theorem dX4_widestBreak_22 : decode cX4_widestBreak 22 = .ok (.iload 4, 2) := by decide +kernel
theorem dX4_widestBreak_24 : decode cX4_widestBreak 24 = .ok (.aaload, 1) := by decide +kernel
theorem dX4_widestBreak_25 : decode cX4_widestBreak 25 = .ok (.getfield 121, 3) := by decide +kernel
theorem dX4_widestBreak_28 : decode cX4_widestBreak 28 = .ok (.aload_n 0, 1) := by decide +kernel
theorem dX4_widestBreak_29 : decode cX4_widestBreak 29 = .ok (.getfield 11, 3) := by decide +kernel
theorem dX4_widestBreak_32 : decode cX4_widestBreak 32 = .ok (.iload_n 3, 1) := by decide +kernel
theorem dX4_widestBreak_33 : decode cX4_widestBreak 33 = .ok (.aaload, 1) := by decide +kernel
theorem dX4_widestBreak_34 : decode cX4_widestBreak 34 = .ok (.getfield 121, 3) := by decide +kernel
theorem dX4_widestBreak_37 : decode cX4_widestBreak 37 = .ok (.if_icmp .le 7, 3) := by decide +kernel
theorem dX4_widestBreak_40 : decode cX4_widestBreak 40 = .ok (.iconst 1, 1) := by decide +kernel
theorem dX4_widestBreak_41 : decode cX4_widestBreak 41 = .ok (.goto 4, 3) := by decide +kernel
theorem dX4_widestBreak_44 : decode cX4_widestBreak 44 = .ok (.iconst 0, 1) := by decide +kernel
theorem dX4_widestBreak_45 : decode cX4_widestBreak 45 = .ok (.istore 5, 2) := by decide +kernel
theorem dX4_widestBreak_47 : decode cX4_widestBreak 47 = .ok (.iload 5, 2) := by decide +kernel
theorem dX4_widestBreak_49 : decode cX4_widestBreak 49 = .ok (.ifCond .eq 17, 3) := by decide +kernel
theorem dX4_widestBreak_52 : decode cX4_widestBreak 52 = .ok (.aload_n 0, 1) := by decide +kernel
theorem dX4_widestBreak_53 : decode cX4_widestBreak 53 = .ok (.iload_n 1, 1) := by decide +kernel
theorem dX4_widestBreak_54 : decode cX4_widestBreak 54 = .ok (.iload_n 2, 1) := by decide +kernel
theorem dX4_widestBreak_55 : decode cX4_widestBreak 55 = .ok (.iload 4, 2) := by decide +kernel
theorem dX4_widestBreak_57 : decode cX4_widestBreak 57 = .ok (.invokevirtual 140, 3) := by decide +kernel
theorem dX4_widestBreak_60 : decode cX4_widestBreak 60 = .ok (.ifCond .ne 6, 3) := by decide +kernel
theorem dX4_widestBreak_63 : decode cX4_widestBreak 63 = .ok (.iload 4, 2) := by decide +kernel
theorem dX4_widestBreak_65 : decode cX4_widestBreak 65 = .ok (.istore_n 3, 1) := by decide +kernel
theorem dX4_widestBreak_66 : decode cX4_widestBreak 66 = .ok (.iinc 4 1, 3) := by decide +kernel
theorem dX4_widestBreak_69 : decode cX4_widestBreak 69 = .ok (.goto (-64), 3) := by decide +kernel
theorem dX4_widestBreak_72 : decode cX4_widestBreak 72 = .ok (.iload_n 3, 1) := by decide +kernel
theorem dX4_widestBreak_73 : decode cX4_widestBreak 73 = .ok (.ireturn, 1) := by decide +kernel
theorem dX4_earliestOpen_0 : decode cX4_earliestOpen 0 = .ok (.iconst 0, 1) := by decide +kernel
theorem dX4_earliestOpen_1 : decode cX4_earliestOpen 1 = .ok (.istore_n 1, 1) := by decide +kernel
theorem dX4_earliestOpen_2 : decode cX4_earliestOpen 2 = .ok (.iload_n 1, 1) := by decide +kernel
theorem dX4_earliestOpen_3 : decode cX4_earliestOpen 3 = .ok (.aload_n 0, 1) := by decide +kernel
theorem dX4_earliestOpen_4 : decode cX4_earliestOpen 4 = .ok (.getfield 44, 3) := by decide +kernel
theorem dX4_earliestOpen_7 : decode cX4_earliestOpen 7 = .ok (.if_icmp .ge 23, 3) := by decide +kernel
theorem dX4_earliestOpen_10 : decode cX4_earliestOpen 10 = .ok (.aload_n 0, 1) := by decide +kernel
theorem dX4_earliestOpen_11 : decode cX4_earliestOpen 11 = .ok (.getfield 11, 3) := by decide +kernel
theorem dX4_earliestOpen_14 : decode cX4_earliestOpen 14 = .ok (.iload_n 1, 1) := by decide +kernel
theorem dX4_earliestOpen_15 : decode cX4_earliestOpen 15 = .ok (.aaload, 1) := by decide +kernel
theorem dX4_earliestOpen_16 : decode cX4_earliestOpen 16 = .ok (.getfield 94, 3) := by decide +kernel
theorem dX4_earliestOpen_19 : decode cX4_earliestOpen 19 = .ok (.ifCond .ne 5, 3) := by decide +kernel
theorem dX4_earliestOpen_22 : decode cX4_earliestOpen 22 = .ok (.iload_n 1, 1) := by decide +kernel
theorem dX4_earliestOpen_23 : decode cX4_earliestOpen 23 = .ok (.ireturn, 1) := by decide +kernel
theorem dX4_earliestOpen_24 : decode cX4_earliestOpen 24 = .ok (.iinc 1 1, 3) := by decide +kernel
theorem dX4_earliestOpen_27 : decode cX4_earliestOpen 27 = .ok (.goto (-25), 3) := by decide +kernel
theorem dX4_earliestOpen_30 : decode cX4_earliestOpen 30 = .ok (.iconst (-1), 1) := by decide +kernel
theorem dX4_earliestOpen_31 : decode cX4_earliestOpen 31 = .ok (.ireturn, 1) := by decide +kernel
theorem dX4_bookSpot_0 : decode cX4_bookSpot 0 = .ok (.aload_n 0, 1) := by decide +kernel
theorem dX4_bookSpot_1 : decode cX4_bookSpot 1 = .ok (.iload_n 1, 1) := by decide +kernel
theorem dX4_bookSpot_2 : decode cX4_bookSpot 2 = .ok (.iload_n 2, 1) := by decide +kernel
theorem dX4_bookSpot_3 : decode cX4_bookSpot 3 = .ok (.iload_n 3, 1) := by decide +kernel
theorem dX4_bookSpot_4 : decode cX4_bookSpot 4 = .ok (.invokevirtual 140, 3) := by decide +kernel
theorem dX4_bookSpot_7 : decode cX4_bookSpot 7 = .ok (.istore 4, 2) := by decide +kernel
theorem dX4_bookSpot_9 : decode cX4_bookSpot 9 = .ok (.iload 4, 2) := by decide +kernel
theorem dX4_bookSpot_11 : decode cX4_bookSpot 11 = .ok (.ifCond .eq 7, 3) := by decide +kernel
theorem dX4_bookSpot_14 : decode cX4_bookSpot 14 = .ok (.iload 4, 2) := by decide +kernel
theorem dX4_bookSpot_16 : decode cX4_bookSpot 16 = .ok (.ineg, 1) := by decide +kernel
theorem dX4_bookSpot_17 : decode cX4_bookSpot 17 = .ok (.ireturn, 1) := by decide +kernel
theorem dX4_bookSpot_18 : decode cX4_bookSpot 18 = .ok (.aload_n 0, 1) := by decide +kernel
theorem dX4_bookSpot_19 : decode cX4_bookSpot 19 = .ok (.iload_n 1, 1) := by decide +kernel
theorem dX4_bookSpot_20 : decode cX4_bookSpot 20 = .ok (.iload_n 2, 1) := by decide +kernel
theorem dX4_bookSpot_21 : decode cX4_bookSpot 21 = .ok (.iload_n 3, 1) := by decide +kernel
theorem dX4_bookSpot_22 : decode cX4_bookSpot 22 = .ok (.invokevirtual 144, 3) := by decide +kernel
theorem dX4_bookSpot_25 : decode cX4_bookSpot 25 = .ok (.istore 5, 2) := by decide +kernel
theorem dX4_bookSpot_27 : decode cX4_bookSpot 27 = .ok (.aload_n 0, 1) := by decide +kernel
theorem dX4_bookSpot_28 : decode cX4_bookSpot 28 = .ok (.getfield 11, 3) := by decide +kernel
theorem dX4_bookSpot_31 : decode cX4_bookSpot 31 = .ok (.iload_n 3, 1) := by decide +kernel
theorem dX4_bookSpot_32 : decode cX4_bookSpot 32 = .ok (.aaload, 1) := by decide +kernel
theorem dX4_bookSpot_33 : decode cX4_bookSpot 33 = .ok (.getfield 87, 3) := by decide +kernel
theorem dX4_bookSpot_36 : decode cX4_bookSpot 36 = .ok (.astore 6, 2) := by decide +kernel
theorem dX4_bookSpot_38 : decode cX4_bookSpot 38 = .ok (.aload_n 0, 1) := by decide +kernel
theorem dX4_bookSpot_39 : decode cX4_bookSpot 39 = .ok (.iload_n 1, 1) := by decide +kernel
theorem dX4_bookSpot_40 : decode cX4_bookSpot 40 = .ok (.aload 6, 2) := by decide +kernel
theorem dX4_bookSpot_42 : decode cX4_bookSpot 42 = .ok (.invokevirtual 111, 3) := by decide +kernel
theorem dX4_bookSpot_45 : decode cX4_bookSpot 45 = .ok (.istore 7, 2) := by decide +kernel
theorem dX4_bookSpot_47 : decode cX4_bookSpot 47 = .ok (.aload 6, 2) := by decide +kernel
theorem dX4_bookSpot_49 : decode cX4_bookSpot 49 = .ok (.iload 7, 2) := by decide +kernel
theorem dX4_bookSpot_51 : decode cX4_bookSpot 51 = .ok (.iload_n 1, 1) := by decide +kernel
theorem dX4_bookSpot_52 : decode cX4_bookSpot 52 = .ok (.iload_n 2, 1) := by decide +kernel
theorem dX4_bookSpot_53 : decode cX4_bookSpot 53 = .ok (.iload 5, 2) := by decide +kernel
theorem dX4_bookSpot_55 : decode cX4_bookSpot 55 = .ok (.iconst 0, 1) := by decide +kernel
theorem dX4_bookSpot_56 : decode cX4_bookSpot 56 = .ok (.invokevirtual 147, 3) := by decide +kernel
theorem dX4_bookSpot_59 : decode cX4_bookSpot 59 = .ok (.aload_n 0, 1) := by decide +kernel
theorem dX4_bookSpot_60 : decode cX4_bookSpot 60 = .ok (.dup, 1) := by decide +kernel
theorem dX4_bookSpot_61 : decode cX4_bookSpot 61 = .ok (.getfield 57, 3) := by decide +kernel
theorem dX4_bookSpot_64 : decode cX4_bookSpot 64 = .ok (.iload 5, 2) := by decide +kernel
theorem dX4_bookSpot_66 : decode cX4_bookSpot 66 = .ok (.iadd, 1) := by decide +kernel
theorem dX4_bookSpot_67 : decode cX4_bookSpot 67 = .ok (.putfield 57, 3) := by decide +kernel
theorem dX4_bookSpot_70 : decode cX4_bookSpot 70 = .ok (.iload 7, 2) := by decide +kernel
theorem dX4_bookSpot_72 : decode cX4_bookSpot 72 = .ok (.ireturn, 1) := by decide +kernel
theorem dX4_bookInOrder_0 : decode cX4_bookInOrder 0 = .ok (.aload_n 0, 1) := by decide +kernel
theorem dX4_bookInOrder_1 : decode cX4_bookInOrder 1 = .ok (.iload_n 1, 1) := by decide +kernel
theorem dX4_bookInOrder_2 : decode cX4_bookInOrder 2 = .ok (.iload_n 2, 1) := by decide +kernel
theorem dX4_bookInOrder_3 : decode cX4_bookInOrder 3 = .ok (.iload_n 3, 1) := by decide +kernel
theorem dX4_bookInOrder_4 : decode cX4_bookInOrder 4 = .ok (.invokevirtual 144, 3) := by decide +kernel
theorem dX4_bookInOrder_7 : decode cX4_bookInOrder 7 = .ok (.istore 5, 2) := by decide +kernel
theorem dX4_bookInOrder_9 : decode cX4_bookInOrder 9 = .ok (.aload_n 0, 1) := by decide +kernel
theorem dX4_bookInOrder_10 : decode cX4_bookInOrder 10 = .ok (.getfield 11, 3) := by decide +kernel
theorem dX4_bookInOrder_13 : decode cX4_bookInOrder 13 = .ok (.iload_n 3, 1) := by decide +kernel
theorem dX4_bookInOrder_14 : decode cX4_bookInOrder 14 = .ok (.aaload, 1) := by decide +kernel
theorem dX4_bookInOrder_15 : decode cX4_bookInOrder 15 = .ok (.getfield 87, 3) := by decide +kernel
theorem dX4_bookInOrder_18 : decode cX4_bookInOrder 18 = .ok (.astore 6, 2) := by decide +kernel
theorem dX4_bookInOrder_20 : decode cX4_bookInOrder 20 = .ok (.aload 6, 2) := by decide +kernel
theorem dX4_bookInOrder_22 : decode cX4_bookInOrder 22 = .ok (.aload 6, 2) := by decide +kernel
theorem dX4_bookInOrder_24 : decode cX4_bookInOrder 24 = .ok (.getfield 54, 3) := by decide +kernel
theorem dX4_bookInOrder_27 : decode cX4_bookInOrder 27 = .ok (.iload_n 1, 1) := by decide +kernel
theorem dX4_bookInOrder_28 : decode cX4_bookInOrder 28 = .ok (.iload_n 2, 1) := by decide +kernel
theorem dX4_bookInOrder_29 : decode cX4_bookInOrder 29 = .ok (.iload 5, 2) := by decide +kernel
theorem dX4_bookInOrder_31 : decode cX4_bookInOrder 31 = .ok (.iconst 0, 1) := by decide +kernel
theorem dX4_bookInOrder_32 : decode cX4_bookInOrder 32 = .ok (.invokevirtual 147, 3) := by decide +kernel
theorem dX4_bookInOrder_35 : decode cX4_bookInOrder 35 = .ok (.aload_n 0, 1) := by decide +kernel
theorem dX4_bookInOrder_36 : decode cX4_bookInOrder 36 = .ok (.dup, 1) := by decide +kernel
theorem dX4_bookInOrder_37 : decode cX4_bookInOrder 37 = .ok (.getfield 57, 3) := by decide +kernel
theorem dX4_bookInOrder_40 : decode cX4_bookInOrder 40 = .ok (.iload 5, 2) := by decide +kernel
theorem dX4_bookInOrder_42 : decode cX4_bookInOrder 42 = .ok (.iadd, 1) := by decide +kernel
theorem dX4_bookInOrder_43 : decode cX4_bookInOrder 43 = .ok (.putfield 57, 3) := by decide +kernel
theorem dX4_bookInOrder_46 : decode cX4_bookInOrder 46 = .ok (.iconst 0, 1) := by decide +kernel
theorem dX4_bookInOrder_47 : decode cX4_bookInOrder 47 = .ok (.istore 7, 2) := by decide +kernel
theorem dX4_bookInOrder_49 : decode cX4_bookInOrder 49 = .ok (.iload 7, 2) := by decide +kernel
theorem dX4_bookInOrder_51 : decode cX4_bookInOrder 51 = .ok (.aload 6, 2) := by decide +kernel
theorem dX4_bookInOrder_53 : decode cX4_bookInOrder 53 = .ok (.getfield 54, 3) := by decide +kernel
theorem dX4_bookInOrder_56 : decode cX4_bookInOrder 56 = .ok (.if_icmp .ge 34, 3) := by decide +kernel
theorem dX4_bookInOrder_59 : decode cX4_bookInOrder 59 = .ok (.iload 7, 2) := by decide +kernel
theorem dX4_bookInOrder_61 : decode cX4_bookInOrder 61 = .ok (.aload 4, 2) := by decide +kernel
theorem dX4_bookInOrder_63 : decode cX4_bookInOrder 63 = .ok (.arraylength, 1) := by decide +kernel
theorem dX4_bookInOrder_64 : decode cX4_bookInOrder 64 = .ok (.if_icmp .ge 26, 3) := by decide +kernel
theorem dX4_bookInOrder_67 : decode cX4_bookInOrder 67 = .ok (.aload 6, 2) := by decide +kernel
theorem dX4_bookInOrder_69 : decode cX4_bookInOrder 69 = .ok (.aload 6, 2) := by decide +kernel
theorem dX4_bookInOrder_71 : decode cX4_bookInOrder 71 = .ok (.aload 4, 2) := by decide +kernel
theorem dX4_bookInOrder_73 : decode cX4_bookInOrder 73 = .ok (.iload 7, 2) := by decide +kernel
theorem dX4_bookInOrder_75 : decode cX4_bookInOrder 75 = .ok (.iaload, 1) := by decide +kernel
theorem dX4_bookInOrder_76 : decode cX4_bookInOrder 76 = .ok (.invokevirtual 97, 3) := by decide +kernel
theorem dX4_bookInOrder_79 : decode cX4_bookInOrder 79 = .ok (.iload 7, 2) := by decide +kernel
theorem dX4_bookInOrder_81 : decode cX4_bookInOrder 81 = .ok (.invokevirtual 151, 3) := by decide +kernel
theorem dX4_bookInOrder_84 : decode cX4_bookInOrder 84 = .ok (.iinc 7 1, 3) := by decide +kernel
theorem dX4_bookInOrder_87 : decode cX4_bookInOrder 87 = .ok (.goto (-38), 3) := by decide +kernel
theorem dX4_bookInOrder_90 : decode cX4_bookInOrder 90 = .ok (.return_, 1) := by decide +kernel
theorem dX4_bookCheapest_0 : decode cX4_bookCheapest 0 = .ok (.iconst 0, 1) := by decide +kernel
theorem dX4_bookCheapest_1 : decode cX4_bookCheapest 1 = .ok (.istore 4, 2) := by decide +kernel
theorem dX4_bookCheapest_3 : decode cX4_bookCheapest 3 = .ok (.iload 4, 2) := by decide +kernel
theorem dX4_bookCheapest_5 : decode cX4_bookCheapest 5 = .ok (.iload_n 3, 1) := by decide +kernel
theorem dX4_bookCheapest_6 : decode cX4_bookCheapest 6 = .ok (.if_icmp .ge 34, 3) := by decide +kernel
theorem dX4_bookCheapest_9 : decode cX4_bookCheapest 9 = .ok (.aload_n 0, 1) := by decide +kernel
theorem dX4_bookCheapest_10 : decode cX4_bookCheapest 10 = .ok (.iload_n 1, 1) := by decide +kernel
theorem dX4_bookCheapest_11 : decode cX4_bookCheapest 11 = .ok (.iload_n 2, 1) := by decide +kernel
theorem dX4_bookCheapest_12 : decode cX4_bookCheapest 12 = .ok (.invokevirtual 155, 3) := by decide +kernel
theorem dX4_bookCheapest_15 : decode cX4_bookCheapest 15 = .ok (.istore 5, 2) := by decide +kernel
theorem dX4_bookCheapest_17 : decode cX4_bookCheapest 17 = .ok (.iload 5, 2) := by decide +kernel
theorem dX4_bookCheapest_19 : decode cX4_bookCheapest 19 = .ok (.ifCond .ge 6, 3) := by decide +kernel
theorem dX4_bookCheapest_22 : decode cX4_bookCheapest 22 = .ok (.iload 4, 2) := by decide +kernel
theorem dX4_bookCheapest_24 : decode cX4_bookCheapest 24 = .ok (.ireturn, 1) := by decide +kernel
theorem dX4_bookCheapest_25 : decode cX4_bookCheapest 25 = .ok (.aload_n 0, 1) := by decide +kernel
theorem dX4_bookCheapest_26 : decode cX4_bookCheapest 26 = .ok (.iload_n 1, 1) := by decide +kernel
theorem dX4_bookCheapest_27 : decode cX4_bookCheapest 27 = .ok (.iload_n 2, 1) := by decide +kernel
theorem dX4_bookCheapest_28 : decode cX4_bookCheapest 28 = .ok (.iload 5, 2) := by decide +kernel
theorem dX4_bookCheapest_30 : decode cX4_bookCheapest 30 = .ok (.invokevirtual 158, 3) := by decide +kernel
theorem dX4_bookCheapest_33 : decode cX4_bookCheapest 33 = .ok (.pop, 1) := by decide +kernel
theorem dX4_bookCheapest_34 : decode cX4_bookCheapest 34 = .ok (.iinc 4 1, 3) := by decide +kernel
theorem dX4_bookCheapest_37 : decode cX4_bookCheapest 37 = .ok (.goto (-34), 3) := by decide +kernel
theorem dX4_bookCheapest_40 : decode cX4_bookCheapest 40 = .ok (.iload_n 3, 1) := by decide +kernel
theorem dX4_bookCheapest_41 : decode cX4_bookCheapest 41 = .ok (.ireturn, 1) := by decide +kernel
theorem dX4_canTakeOut_0 : decode cX4_canTakeOut 0 = .ok (.aload_n 0, 1) := by decide +kernel
theorem dX4_canTakeOut_1 : decode cX4_canTakeOut 1 = .ok (.getfield 11, 3) := by decide +kernel
theorem dX4_canTakeOut_4 : decode cX4_canTakeOut 4 = .ok (.iload_n 1, 1) := by decide +kernel
theorem dX4_canTakeOut_5 : decode cX4_canTakeOut 5 = .ok (.aaload, 1) := by decide +kernel
theorem dX4_canTakeOut_6 : decode cX4_canTakeOut 6 = .ok (.getfield 87, 3) := by decide +kernel
theorem dX4_canTakeOut_9 : decode cX4_canTakeOut 9 = .ok (.astore_n 3, 1) := by decide +kernel
theorem dX4_canTakeOut_10 : decode cX4_canTakeOut 10 = .ok (.aload_n 0, 1) := by decide +kernel
theorem dX4_canTakeOut_11 : decode cX4_canTakeOut 11 = .ok (.getfield 11, 3) := by decide +kernel
theorem dX4_canTakeOut_14 : decode cX4_canTakeOut 14 = .ok (.iload_n 1, 1) := by decide +kernel
theorem dX4_canTakeOut_15 : decode cX4_canTakeOut 15 = .ok (.aaload, 1) := by decide +kernel
theorem dX4_canTakeOut_16 : decode cX4_canTakeOut 16 = .ok (.getfield 94, 3) := by decide +kernel
theorem dX4_canTakeOut_19 : decode cX4_canTakeOut 19 = .ok (.ifCond .eq 5, 3) := by decide +kernel
theorem dX4_canTakeOut_22 : decode cX4_canTakeOut 22 = .ok (.iconst 0, 1) := by decide +kernel
theorem dX4_canTakeOut_23 : decode cX4_canTakeOut 23 = .ok (.ireturn, 1) := by decide +kernel
theorem dX4_canTakeOut_24 : decode cX4_canTakeOut 24 = .ok (.iload_n 2, 1) := by decide +kernel
theorem dX4_canTakeOut_25 : decode cX4_canTakeOut 25 = .ok (.ifCond .le 17, 3) := by decide +kernel
theorem dX4_canTakeOut_28 : decode cX4_canTakeOut 28 = .ok (.iload_n 2, 1) := by decide +kernel
theorem dX4_canTakeOut_29 : decode cX4_canTakeOut 29 = .ok (.aload_n 3, 1) := by decide +kernel
theorem dX4_canTakeOut_30 : decode cX4_canTakeOut 30 = .ok (.getfield 54, 3) := by decide +kernel
theorem dX4_canTakeOut_33 : decode cX4_canTakeOut 33 = .ok (.iconst 1, 1) := by decide +kernel
theorem dX4_canTakeOut_34 : decode cX4_canTakeOut 34 = .ok (.isub, 1) := by decide +kernel
theorem dX4_canTakeOut_35 : decode cX4_canTakeOut 35 = .ok (.if_icmp .ge 7, 3) := by decide +kernel
theorem dX4_canTakeOut_38 : decode cX4_canTakeOut 38 = .ok (.iconst 1, 1) := by decide +kernel
theorem dX4_canTakeOut_39 : decode cX4_canTakeOut 39 = .ok (.goto 4, 3) := by decide +kernel
theorem dX4_canTakeOut_42 : decode cX4_canTakeOut 42 = .ok (.iconst 0, 1) := by decide +kernel
theorem dX4_canTakeOut_43 : decode cX4_canTakeOut 43 = .ok (.istore 4, 2) := by decide +kernel
theorem dX4_canTakeOut_45 : decode cX4_canTakeOut 45 = .ok (.iload 4, 2) := by decide +kernel
theorem dX4_canTakeOut_47 : decode cX4_canTakeOut 47 = .ok (.ifCond .eq 26, 3) := by decide +kernel
theorem dX4_canTakeOut_50 : decode cX4_canTakeOut 50 = .ok (.aload_n 0, 1) := by decide +kernel
theorem dX4_canTakeOut_51 : decode cX4_canTakeOut 51 = .ok (.aload_n 3, 1) := by decide +kernel
theorem dX4_canTakeOut_52 : decode cX4_canTakeOut 52 = .ok (.getfield 115, 3) := by decide +kernel
theorem dX4_canTakeOut_55 : decode cX4_canTakeOut 55 = .ok (.iload_n 2, 1) := by decide +kernel
theorem dX4_canTakeOut_56 : decode cX4_canTakeOut 56 = .ok (.iconst 1, 1) := by decide +kernel
theorem dX4_canTakeOut_57 : decode cX4_canTakeOut 57 = .ok (.isub, 1) := by decide +kernel
theorem dX4_canTakeOut_58 : decode cX4_canTakeOut 58 = .ok (.iaload, 1) := by decide +kernel
theorem dX4_canTakeOut_59 : decode cX4_canTakeOut 59 = .ok (.aload_n 3, 1) := by decide +kernel
theorem dX4_canTakeOut_60 : decode cX4_canTakeOut 60 = .ok (.getfield 115, 3) := by decide +kernel
theorem dX4_canTakeOut_63 : decode cX4_canTakeOut 63 = .ok (.iload_n 2, 1) := by decide +kernel
theorem dX4_canTakeOut_64 : decode cX4_canTakeOut 64 = .ok (.iconst 1, 1) := by decide +kernel
theorem dX4_canTakeOut_65 : decode cX4_canTakeOut 65 = .ok (.iadd, 1) := by decide +kernel
theorem dX4_canTakeOut_66 : decode cX4_canTakeOut 66 = .ok (.iaload, 1) := by decide +kernel
theorem dX4_canTakeOut_67 : decode cX4_canTakeOut 67 = .ok (.invokevirtual 118, 3) := by decide +kernel
theorem dX4_canTakeOut_70 : decode cX4_canTakeOut 70 = .ok (.ifCond .ne 7, 3) := by decide +kernel
theorem dX4_canTakeOut_73 : decode cX4_canTakeOut 73 = .ok (.iconst 1, 1) := by decide +kernel
theorem dX4_canTakeOut_74 : decode cX4_canTakeOut 74 = .ok (.goto 4, 3) := by decide +kernel
theorem dX4_canTakeOut_77 : decode cX4_canTakeOut 77 = .ok (.iconst 0, 1) := by decide +kernel
theorem dX4_canTakeOut_78 : decode cX4_canTakeOut 78 = .ok (.ireturn, 1) := by decide +kernel
theorem dX4_takeOut_0 : decode cX4_takeOut 0 = .ok (.aload_n 0, 1) := by decide +kernel
theorem dX4_takeOut_1 : decode cX4_takeOut 1 = .ok (.getfield 11, 3) := by decide +kernel
theorem dX4_takeOut_4 : decode cX4_takeOut 4 = .ok (.iload_n 1, 1) := by decide +kernel
theorem dX4_takeOut_5 : decode cX4_takeOut 5 = .ok (.aaload, 1) := by decide +kernel
theorem dX4_takeOut_6 : decode cX4_takeOut 6 = .ok (.getfield 87, 3) := by decide +kernel
theorem dX4_takeOut_9 : decode cX4_takeOut 9 = .ok (.astore_n 3, 1) := by decide +kernel
theorem dX4_takeOut_10 : decode cX4_takeOut 10 = .ok (.aload_n 3, 1) := by decide +kernel
theorem dX4_takeOut_11 : decode cX4_takeOut 11 = .ok (.getfield 161, 3) := by decide +kernel
theorem dX4_takeOut_14 : decode cX4_takeOut 14 = .ok (.iload_n 2, 1) := by decide +kernel
theorem dX4_takeOut_15 : decode cX4_takeOut 15 = .ok (.iaload, 1) := by decide +kernel
theorem dX4_takeOut_16 : decode cX4_takeOut 16 = .ok (.iconst 2, 1) := by decide +kernel
theorem dX4_takeOut_17 : decode cX4_takeOut 17 = .ok (.idiv, 1) := by decide +kernel
theorem dX4_takeOut_18 : decode cX4_takeOut 18 = .ok (.istore 4, 2) := by decide +kernel
theorem dX4_takeOut_20 : decode cX4_takeOut 20 = .ok (.aload_n 3, 1) := by decide +kernel
theorem dX4_takeOut_21 : decode cX4_takeOut 21 = .ok (.iload_n 2, 1) := by decide +kernel
theorem dX4_takeOut_22 : decode cX4_takeOut 22 = .ok (.invokevirtual 164, 3) := by decide +kernel
theorem dX4_takeOut_25 : decode cX4_takeOut 25 = .ok (.aload_n 0, 1) := by decide +kernel
theorem dX4_takeOut_26 : decode cX4_takeOut 26 = .ok (.dup, 1) := by decide +kernel
