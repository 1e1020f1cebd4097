theorem dX8_breakOf_91 : decode cX8_breakOf 91 = .ok (.ireturn, 1) := by decide +kernel
theorem dX8_breakOf_92 : decode cX8_breakOf 92 = .ok (.aload 4, 2) := by decide +kernel
theorem dX8_breakOf_94 : decode cX8_breakOf 94 = .ok (.getfield 111, 3) := by decide +kernel
theorem dX8_breakOf_97 : decode cX8_breakOf 97 = .ok (.ireturn, 1) := by decide +kernel
theorem dX8_breakOf_98 : decode cX8_breakOf 98 = .ok (.aload 4, 2) := by decide +kernel
theorem dX8_breakOf_100 : decode cX8_breakOf 100 = .ok (.getfield 114, 3) := by decide +kernel
theorem dX8_breakOf_103 : decode cX8_breakOf 103 = .ok (.getfield 118, 3) := by decide +kernel
theorem dX8_breakOf_106 : decode cX8_breakOf 106 = .ok (.ireturn, 1) := by decide +kernel
theorem dX8_breakOf_107 : decode cX8_breakOf 107 = .ok (.aload 4, 2) := by decide +kernel
theorem dX8_breakOf_109 : decode cX8_breakOf 109 = .ok (.getfield 114, 3) := by decide +kernel
theorem dX8_breakOf_112 : decode cX8_breakOf 112 = .ok (.invokevirtual 123, 3) := by decide +kernel
theorem dX8_breakOf_115 : decode cX8_breakOf 115 = .ok (.ireturn, 1) := by decide +kernel
theorem dX8_spot_0 : decode cX8_spot 0 = .ok (.aload_n 0, 1) := by decide +kernel
theorem dX8_spot_1 : decode cX8_spot 1 = .ok (.getfield 37, 3) := by decide +kernel
theorem dX8_spot_4 : decode cX8_spot 4 = .ok (.invokevirtual 80, 3) := by decide +kernel
theorem dX8_spot_7 : decode cX8_spot 7 = .ok (.astore 4, 2) := by decide +kernel
theorem dX8_spot_9 : decode cX8_spot 9 = .ok (.aload 4, 2) := by decide +kernel
theorem dX8_spot_11 : decode cX8_spot 11 = .ok (.iload_n 1, 1) := by decide +kernel
theorem dX8_spot_12 : decode cX8_spot 12 = .ok (.invokestatic 86, 3) := by decide +kernel
theorem dX8_spot_15 : decode cX8_spot 15 = .ok (.aload 4, 2) := by decide +kernel
theorem dX8_spot_17 : decode cX8_spot 17 = .ok (.getfield 94, 3) := by decide +kernel
theorem dX8_spot_20 : decode cX8_spot 20 = .ok (.iload_n 1, 1) := by decide +kernel
theorem dX8_spot_21 : decode cX8_spot 21 = .ok (.aaload, 1) := by decide +kernel
theorem dX8_spot_22 : decode cX8_spot 22 = .ok (.getfield 114, 3) := by decide +kernel
theorem dX8_spot_25 : decode cX8_spot 25 = .ok (.astore 5, 2) := by decide +kernel
theorem dX8_spot_27 : decode cX8_spot 27 = .ok (.aload 5, 2) := by decide +kernel
theorem dX8_spot_29 : decode cX8_spot 29 = .ok (.iload_n 2, 1) := by decide +kernel
theorem dX8_spot_30 : decode cX8_spot 30 = .ok (.invokestatic 127, 3) := by decide +kernel
theorem dX8_spot_33 : decode cX8_spot 33 = .ok (.iload_n 3, 1) := by decide +kernel
theorem dX8_spot_34 : decode cX8_spot 34 = .ok (.iconst 0, 1) := by decide +kernel
theorem dX8_spot_35 : decode cX8_spot 35 = .ok (.iconst 2, 1) := by decide +kernel
theorem dX8_spot_36 : decode cX8_spot 36 = .ok (.invokestatic 90, 3) := by decide +kernel
theorem dX8_spot_39 : decode cX8_spot 39 = .ok (.aload 5, 2) := by decide +kernel
theorem dX8_spot_41 : decode cX8_spot 41 = .ok (.iload_n 2, 1) := by decide +kernel
theorem dX8_spot_42 : decode cX8_spot 42 = .ok (.iload_n 3, 1) := by decide +kernel
theorem dX8_spot_43 : decode cX8_spot 43 = .ok (.invokevirtual 131, 3) := by decide +kernel
theorem dX8_spot_46 : decode cX8_spot 46 = .ok (.ireturn, 1) := by decide +kernel
theorem dX8_sponsor_0 : decode cX8_sponsor 0 = .ok (.aload_n 0, 1) := by decide +kernel
theorem dX8_sponsor_1 : decode cX8_sponsor 1 = .ok (.getfield 37, 3) := by decide +kernel
theorem dX8_sponsor_4 : decode cX8_sponsor 4 = .ok (.invokevirtual 80, 3) := by decide +kernel
theorem dX8_sponsor_7 : decode cX8_sponsor 7 = .ok (.astore_n 3, 1) := by decide +kernel
theorem dX8_sponsor_8 : decode cX8_sponsor 8 = .ok (.aload_n 3, 1) := by decide +kernel
theorem dX8_sponsor_9 : decode cX8_sponsor 9 = .ok (.iload_n 1, 1) := by decide +kernel
theorem dX8_sponsor_10 : decode cX8_sponsor 10 = .ok (.invokestatic 135, 3) := by decide +kernel
theorem dX8_sponsor_13 : decode cX8_sponsor 13 = .ok (.iload_n 2, 1) := by decide +kernel
theorem dX8_sponsor_14 : decode cX8_sponsor 14 = .ok (.iconst 0, 1) := by decide +kernel
theorem dX8_sponsor_15 : decode cX8_sponsor 15 = .ok (.iconst 4, 1) := by decide +kernel
theorem dX8_sponsor_16 : decode cX8_sponsor 16 = .ok (.invokestatic 90, 3) := by decide +kernel
theorem dX8_sponsor_19 : decode cX8_sponsor 19 = .ok (.iload_n 2, 1) := by decide +kernel
theorem dX8_sponsor_20 : decode cX8_sponsor 20 = .ok (.tableswitch 58 0 3 #[32, 39, 46, 52], 32) := by decide +kernel
theorem dX8_sponsor_52 : decode cX8_sponsor 52 = .ok (.aload_n 3, 1) := by decide +kernel
theorem dX8_sponsor_53 : decode cX8_sponsor 53 = .ok (.getfield 138, 3) := by decide +kernel
theorem dX8_sponsor_56 : decode cX8_sponsor 56 = .ok (.iload_n 1, 1) := by decide +kernel
theorem dX8_sponsor_57 : decode cX8_sponsor 57 = .ok (.iaload, 1) := by decide +kernel
theorem dX8_sponsor_58 : decode cX8_sponsor 58 = .ok (.ireturn, 1) := by decide +kernel
theorem dX8_sponsor_59 : decode cX8_sponsor 59 = .ok (.aload_n 3, 1) := by decide +kernel
theorem dX8_sponsor_60 : decode cX8_sponsor 60 = .ok (.getfield 142, 3) := by decide +kernel
theorem dX8_sponsor_63 : decode cX8_sponsor 63 = .ok (.iload_n 1, 1) := by decide +kernel
theorem dX8_sponsor_64 : decode cX8_sponsor 64 = .ok (.iaload, 1) := by decide +kernel
theorem dX8_sponsor_65 : decode cX8_sponsor 65 = .ok (.ireturn, 1) := by decide +kernel
theorem dX8_sponsor_66 : decode cX8_sponsor 66 = .ok (.aload_n 3, 1) := by decide +kernel
theorem dX8_sponsor_67 : decode cX8_sponsor 67 = .ok (.iload_n 1, 1) := by decide +kernel
theorem dX8_sponsor_68 : decode cX8_sponsor 68 = .ok (.invokevirtual 145, 3) := by decide +kernel
theorem dX8_sponsor_71 : decode cX8_sponsor 71 = .ok (.ireturn, 1) := by decide +kernel
theorem dX8_sponsor_72 : decode cX8_sponsor 72 = .ok (.aload_n 3, 1) := by decide +kernel
theorem dX8_sponsor_73 : decode cX8_sponsor 73 = .ok (.iload_n 1, 1) := by decide +kernel
theorem dX8_sponsor_74 : decode cX8_sponsor 74 = .ok (.invokevirtual 149, 3) := by decide +kernel
theorem dX8_sponsor_77 : decode cX8_sponsor 77 = .ok (.ireturn, 1) := by decide +kernel
theorem dX8_sponsor_78 : decode cX8_sponsor 78 = .ok (.aload_n 3, 1) := by decide +kernel
theorem dX8_sponsor_79 : decode cX8_sponsor 79 = .ok (.getfield 152, 3) := by decide +kernel
theorem dX8_sponsor_82 : decode cX8_sponsor 82 = .ok (.iload_n 1, 1) := by decide +kernel
theorem dX8_sponsor_83 : decode cX8_sponsor 83 = .ok (.invokevirtual 155, 3) := by decide +kernel
theorem dX8_sponsor_86 : decode cX8_sponsor 86 = .ok (.ireturn, 1) := by decide +kernel
theorem dX8_isBanned_0 : decode cX8_isBanned 0 = .ok (.iload_n 1, 1) := by decide +kernel
theorem dX8_isBanned_1 : decode cX8_isBanned 1 = .ok (.iconst 0, 1) := by decide +kernel
theorem dX8_isBanned_2 : decode cX8_isBanned 2 = .ok (.bipush 9, 2) := by decide +kernel
theorem dX8_isBanned_4 : decode cX8_isBanned 4 = .ok (.invokestatic 90, 3) := by decide +kernel
theorem dX8_isBanned_7 : decode cX8_isBanned 7 = .ok (.iload_n 2, 1) := by decide +kernel
theorem dX8_isBanned_8 : decode cX8_isBanned 8 = .ok (.iconst 0, 1) := by decide +kernel
theorem dX8_isBanned_9 : decode cX8_isBanned 9 = .ok (.bipush 9, 2) := by decide +kernel
theorem dX8_isBanned_11 : decode cX8_isBanned 11 = .ok (.invokestatic 90, 3) := by decide +kernel
theorem dX8_isBanned_14 : decode cX8_isBanned 14 = .ok (.aload_n 0, 1) := by decide +kernel
theorem dX8_isBanned_15 : decode cX8_isBanned 15 = .ok (.getfield 37, 3) := by decide +kernel
theorem dX8_isBanned_18 : decode cX8_isBanned 18 = .ok (.invokevirtual 80, 3) := by decide +kernel
theorem dX8_isBanned_21 : decode cX8_isBanned 21 = .ok (.iload_n 1, 1) := by decide +kernel
theorem dX8_isBanned_22 : decode cX8_isBanned 22 = .ok (.iload_n 2, 1) := by decide +kernel
theorem dX8_isBanned_23 : decode cX8_isBanned 23 = .ok (.invokevirtual 158, 3) := by decide +kernel
theorem dX8_isBanned_26 : decode cX8_isBanned 26 = .ok (.ireturn, 1) := by decide +kernel
theorem dX8_spotsOn_0 : decode cX8_spotsOn 0 = .ok (.aload_n 0, 1) := by decide +kernel
theorem dX8_spotsOn_1 : decode cX8_spotsOn 1 = .ok (.getfield 37, 3) := by decide +kernel
theorem dX8_spotsOn_4 : decode cX8_spotsOn 4 = .ok (.invokevirtual 80, 3) := by decide +kernel
theorem dX8_spotsOn_7 : decode cX8_spotsOn 7 = .ok (.astore_n 3, 1) := by decide +kernel
theorem dX8_spotsOn_8 : decode cX8_spotsOn 8 = .ok (.aload_n 3, 1) := by decide +kernel
theorem dX8_spotsOn_9 : decode cX8_spotsOn 9 = .ok (.iload_n 1, 1) := by decide +kernel
theorem dX8_spotsOn_10 : decode cX8_spotsOn 10 = .ok (.invokestatic 135, 3) := by decide +kernel
theorem dX8_spotsOn_13 : decode cX8_spotsOn 13 = .ok (.iload_n 2, 1) := by decide +kernel
theorem dX8_spotsOn_14 : decode cX8_spotsOn 14 = .ok (.iconst 0, 1) := by decide +kernel
theorem dX8_spotsOn_15 : decode cX8_spotsOn 15 = .ok (.bipush 6, 2) := by decide +kernel
theorem dX8_spotsOn_17 : decode cX8_spotsOn 17 = .ok (.invokestatic 90, 3) := by decide +kernel
theorem dX8_spotsOn_20 : decode cX8_spotsOn 20 = .ok (.aload_n 3, 1) := by decide +kernel
theorem dX8_spotsOn_21 : decode cX8_spotsOn 21 = .ok (.iload_n 1, 1) := by decide +kernel
theorem dX8_spotsOn_22 : decode cX8_spotsOn 22 = .ok (.iload_n 2, 1) := by decide +kernel
theorem dX8_spotsOn_23 : decode cX8_spotsOn 23 = .ok (.invokevirtual 162, 3) := by decide +kernel
theorem dX8_spotsOn_26 : decode cX8_spotsOn 26 = .ok (.ireturn, 1) := by decide +kernel
theorem dX8_reason_0 : decode cX8_reason 0 = .ok (.aload_n 0, 1) := by decide +kernel
theorem dX8_reason_1 : decode cX8_reason 1 = .ok (.getfield 37, 3) := by decide +kernel
theorem dX8_reason_4 : decode cX8_reason 4 = .ok (.invokevirtual 80, 3) := by decide +kernel
theorem dX8_reason_7 : decode cX8_reason 7 = .ok (.astore 4, 2) := by decide +kernel
theorem dX8_reason_9 : decode cX8_reason 9 = .ok (.aload 4, 2) := by decide +kernel
theorem dX8_reason_11 : decode cX8_reason 11 = .ok (.iload_n 1, 1) := by decide +kernel
theorem dX8_reason_12 : decode cX8_reason 12 = .ok (.iload_n 2, 1) := by decide +kernel
theorem dX8_reason_13 : decode cX8_reason 13 = .ok (.iload_n 3, 1) := by decide +kernel
theorem dX8_reason_14 : decode cX8_reason 14 = .ok (.invokestatic 165, 3) := by decide +kernel
theorem dX8_reason_17 : decode cX8_reason 17 = .ok (.aload 4, 2) := by decide +kernel
theorem dX8_reason_19 : decode cX8_reason 19 = .ok (.iload_n 1, 1) := by decide +kernel
theorem dX8_reason_20 : decode cX8_reason 20 = .ok (.iload_n 2, 1) := by decide +kernel
theorem dX8_reason_21 : decode cX8_reason 21 = .ok (.iload_n 3, 1) := by decide +kernel
theorem dX8_reason_22 : decode cX8_reason 22 = .ok (.invokevirtual 169, 3) := by decide +kernel
theorem dX8_reason_25 : decode cX8_reason 25 = .ok (.ireturn, 1) := by decide +kernel
theorem dX8_price_0 : decode cX8_price 0 = .ok (.aload_n 0, 1) := by decide +kernel
theorem dX8_price_1 : decode cX8_price 1 = .ok (.getfield 37, 3) := by decide +kernel
theorem dX8_price_4 : decode cX8_price 4 = .ok (.invokevirtual 80, 3) := by decide +kernel
theorem dX8_price_7 : decode cX8_price 7 = .ok (.astore 4, 2) := by decide +kernel
theorem dX8_price_9 : decode cX8_price 9 = .ok (.aload 4, 2) := by decide +kernel
theorem dX8_price_11 : decode cX8_price 11 = .ok (.iload_n 1, 1) := by decide +kernel
theorem dX8_price_12 : decode cX8_price 12 = .ok (.iload_n 2, 1) := by decide +kernel
theorem dX8_price_13 : decode cX8_price 13 = .ok (.iload_n 3, 1) := by decide +kernel
theorem dX8_price_14 : decode cX8_price 14 = .ok (.invokestatic 165, 3) := by decide +kernel
theorem dX8_price_17 : decode cX8_price 17 = .ok (.aload 4, 2) := by decide +kernel
theorem dX8_price_19 : decode cX8_price 19 = .ok (.iload_n 1, 1) := by decide +kernel
theorem dX8_price_20 : decode cX8_price 20 = .ok (.iload_n 2, 1) := by decide +kernel
theorem dX8_price_21 : decode cX8_price 21 = .ok (.iload_n 3, 1) := by decide +kernel
theorem dX8_price_22 : decode cX8_price 22 = .ok (.invokevirtual 173, 3) := by decide +kernel
theorem dX8_price_25 : decode cX8_price 25 = .ok (.ireturn, 1) := by decide +kernel
theorem dX8_cheapest_0 : decode cX8_cheapest 0 = .ok (.aload_n 0, 1) := by decide +kernel
theorem dX8_cheapest_1 : decode cX8_cheapest 1 = .ok (.getfield 37, 3) := by decide +kernel
theorem dX8_cheapest_4 : decode cX8_cheapest 4 = .ok (.invokevirtual 80, 3) := by decide +kernel
theorem dX8_cheapest_7 : decode cX8_cheapest 7 = .ok (.astore_n 3, 1) := by decide +kernel
theorem dX8_cheapest_8 : decode cX8_cheapest 8 = .ok (.aload_n 3, 1) := by decide +kernel
theorem dX8_cheapest_9 : decode cX8_cheapest 9 = .ok (.iload_n 1, 1) := by decide +kernel
theorem dX8_cheapest_10 : decode cX8_cheapest 10 = .ok (.invokestatic 135, 3) := by decide +kernel
theorem dX8_cheapest_13 : decode cX8_cheapest 13 = .ok (.iload_n 2, 1) := by decide +kernel
theorem dX8_cheapest_14 : decode cX8_cheapest 14 = .ok (.iconst 5, 1) := by decide +kernel
theorem dX8_cheapest_15 : decode cX8_cheapest 15 = .ok (.bipush 60, 2) := by decide +kernel
theorem dX8_cheapest_17 : decode cX8_cheapest 17 = .ok (.invokestatic 90, 3) := by decide +kernel
theorem dX8_cheapest_20 : decode cX8_cheapest 20 = .ok (.aload_n 3, 1) := by decide +kernel
theorem dX8_cheapest_21 : decode cX8_cheapest 21 = .ok (.iload_n 1, 1) := by decide +kernel
theorem dX8_cheapest_22 : decode cX8_cheapest 22 = .ok (.iload_n 2, 1) := by decide +kernel
theorem dX8_cheapest_23 : decode cX8_cheapest 23 = .ok (.invokevirtual 176, 3) := by decide +kernel
theorem dX8_cheapest_26 : decode cX8_cheapest 26 = .ok (.ireturn, 1) := by decide +kernel
theorem dX8_widest_0 : decode cX8_widest 0 = .ok (.aload_n 0, 1) := by decide +kernel
theorem dX8_widest_1 : decode cX8_widest 1 = .ok (.getfield 37, 3) := by decide +kernel
theorem dX8_widest_4 : decode cX8_widest 4 = .ok (.invokevirtual 80, 3) := by decide +kernel
theorem dX8_widest_7 : decode cX8_widest 7 = .ok (.astore_n 3, 1) := by decide +kernel
theorem dX8_widest_8 : decode cX8_widest 8 = .ok (.aload_n 3, 1) := by decide +kernel
theorem dX8_widest_9 : decode cX8_widest 9 = .ok (.iload_n 1, 1) := by decide +kernel
theorem dX8_widest_10 : decode cX8_widest 10 = .ok (.invokestatic 135, 3) := by decide +kernel
theorem dX8_widest_13 : decode cX8_widest 13 = .ok (.iload_n 2, 1) := by decide +kernel
theorem dX8_widest_14 : decode cX8_widest 14 = .ok (.iconst 5, 1) := by decide +kernel
theorem dX8_widest_15 : decode cX8_widest 15 = .ok (.bipush 60, 2) := by decide +kernel
theorem dX8_widest_17 : decode cX8_widest 17 = .ok (.invokestatic 90, 3) := by decide +kernel
theorem dX8_widest_20 : decode cX8_widest 20 = .ok (.aload_n 3, 1) := by decide +kernel
theorem dX8_widest_21 : decode cX8_widest 21 = .ok (.iload_n 1, 1) := by decide +kernel
theorem dX8_widest_22 : decode cX8_widest 22 = .ok (.iload_n 2, 1) := by decide +kernel
theorem dX8_widest_23 : decode cX8_widest 23 = .ok (.invokevirtual 179, 3) := by decide +kernel
theorem dX8_widest_26 : decode cX8_widest 26 = .ok (.ireturn, 1) := by decide +kernel
theorem dX8_income_0 : decode cX8_income 0 = .ok (.aload_n 0, 1) := by decide +kernel
theorem dX8_income_1 : decode cX8_income 1 = .ok (.getfield 37, 3) := by decide +kernel
theorem dX8_income_4 : decode cX8_income 4 = .ok (.invokevirtual 80, 3) := by decide +kernel
theorem dX8_income_7 : decode cX8_income 7 = .ok (.getfield 182, 3) := by decide +kernel
theorem dX8_income_10 : decode cX8_income 10 = .ok (.ireturn, 1) := by decide +kernel
theorem dX8_owed_0 : decode cX8_owed 0 = .ok (.aload_n 0, 1) := by decide +kernel
theorem dX8_owed_1 : decode cX8_owed 1 = .ok (.getfield 37, 3) := by decide +kernel
theorem dX8_owed_4 : decode cX8_owed 4 = .ok (.invokevirtual 80, 3) := by decide +kernel
theorem dX8_owed_7 : decode cX8_owed 7 = .ok (.getfield 152, 3) := by decide +kernel
theorem dX8_owed_10 : decode cX8_owed 10 = .ok (.getfield 118, 3) := by decide +kernel
theorem dX8_owed_13 : decode cX8_owed 13 = .ok (.ireturn, 1) := by decide +kernel
theorem dX8_owedSpot_0 : decode cX8_owedSpot 0 = .ok (.aload_n 0, 1) := by decide +kernel
theorem dX8_owedSpot_1 : decode cX8_owedSpot 1 = .ok (.getfield 37, 3) := by decide +kernel
theorem dX8_owedSpot_4 : decode cX8_owedSpot 4 = .ok (.invokevirtual 80, 3) := by decide +kernel
theorem dX8_owedSpot_7 : decode cX8_owedSpot 7 = .ok (.getfield 152, 3) := by decide +kernel
theorem dX8_owedSpot_10 : decode cX8_owedSpot 10 = .ok (.astore_n 3, 1) := by decide +kernel
theorem dX8_owedSpot_11 : decode cX8_owedSpot 11 = .ok (.aload_n 3, 1) := by decide +kernel
theorem dX8_owedSpot_12 : decode cX8_owedSpot 12 = .ok (.iload_n 1, 1) := by decide +kernel
theorem dX8_owedSpot_13 : decode cX8_owedSpot 13 = .ok (.invokestatic 127, 3) := by decide +kernel
theorem dX8_owedSpot_16 : decode cX8_owedSpot 16 = .ok (.iload_n 2, 1) := by decide +kernel
theorem dX8_owedSpot_17 : decode cX8_owedSpot 17 = .ok (.iconst 0, 1) := by decide +kernel
theorem dX8_owedSpot_18 : decode cX8_owedSpot 18 = .ok (.iconst 3, 1) := by decide +kernel
theorem dX8_owedSpot_19 : decode cX8_owedSpot 19 = .ok (.invokestatic 90, 3) := by decide +kernel
theorem dX8_owedSpot_22 : decode cX8_owedSpot 22 = .ok (.aload_n 3, 1) := by decide +kernel
theorem dX8_owedSpot_23 : decode cX8_owedSpot 23 = .ok (.iload_n 1, 1) := by decide +kernel
theorem dX8_owedSpot_24 : decode cX8_owedSpot 24 = .ok (.iload_n 2, 1) := by decide +kernel
theorem dX8_owedSpot_25 : decode cX8_owedSpot 25 = .ok (.invokevirtual 131, 3) := by decide +kernel
theorem dX8_owedSpot_28 : decode cX8_owedSpot 28 = .ok (.ireturn, 1) := by decide +kernel
theorem dX8_arrangements_0 : decode cX8_arrangements 0 = .ok (.aload_n 0, 1) := by decide +kernel
theorem dX8_arrangements_1 : decode cX8_arrangements 1 = .ok (.getfield 37, 3) := by decide +kernel
theorem dX8_arrangements_4 : decode cX8_arrangements 4 = .ok (.invokevirtual 80, 3) := by decide +kernel
theorem dX8_arrangements_7 : decode cX8_arrangements 7 = .ok (.astore_n 2, 1) := by decide +kernel
theorem dX8_arrangements_8 : decode cX8_arrangements 8 = .ok (.aload_n 2, 1) := by decide +kernel
theorem dX8_arrangements_9 : decode cX8_arrangements 9 = .ok (.iload_n 1, 1) := by decide +kernel
theorem dX8_arrangements_10 : decode cX8_arrangements 10 = .ok (.invokestatic 185, 3) := by decide +kernel
theorem dX8_arrangements_13 : decode cX8_arrangements 13 = .ok (.aload_n 0, 1) := by decide +kernel
theorem dX8_arrangements_14 : decode cX8_arrangements 14 = .ok (.getfield 44, 3) := by decide +kernel
theorem dX8_arrangements_17 : decode cX8_arrangements 17 = .ok (.aload_n 2, 1) := by decide +kernel
theorem dX8_arrangements_18 : decode cX8_arrangements 18 = .ok (.iload_n 1, 1) := by decide +kernel
theorem dX8_arrangements_19 : decode cX8_arrangements 19 = .ok (.invokevirtual 188, 3) := by decide +kernel
theorem dX8_arrangements_22 : decode cX8_arrangements 22 = .ok (.ireturn, 1) := by decide +kernel
theorem dX8_arranged_0 : decode cX8_arranged 0 = .ok (.aload_n 0, 1) := by decide +kernel
theorem dX8_arranged_1 : decode cX8_arranged 1 = .ok (.getfield 37, 3) := by decide +kernel
theorem dX8_arranged_4 : decode cX8_arranged 4 = .ok (.invokevirtual 80, 3) := by decide +kernel
theorem dX8_arranged_7 : decode cX8_arranged 7 = .ok (.astore_n 3, 1) := by decide +kernel
theorem dX8_arranged_8 : decode cX8_arranged 8 = .ok (.aload_n 3, 1) := by decide +kernel
theorem dX8_arranged_9 : decode cX8_arranged 9 = .ok (.iload_n 1, 1) := by decide +kernel
theorem dX8_arranged_10 : decode cX8_arranged 10 = .ok (.invokestatic 185, 3) := by decide +kernel
theorem dX8_arranged_13 : decode cX8_arranged 13 = .ok (.iload_n 2, 1) := by decide +kernel
theorem dX8_arranged_14 : decode cX8_arranged 14 = .ok (.ifCond .lt 11, 3) := by decide +kernel
theorem dX8_arranged_17 : decode cX8_arranged 17 = .ok (.iload_n 2, 1) := by decide +kernel
theorem dX8_arranged_18 : decode cX8_arranged 18 = .ok (.iload_n 1, 1) := by decide +kernel
theorem dX8_arranged_19 : decode cX8_arranged 19 = .ok (.invokestatic 192, 3) := by decide +kernel
theorem dX8_arranged_22 : decode cX8_arranged 22 = .ok (.if_icmp .lt 13, 3) := by decide +kernel
theorem dX8_arranged_25 : decode cX8_arranged 25 = .ok (.new 197, 3) := by decide +kernel
theorem dX8_arranged_28 : decode cX8_arranged 28 = .ok (.dup, 1) := by decide +kernel
theorem dX8_arranged_29 : decode cX8_arranged 29 = .ok (.ldc 199, 2) := by decide +kernel
theorem dX8_arranged_31 : decode cX8_arranged 31 = .ok (.invokespecial 201, 3) := by decide +kernel
theorem dX8_arranged_34 : decode cX8_arranged 34 = .ok (.athrow, 1) := by decide +kernel
theorem dX8_arranged_35 : decode cX8_arranged 35 = .ok (.aload_n 0, 1) := by decide +kernel
theorem dX8_arranged_36 : decode cX8_arranged 36 = .ok (.getfield 44, 3) := by decide +kernel
theorem dX8_arranged_39 : decode cX8_arranged 39 = .ok (.aload_n 3, 1) := by decide +kernel
theorem dX8_arranged_40 : decode cX8_arranged 40 = .ok (.iload_n 1, 1) := by decide +kernel
theorem dX8_arranged_41 : decode cX8_arranged 41 = .ok (.invokevirtual 202, 3) := by decide +kernel
theorem dX8_arranged_44 : decode cX8_arranged 44 = .ok (.ifCond .eq 15, 3) := by decide +kernel
theorem dX8_arranged_47 : decode cX8_arranged 47 = .ok (.aload_n 0, 1) := by decide +kernel
theorem dX8_arranged_48 : decode cX8_arranged 48 = .ok (.getfield 44, 3) := by decide +kernel
theorem dX8_arranged_51 : decode cX8_arranged 51 = .ok (.getfield 206, 3) := by decide +kernel
theorem dX8_arranged_54 : decode cX8_arranged 54 = .ok (.iload_n 2, 1) := by decide +kernel
theorem dX8_arranged_55 : decode cX8_arranged 55 = .ok (.iaload, 1) := by decide +kernel
theorem dX8_arranged_56 : decode cX8_arranged 56 = .ok (.goto 4, 3) := by decide +kernel
theorem dX8_arranged_59 : decode cX8_arranged 59 = .ok (.iconst (-1), 1) := by decide +kernel
theorem dX8_arranged_60 : decode cX8_arranged 60 = .ok (.ireturn, 1) := by decide +kernel
theorem dX8_book_0 : decode cX8_book 0 = .ok (.aload_n 0, 1) := by decide +kernel
theorem dX8_book_1 : decode cX8_book 1 = .ok (.getfield 37, 3) := by decide +kernel
theorem dX8_book_4 : decode cX8_book 4 = .ok (.invokevirtual 80, 3) := by decide +kernel
theorem dX8_book_7 : decode cX8_book 7 = .ok (.iload_n 1, 1) := by decide +kernel
theorem dX8_book_8 : decode cX8_book 8 = .ok (.iload_n 2, 1) := by decide +kernel
theorem dX8_book_9 : decode cX8_book 9 = .ok (.iload_n 3, 1) := by decide +kernel
theorem dX8_book_10 : decode cX8_book 10 = .ok (.invokestatic 165, 3) := by decide +kernel
theorem dX8_book_13 : decode cX8_book 13 = .ok (.aload_n 0, 1) := by decide +kernel
theorem dX8_book_14 : decode cX8_book 14 = .ok (.getfield 37, 3) := by decide +kernel
theorem dX8_book_17 : decode cX8_book 17 = .ok (.invokevirtual 69, 3) := by decide +kernel
theorem dX8_book_20 : decode cX8_book 20 = .ok (.iload_n 1, 1) := by decide +kernel
theorem dX8_book_21 : decode cX8_book 21 = .ok (.iload_n 2, 1) := by decide +kernel
theorem dX8_book_22 : decode cX8_book 22 = .ok (.iload_n 3, 1) := by decide +kernel
theorem dX8_book_23 : decode cX8_book 23 = .ok (.invokevirtual 209, 3) := by decide +kernel
theorem dX8_book_26 : decode cX8_book 26 = .ok (.ireturn, 1) := by decide +kernel
theorem dX8_bookAnyhow_0 : decode cX8_bookAnyhow 0 = .ok (.aload_n 0, 1) := by decide +kernel
theorem dX8_bookAnyhow_1 : decode cX8_bookAnyhow 1 = .ok (.getfield 37, 3) := by decide +kernel
theorem dX8_bookAnyhow_4 : decode cX8_bookAnyhow 4 = .ok (.invokevirtual 80, 3) := by decide +kernel
theorem dX8_bookAnyhow_7 : decode cX8_bookAnyhow 7 = .ok (.iload_n 1, 1) := by decide +kernel
theorem dX8_bookAnyhow_8 : decode cX8_bookAnyhow 8 = .ok (.iload_n 2, 1) := by decide +kernel
theorem dX8_bookAnyhow_9 : decode cX8_bookAnyhow 9 = .ok (.iload_n 3, 1) := by decide +kernel
theorem dX8_bookAnyhow_10 : decode cX8_bookAnyhow 10 = .ok (.invokestatic 165, 3) := by decide +kernel
theorem dX8_bookAnyhow_13 : decode cX8_bookAnyhow 13 = .ok (.aload_n 0, 1) := by decide +kernel
theorem dX8_bookAnyhow_14 : decode cX8_bookAnyhow 14 = .ok (.getfield 37, 3) := by decide +kernel
theorem dX8_bookAnyhow_17 : decode cX8_bookAnyhow 17 = .ok (.invokevirtual 69, 3) := by decide +kernel
theorem dX8_bookAnyhow_20 : decode cX8_bookAnyhow 20 = .ok (.astore 4, 2) := by decide +kernel
theorem dX8_bookAnyhow_22 : decode cX8_bookAnyhow 22 = .ok (.aload 4, 2) := by decide +kernel
theorem dX8_bookAnyhow_24 : decode cX8_bookAnyhow 24 = .ok (.iload_n 1, 1) := by decide +kernel
theorem dX8_bookAnyhow_25 : decode cX8_bookAnyhow 25 = .ok (.iload_n 2, 1) := by decide +kernel
theorem dX8_bookAnyhow_26 : decode cX8_bookAnyhow 26 = .ok (.iload_n 3, 1) := by decide +kernel
theorem dX8_bookAnyhow_27 : decode cX8_bookAnyhow 27 = .ok (.invokevirtual 169, 3) := by decide +kernel
theorem dX8_bookAnyhow_30 : decode cX8_bookAnyhow 30 = .ok (.iconst 5, 1) := by decide +kernel
theorem dX8_bookAnyhow_31 : decode cX8_bookAnyhow 31 = .ok (.if_icmp .eq 12, 3) := by decide +kernel
theorem dX8_bookAnyhow_34 : decode cX8_bookAnyhow 34 = .ok (.aload 4, 2) := by decide +kernel
theorem dX8_bookAnyhow_36 : decode cX8_bookAnyhow 36 = .ok (.iload_n 1, 1) := by decide +kernel
theorem dX8_bookAnyhow_37 : decode cX8_bookAnyhow 37 = .ok (.iload_n 2, 1) := by decide +kernel
theorem dX8_bookAnyhow_38 : decode cX8_bookAnyhow 38 = .ok (.iload_n 3, 1) := by decide +kernel
theorem dX8_bookAnyhow_39 : decode cX8_bookAnyhow 39 = .ok (.invokevirtual 209, 3) := by decide +kernel
theorem dX8_bookAnyhow_42 : decode cX8_bookAnyhow 42 = .ok (.ireturn, 1) := by decide +kernel
theorem dX8_bookAnyhow_43 : decode cX8_bookAnyhow 43 = .ok (.aload 4, 2) := by decide +kernel
theorem dX8_bookAnyhow_45 : decode cX8_bookAnyhow 45 = .ok (.getfield 94, 3) := by decide +kernel
theorem dX8_bookAnyhow_48 : decode cX8_bookAnyhow 48 = .ok (.iload_n 3, 1) := by decide +kernel
theorem dX8_bookAnyhow_49 : decode cX8_bookAnyhow 49 = .ok (.aaload, 1) := by decide +kernel
theorem dX8_bookAnyhow_50 : decode cX8_bookAnyhow 50 = .ok (.getfield 114, 3) := by decide +kernel
theorem dX8_bookAnyhow_53 : decode cX8_bookAnyhow 53 = .ok (.invokevirtual 212, 3) := by decide +kernel
theorem dX8_bookAnyhow_56 : decode cX8_bookAnyhow 56 = .ok (.iconst 1, 1) := by decide +kernel
theorem dX8_bookAnyhow_57 : decode cX8_bookAnyhow 57 = .ok (.iload_n 1, 1) := by decide +kernel
theorem dX8_bookAnyhow_58 : decode cX8_bookAnyhow 58 = .ok (.ishl, 1) := by decide +kernel
theorem dX8_bookAnyhow_59 : decode cX8_bookAnyhow 59 = .ok (.ior, 1) := by decide +kernel
theorem dX8_bookAnyhow_60 : decode cX8_bookAnyhow 60 = .ok (.istore 5, 2) := by decide +kernel
theorem dX8_bookAnyhow_62 : decode cX8_bookAnyhow 62 = .ok (.aload_n 0, 1) := by decide +kernel
theorem dX8_bookAnyhow_63 : decode cX8_bookAnyhow 63 = .ok (.getfield 44, 3) := by decide +kernel
theorem dX8_bookAnyhow_66 : decode cX8_bookAnyhow 66 = .ok (.aload 4, 2) := by decide +kernel
theorem dX8_bookAnyhow_68 : decode cX8_bookAnyhow 68 = .ok (.iload 5, 2) := by decide +kernel
theorem dX8_bookAnyhow_70 : decode cX8_bookAnyhow 70 = .ok (.invokevirtual 202, 3) := by decide +kernel
theorem dX8_bookAnyhow_73 : decode cX8_bookAnyhow 73 = .ok (.ifCond .ne 6, 3) := by decide +kernel
theorem dX8_bookAnyhow_76 : decode cX8_bookAnyhow 76 = .ok (.bipush (-5), 2) := by decide +kernel
theorem dX8_bookAnyhow_78 : decode cX8_bookAnyhow 78 = .ok (.ireturn, 1) := by decide +kernel
theorem dX8_bookAnyhow_79 : decode cX8_bookAnyhow 79 = .ok (.aload 4, 2) := by decide +kernel
theorem dX8_bookAnyhow_81 : decode cX8_bookAnyhow 81 = .ok (.iload_n 1, 1) := by decide +kernel
theorem dX8_bookAnyhow_82 : decode cX8_bookAnyhow 82 = .ok (.iload_n 2, 1) := by decide +kernel
theorem dX8_bookAnyhow_83 : decode cX8_bookAnyhow 83 = .ok (.iload_n 3, 1) := by decide +kernel
theorem dX8_bookAnyhow_84 : decode cX8_bookAnyhow 84 = .ok (.aload_n 0, 1) := by decide +kernel
theorem dX8_bookAnyhow_85 : decode cX8_bookAnyhow 85 = .ok (.getfield 44, 3) := by decide +kernel
theorem dX8_bookAnyhow_88 : decode cX8_bookAnyhow 88 = .ok (.getfield 206, 3) := by decide +kernel
theorem dX8_bookAnyhow_91 : decode cX8_bookAnyhow 91 = .ok (.invokevirtual 215, 3) := by decide +kernel
theorem dX8_bookAnyhow_94 : decode cX8_bookAnyhow 94 = .ok (.aload 4, 2) := by decide +kernel
theorem dX8_bookAnyhow_96 : decode cX8_bookAnyhow 96 = .ok (.getfield 94, 3) := by decide +kernel
theorem dX8_bookAnyhow_99 : decode cX8_bookAnyhow 99 = .ok (.iload_n 3, 1) := by decide +kernel
theorem dX8_bookAnyhow_100 : decode cX8_bookAnyhow 100 = .ok (.aaload, 1) := by decide +kernel
theorem dX8_bookAnyhow_101 : decode cX8_bookAnyhow 101 = .ok (.getfield 114, 3) := by decide +kernel
theorem dX8_bookAnyhow_104 : decode cX8_bookAnyhow 104 = .ok (.iload_n 1, 1) := by decide +kernel
theorem dX8_bookAnyhow_105 : decode cX8_bookAnyhow 105 = .ok (.invokevirtual 219, 3) := by decide +kernel
theorem dX8_bookAnyhow_108 : decode cX8_bookAnyhow 108 = .ok (.ireturn, 1) := by decide +kernel
theorem dX8_remove_0 : decode cX8_remove 0 = .ok (.aload_n 0, 1) := by decide +kernel
theorem dX8_remove_1 : decode cX8_remove 1 = .ok (.getfield 37, 3) := by decide +kernel
theorem dX8_remove_4 : decode cX8_remove 4 = .ok (.invokevirtual 80, 3) := by decide +kernel
theorem dX8_remove_7 : decode cX8_remove 7 = .ok (.astore_n 3, 1) := by decide +kernel
theorem dX8_remove_8 : decode cX8_remove 8 = .ok (.aload_n 3, 1) := by decide +kernel
theorem dX8_remove_9 : decode cX8_remove 9 = .ok (.iload_n 1, 1) := by decide +kernel
theorem dX8_remove_10 : decode cX8_remove 10 = .ok (.invokestatic 86, 3) := by decide +kernel
theorem dX8_remove_13 : decode cX8_remove 13 = .ok (.aload_n 3, 1) := by decide +kernel
theorem dX8_remove_14 : decode cX8_remove 14 = .ok (.getfield 94, 3) := by decide +kernel
theorem dX8_remove_17 : decode cX8_remove 17 = .ok (.iload_n 1, 1) := by decide +kernel
theorem dX8_remove_18 : decode cX8_remove 18 = .ok (.aaload, 1) := by decide +kernel
theorem dX8_remove_19 : decode cX8_remove 19 = .ok (.getfield 114, 3) := by decide +kernel
theorem dX8_remove_22 : decode cX8_remove 22 = .ok (.iload_n 2, 1) := by decide +kernel
theorem dX8_remove_23 : decode cX8_remove 23 = .ok (.invokestatic 127, 3) := by decide +kernel
theorem dX8_remove_26 : decode cX8_remove 26 = .ok (.aload_n 3, 1) := by decide +kernel
theorem dX8_remove_27 : decode cX8_remove 27 = .ok (.iload_n 1, 1) := by decide +kernel
theorem dX8_remove_28 : decode cX8_remove 28 = .ok (.iload_n 2, 1) := by decide +kernel
theorem dX8_remove_29 : decode cX8_remove 29 = .ok (.invokevirtual 222, 3) := by decide +kernel
theorem dX8_remove_32 : decode cX8_remove 32 = .ok (.ifCond .ne 13, 3) := by decide +kernel
theorem dX8_remove_35 : decode cX8_remove 35 = .ok (.new 225, 3) := by decide +kernel
theorem dX8_remove_38 : decode cX8_remove 38 = .ok (.dup, 1) := by decide +kernel
theorem dX8_remove_39 : decode cX8_remove 39 = .ok (.ldc 227, 2) := by decide +kernel
theorem dX8_remove_41 : decode cX8_remove 41 = .ok (.invokespecial 229, 3) := by decide +kernel
theorem dX8_remove_44 : decode cX8_remove 44 = .ok (.athrow, 1) := by decide +kernel
theorem dX8_remove_45 : decode cX8_remove 45 = .ok (.aload_n 0, 1) := by decide +kernel
theorem dX8_remove_46 : decode cX8_remove 46 = .ok (.getfield 37, 3) := by decide +kernel
theorem dX8_remove_49 : decode cX8_remove 49 = .ok (.invokevirtual 69, 3) := by decide +kernel
theorem dX8_remove_52 : decode cX8_remove 52 = .ok (.iload_n 1, 1) := by decide +kernel
theorem dX8_remove_53 : decode cX8_remove 53 = .ok (.iload_n 2, 1) := by decide +kernel
theorem dX8_remove_54 : decode cX8_remove 54 = .ok (.invokevirtual 230, 3) := by decide +kernel
theorem dX8_remove_57 : decode cX8_remove 57 = .ok (.ireturn, 1) := by decide +kernel
theorem dX8_air_0 : decode cX8_air 0 = .ok (.aload_n 0, 1) := by decide +kernel
theorem dX8_air_1 : decode cX8_air 1 = .ok (.getfield 37, 3) := by decide +kernel
theorem dX8_air_4 : decode cX8_air 4 = .ok (.invokevirtual 80, 3) := by decide +kernel
theorem dX8_air_7 : decode cX8_air 7 = .ok (.invokevirtual 233, 3) := by decide +kernel
theorem dX8_air_10 : decode cX8_air 10 = .ok (.istore_n 1, 1) := by decide +kernel
theorem dX8_air_11 : decode cX8_air 11 = .ok (.iload_n 1, 1) := by decide +kernel
theorem dX8_air_12 : decode cX8_air 12 = .ok (.ifCond .ge 13, 3) := by decide +kernel
theorem dX8_air_15 : decode cX8_air 15 = .ok (.new 225, 3) := by decide +kernel
theorem dX8_air_18 : decode cX8_air 18 = .ok (.dup, 1) := by decide +kernel
theorem dX8_air_19 : decode cX8_air 19 = .ok (.ldc 236, 2) := by decide +kernel
theorem dX8_air_21 : decode cX8_air 21 = .ok (.invokespecial 229, 3) := by decide +kernel
theorem dX8_air_24 : decode cX8_air 24 = .ok (.athrow, 1) := by decide +kernel
theorem dX8_air_25 : decode cX8_air 25 = .ok (.aload_n 0, 1) := by decide +kernel
theorem dX8_air_26 : decode cX8_air 26 = .ok (.getfield 37, 3) := by decide +kernel
theorem dX8_air_29 : decode cX8_air 29 = .ok (.invokevirtual 69, 3) := by decide +kernel
theorem dX8_air_32 : decode cX8_air 32 = .ok (.getfield 94, 3) := by decide +kernel
theorem dX8_air_35 : decode cX8_air 35 = .ok (.iload_n 1, 1) := by decide +kernel
theorem dX8_air_36 : decode cX8_air 36 = .ok (.aaload, 1) := by decide +kernel
theorem dX8_air_37 : decode cX8_air 37 = .ok (.astore_n 2, 1) := by decide +kernel
theorem dX8_air_38 : decode cX8_air 38 = .ok (.aload_n 2, 1) := by decide +kernel
theorem dX8_air_39 : decode cX8_air 39 = .ok (.iconst 1, 1) := by decide +kernel
theorem dX8_air_40 : decode cX8_air 40 = .ok (.putfield 111, 3) := by decide +kernel
theorem dX8_air_43 : decode cX8_air 43 = .ok (.aload_n 2, 1) := by decide +kernel
theorem dX8_air_44 : decode cX8_air 44 = .ok (.getfield 114, 3) := by decide +kernel
theorem dX8_air_47 : decode cX8_air 47 = .ok (.getfield 118, 3) := by decide +kernel
theorem dX8_air_50 : decode cX8_air 50 = .ok (.ireturn, 1) := by decide +kernel
theorem dX8_cancel_0 : decode cX8_cancel 0 = .ok (.aload_n 0, 1) := by decide +kernel
theorem dX8_cancel_1 : decode cX8_cancel 1 = .ok (.getfield 37, 3) := by decide +kernel
theorem dX8_cancel_4 : decode cX8_cancel 4 = .ok (.invokevirtual 80, 3) := by decide +kernel
theorem dX8_cancel_7 : decode cX8_cancel 7 = .ok (.astore_n 2, 1) := by decide +kernel
theorem dX8_cancel_8 : decode cX8_cancel 8 = .ok (.aload_n 2, 1) := by decide +kernel
theorem dX8_cancel_9 : decode cX8_cancel 9 = .ok (.iload_n 1, 1) := by decide +kernel
theorem dX8_cancel_10 : decode cX8_cancel 10 = .ok (.invokestatic 86, 3) := by decide +kernel
theorem dX8_cancel_13 : decode cX8_cancel 13 = .ok (.aload_n 2, 1) := by decide +kernel
theorem dX8_cancel_14 : decode cX8_cancel 14 = .ok (.getfield 94, 3) := by decide +kernel
theorem dX8_cancel_17 : decode cX8_cancel 17 = .ok (.iload_n 1, 1) := by decide +kernel
theorem dX8_cancel_18 : decode cX8_cancel 18 = .ok (.aaload, 1) := by decide +kernel
theorem dX8_cancel_19 : decode cX8_cancel 19 = .ok (.getfield 111, 3) := by decide +kernel
theorem dX8_cancel_22 : decode cX8_cancel 22 = .ok (.ifCond .eq 13, 3) := by decide +kernel
theorem dX8_cancel_25 : decode cX8_cancel 25 = .ok (.new 225, 3) := by decide +kernel
theorem dX8_cancel_28 : decode cX8_cancel 28 = .ok (.dup, 1) := by decide +kernel
theorem dX8_cancel_29 : decode cX8_cancel 29 = .ok (.ldc 238, 2) := by decide +kernel
theorem dX8_cancel_31 : decode cX8_cancel 31 = .ok (.invokespecial 229, 3) := by decide +kernel
theorem dX8_cancel_34 : decode cX8_cancel 34 = .ok (.athrow, 1) := by decide +kernel
theorem dX8_cancel_35 : decode cX8_cancel 35 = .ok (.aload_n 0, 1) := by decide +kernel
theorem dX8_cancel_36 : decode cX8_cancel 36 = .ok (.getfield 37, 3) := by decide +kernel
theorem dX8_cancel_39 : decode cX8_cancel 39 = .ok (.invokevirtual 69, 3) := by decide +kernel
theorem dX8_cancel_42 : decode cX8_cancel 42 = .ok (.astore_n 2, 1) := by decide +kernel
theorem dX8_cancel_43 : decode cX8_cancel 43 = .ok (.aload_n 2, 1) := by decide +kernel
theorem dX8_cancel_44 : decode cX8_cancel 44 = .ok (.iload_n 1, 1) := by decide +kernel
theorem dX8_cancel_45 : decode cX8_cancel 45 = .ok (.invokevirtual 240, 3) := by decide +kernel
theorem dX8_cancel_48 : decode cX8_cancel 48 = .ok (.aload_n 2, 1) := by decide +kernel
theorem dX8_cancel_49 : decode cX8_cancel 49 = .ok (.getfield 152, 3) := by decide +kernel
theorem dX8_cancel_52 : decode cX8_cancel 52 = .ok (.getfield 118, 3) := by decide +kernel
theorem dX8_cancel_55 : decode cX8_cancel 55 = .ok (.ireturn, 1) := by decide +kernel
theorem dX8_makeGood_0 : decode cX8_makeGood 0 = .ok (.aload_n 0, 1) := by decide +kernel
theorem dX8_makeGood_1 : decode cX8_makeGood 1 = .ok (.getfield 37, 3) := by decide +kernel
theorem dX8_makeGood_4 : decode cX8_makeGood 4 = .ok (.invokevirtual 69, 3) := by decide +kernel
theorem dX8_makeGood_7 : decode cX8_makeGood 7 = .ok (.invokevirtual 243, 3) := by decide +kernel
theorem dX8_makeGood_10 : decode cX8_makeGood 10 = .ok (.ireturn, 1) := by decide +kernel
theorem dX8_campaign_0 : decode cX8_campaign 0 = .ok (.aload_n 0, 1) := by decide +kernel
theorem dX8_campaign_1 : decode cX8_campaign 1 = .ok (.getfield 37, 3) := by decide +kernel
theorem dX8_campaign_4 : decode cX8_campaign 4 = .ok (.invokevirtual 80, 3) := by decide +kernel
theorem dX8_campaign_7 : decode cX8_campaign 7 = .ok (.iload_n 1, 1) := by decide +kernel
theorem dX8_campaign_8 : decode cX8_campaign 8 = .ok (.invokestatic 135, 3) := by decide +kernel
theorem dX8_campaign_11 : decode cX8_campaign 11 = .ok (.iload_n 2, 1) := by decide +kernel
theorem dX8_campaign_12 : decode cX8_campaign 12 = .ok (.iconst 5, 1) := by decide +kernel
theorem dX8_campaign_13 : decode cX8_campaign 13 = .ok (.bipush 60, 2) := by decide +kernel
theorem dX8_campaign_15 : decode cX8_campaign 15 = .ok (.invokestatic 90, 3) := by decide +kernel
theorem dX8_campaign_18 : decode cX8_campaign 18 = .ok (.iload_n 3, 1) := by decide +kernel
theorem dX8_campaign_19 : decode cX8_campaign 19 = .ok (.iconst 1, 1) := by decide +kernel
theorem dX8_campaign_20 : decode cX8_campaign 20 = .ok (.bipush 20, 2) := by decide +kernel
theorem dX8_campaign_22 : decode cX8_campaign 22 = .ok (.invokestatic 90, 3) := by decide +kernel
theorem dX8_campaign_25 : decode cX8_campaign 25 = .ok (.aload_n 0, 1) := by decide +kernel
theorem dX8_campaign_26 : decode cX8_campaign 26 = .ok (.getfield 37, 3) := by decide +kernel
theorem dX8_campaign_29 : decode cX8_campaign 29 = .ok (.invokevirtual 69, 3) := by decide +kernel
theorem dX8_campaign_32 : decode cX8_campaign 32 = .ok (.iload_n 1, 1) := by decide +kernel
theorem dX8_campaign_33 : decode cX8_campaign 33 = .ok (.iload_n 2, 1) := by decide +kernel
theorem dX8_campaign_34 : decode cX8_campaign 34 = .ok (.iload_n 3, 1) := by decide +kernel
theorem dX8_campaign_35 : decode cX8_campaign 35 = .ok (.invokevirtual 246, 3) := by decide +kernel
theorem dX8_campaign_38 : decode cX8_campaign 38 = .ok (.ireturn, 1) := by decide +kernel
theorem dX8_setCap_0 : decode cX8_setCap 0 = .ok (.aload_n 0, 1) := by decide +kernel
theorem dX8_setCap_1 : decode cX8_setCap 1 = .ok (.getfield 37, 3) := by decide +kernel
theorem dX8_setCap_4 : decode cX8_setCap 4 = .ok (.invokevirtual 80, 3) := by decide +kernel
theorem dX8_setCap_7 : decode cX8_setCap 7 = .ok (.iload_n 1, 1) := by decide +kernel
theorem dX8_setCap_8 : decode cX8_setCap 8 = .ok (.invokestatic 135, 3) := by decide +kernel
theorem dX8_setCap_11 : decode cX8_setCap 11 = .ok (.iload_n 2, 1) := by decide +kernel
theorem dX8_setCap_12 : decode cX8_setCap 12 = .ok (.iconst 1, 1) := by decide +kernel
theorem dX8_setCap_13 : decode cX8_setCap 13 = .ok (.bipush 9, 2) := by decide +kernel
theorem dX8_setCap_15 : decode cX8_setCap 15 = .ok (.invokestatic 90, 3) := by decide +kernel
theorem dX8_setCap_18 : decode cX8_setCap 18 = .ok (.aload_n 0, 1) := by decide +kernel
theorem dX8_setCap_19 : decode cX8_setCap 19 = .ok (.getfield 37, 3) := by decide +kernel
theorem dX8_setCap_22 : decode cX8_setCap 22 = .ok (.invokevirtual 69, 3) := by decide +kernel
theorem dX8_setCap_25 : decode cX8_setCap 25 = .ok (.astore_n 3, 1) := by decide +kernel
theorem dX8_setCap_26 : decode cX8_setCap 26 = .ok (.aload_n 3, 1) := by decide +kernel
theorem dX8_setCap_27 : decode cX8_setCap 27 = .ok (.getfield 142, 3) := by decide +kernel
theorem dX8_setCap_30 : decode cX8_setCap 30 = .ok (.iload_n 1, 1) := by decide +kernel
theorem dX8_setCap_31 : decode cX8_setCap 31 = .ok (.iaload, 1) := by decide +kernel
theorem dX8_setCap_32 : decode cX8_setCap 32 = .ok (.istore 4, 2) := by decide +kernel
theorem dX8_setCap_34 : decode cX8_setCap 34 = .ok (.aload_n 3, 1) := by decide +kernel
theorem dX8_setCap_35 : decode cX8_setCap 35 = .ok (.getfield 142, 3) := by decide +kernel
theorem dX8_setCap_38 : decode cX8_setCap 38 = .ok (.iload_n 1, 1) := by decide +kernel
theorem dX8_setCap_39 : decode cX8_setCap 39 = .ok (.iload_n 2, 1) := by decide +kernel
theorem dX8_setCap_40 : decode cX8_setCap 40 = .ok (.iastore, 1) := by decide +kernel
theorem dX8_setCap_41 : decode cX8_setCap 41 = .ok (.iload 4, 2) := by decide +kernel
theorem dX8_setCap_43 : decode cX8_setCap 43 = .ok (.ireturn, 1) := by decide +kernel
theorem dX8_undo_0 : decode cX8_undo 0 = .ok (.aload_n 0, 1) := by decide +kernel
theorem dX8_undo_1 : decode cX8_undo 1 = .ok (.getfield 37, 3) := by decide +kernel
theorem dX8_undo_4 : decode cX8_undo 4 = .ok (.invokevirtual 249, 3) := by decide +kernel
theorem dX8_undo_7 : decode cX8_undo 7 = .ok (.ireturn, 1) := by decide +kernel
theorem dX8_checksum_0 : decode cX8_checksum 0 = .ok (.aload_n 0, 1) := by decide +kernel
theorem dX8_checksum_1 : decode cX8_checksum 1 = .ok (.getfield 37, 3) := by decide +kernel
theorem dX8_checksum_4 : decode cX8_checksum 4 = .ok (.invokevirtual 80, 3) := by decide +kernel
theorem dX8_checksum_7 : decode cX8_checksum 7 = .ok (.astore_n 1, 1) := by decide +kernel
theorem dX8_checksum_8 : decode cX8_checksum 8 = .ok (.lconst 0, 1) := by decide +kernel
theorem dX8_checksum_9 : decode cX8_checksum 9 = .ok (.lstore_n 2, 1) := by decide +kernel
theorem dX8_checksum_10 : decode cX8_checksum 10 = .ok (.iconst 0, 1) := by decide +kernel
theorem dX8_checksum_11 : decode cX8_checksum 11 = .ok (.istore 4, 2) := by decide +kernel
theorem dX8_checksum_13 : decode cX8_checksum 13 = .ok (.iload 4, 2) := by decide +kernel
theorem dX8_checksum_15 : decode cX8_checksum 15 = .ok (.aload_n 1, 1) := by decide +kernel
theorem dX8_checksum_16 : decode cX8_checksum 16 = .ok (.getfield 77, 3) := by decide +kernel
theorem dX8_checksum_19 : decode cX8_checksum 19 = .ok (.if_icmp .ge 43, 3) := by decide +kernel
theorem dX8_checksum_22 : decode cX8_checksum 22 = .ok (.ldc2_w 252, 3) := by decide +kernel
theorem dX8_checksum_25 : decode cX8_checksum 25 = .ok (.lload_n 2, 1) := by decide +kernel
theorem dX8_checksum_26 : decode cX8_checksum 26 = .ok (.lmul, 1) := by decide +kernel
theorem dX8_checksum_27 : decode cX8_checksum 27 = .ok (.aload_n 1, 1) := by decide +kernel
theorem dX8_checksum_28 : decode cX8_checksum 28 = .ok (.getfield 94, 3) := by decide +kernel
theorem dX8_checksum_31 : decode cX8_checksum 31 = .ok (.iload 4, 2) := by decide +kernel
theorem dX8_checksum_33 : decode cX8_checksum 33 = .ok (.aaload, 1) := by decide +kernel
theorem dX8_checksum_34 : decode cX8_checksum 34 = .ok (.getfield 111, 3) := by decide +kernel
theorem dX8_checksum_37 : decode cX8_checksum 37 = .ok (.i2l, 1) := by decide +kernel
theorem dX8_checksum_38 : decode cX8_checksum 38 = .ok (.ladd, 1) := by decide +kernel
theorem dX8_checksum_39 : decode cX8_checksum 39 = .ok (.lstore_n 2, 1) := by decide +kernel
theorem dX8_checksum_40 : decode cX8_checksum 40 = .ok (.aload_n 1, 1) := by decide +kernel
theorem dX8_checksum_41 : decode cX8_checksum 41 = .ok (.getfield 94, 3) := by decide +kernel
theorem dX8_checksum_44 : decode cX8_checksum 44 = .ok (.iload 4, 2) := by decide +kernel
theorem dX8_checksum_46 : decode cX8_checksum 46 = .ok (.aaload, 1) := by decide +kernel
theorem dX8_checksum_47 : decode cX8_checksum 47 = .ok (.getfield 114, 3) := by decide +kernel
theorem dX8_checksum_50 : decode cX8_checksum 50 = .ok (.lload_n 2, 1) := by decide +kernel
theorem dX8_checksum_51 : decode cX8_checksum 51 = .ok (.iconst 3, 1) := by decide +kernel
theorem dX8_checksum_52 : decode cX8_checksum 52 = .ok (.invokevirtual 254, 3) := by decide +kernel
theorem dX8_checksum_55 : decode cX8_checksum 55 = .ok (.lstore_n 2, 1) := by decide +kernel
theorem dX8_checksum_56 : decode cX8_checksum 56 = .ok (.iinc 4 1, 3) := by decide +kernel
theorem dX8_checksum_59 : decode cX8_checksum 59 = .ok (.goto (-46), 3) := by decide +kernel
theorem dX8_checksum_62 : decode cX8_checksum 62 = .ok (.aload_n 1, 1) := by decide +kernel
theorem dX8_checksum_63 : decode cX8_checksum 63 = .ok (.getfield 152, 3) := by decide +kernel
theorem dX8_checksum_66 : decode cX8_checksum 66 = .ok (.lload_n 2, 1) := by decide +kernel
theorem dX8_checksum_67 : decode cX8_checksum 67 = .ok (.iconst 4, 1) := by decide +kernel
theorem dX8_checksum_68 : decode cX8_checksum 68 = .ok (.invokevirtual 254, 3) := by decide +kernel
theorem dX8_checksum_71 : decode cX8_checksum 71 = .ok (.lstore_n 2, 1) := by decide +kernel
theorem dX8_checksum_72 : decode cX8_checksum 72 = .ok (.iconst 0, 1) := by decide +kernel
theorem dX8_checksum_73 : decode cX8_checksum 73 = .ok (.istore 4, 2) := by decide +kernel
theorem dX8_checksum_75 : decode cX8_checksum 75 = .ok (.iload 4, 2) := by decide +kernel
theorem dX8_checksum_77 : decode cX8_checksum 77 = .ok (.aload_n 1, 1) := by decide +kernel
theorem dX8_checksum_78 : decode cX8_checksum 78 = .ok (.getfield 83, 3) := by decide +kernel
theorem dX8_checksum_81 : decode cX8_checksum 81 = .ok (.if_icmp .ge 24, 3) := by decide +kernel
theorem dX8_checksum_84 : decode cX8_checksum 84 = .ok (.ldc2_w 252, 3) := by decide +kernel
theorem dX8_checksum_87 : decode cX8_checksum 87 = .ok (.lload_n 2, 1) := by decide +kernel
theorem dX8_checksum_88 : decode cX8_checksum 88 = .ok (.lmul, 1) := by decide +kernel
theorem dX8_checksum_89 : decode cX8_checksum 89 = .ok (.aload_n 1, 1) := by decide +kernel
theorem dX8_checksum_90 : decode cX8_checksum 90 = .ok (.getfield 142, 3) := by decide +kernel
theorem dX8_checksum_93 : decode cX8_checksum 93 = .ok (.iload 4, 2) := by decide +kernel
theorem dX8_checksum_95 : decode cX8_checksum 95 = .ok (.iaload, 1) := by decide +kernel
theorem dX8_checksum_96 : decode cX8_checksum 96 = .ok (.i2l, 1) := by decide +kernel
theorem dX8_checksum_97 : decode cX8_checksum 97 = .ok (.ladd, 1) := by decide +kernel
theorem dX8_checksum_98 : decode cX8_checksum 98 = .ok (.lstore_n 2, 1) := by decide +kernel
theorem dX8_checksum_99 : decode cX8_checksum 99 = .ok (.iinc 4 1, 3) := by decide +kernel
theorem dX8_checksum_102 : decode cX8_checksum 102 = .ok (.goto (-27), 3) := by decide +kernel
theorem dX8_checksum_105 : decode cX8_checksum 105 = .ok (.ldc2_w 252, 3) := by decide +kernel
theorem dX8_checksum_108 : decode cX8_checksum 108 = .ok (.lload_n 2, 1) := by decide +kernel
theorem dX8_checksum_109 : decode cX8_checksum 109 = .ok (.lmul, 1) := by decide +kernel
theorem dX8_checksum_110 : decode cX8_checksum 110 = .ok (.aload_n 1, 1) := by decide +kernel
theorem dX8_checksum_111 : decode cX8_checksum 111 = .ok (.getfield 182, 3) := by decide +kernel
theorem dX8_checksum_114 : decode cX8_checksum 114 = .ok (.i2l, 1) := by decide +kernel
theorem dX8_checksum_115 : decode cX8_checksum 115 = .ok (.ladd, 1) := by decide +kernel
theorem dX8_checksum_116 : decode cX8_checksum 116 = .ok (.lreturn, 1) := by decide +kernel
theorem dX8_appendWord_0 : decode cX8_appendWord 0 = .ok (.aload_n 0, 1) := by decide +kernel
theorem dX8_appendWord_1 : decode cX8_appendWord 1 = .ok (.getfield 13, 3) := by decide +kernel
theorem dX8_appendWord_4 : decode cX8_appendWord 4 = .ok (.sipush 796, 3) := by decide +kernel
theorem dX8_appendWord_7 : decode cX8_appendWord 7 = .ok (.if_icmp .le 4, 3) := by decide +kernel
theorem dX8_appendWord_10 : decode cX8_appendWord 10 = .ok (.return_, 1) := by decide +kernel
theorem dX8_appendWord_11 : decode cX8_appendWord 11 = .ok (.bipush 24, 2) := by decide +kernel
theorem dX8_appendWord_13 : decode cX8_appendWord 13 = .ok (.istore_n 2, 1) := by decide +kernel
theorem dX8_appendWord_14 : decode cX8_appendWord 14 = .ok (.iload_n 2, 1) := by decide +kernel
theorem dX8_appendWord_15 : decode cX8_appendWord 15 = .ok (.ifCond .lt 32, 3) := by decide +kernel
theorem dX8_appendWord_18 : decode cX8_appendWord 18 = .ok (.aload_n 0, 1) := by decide +kernel
theorem dX8_appendWord_19 : decode cX8_appendWord 19 = .ok (.getfield 9, 3) := by decide +kernel
theorem dX8_appendWord_22 : decode cX8_appendWord 22 = .ok (.aload_n 0, 1) := by decide +kernel
theorem dX8_appendWord_23 : decode cX8_appendWord 23 = .ok (.getfield 13, 3) := by decide +kernel
theorem dX8_appendWord_26 : decode cX8_appendWord 26 = .ok (.iload_n 1, 1) := by decide +kernel
theorem dX8_appendWord_27 : decode cX8_appendWord 27 = .ok (.iload_n 2, 1) := by decide +kernel
theorem dX8_appendWord_28 : decode cX8_appendWord 28 = .ok (.ishr, 1) := by decide +kernel
theorem dX8_appendWord_29 : decode cX8_appendWord 29 = .ok (.i2b, 1) := by decide +kernel
theorem dX8_appendWord_30 : decode cX8_appendWord 30 = .ok (.bastore, 1) := by decide +kernel
theorem dX8_appendWord_31 : decode cX8_appendWord 31 = .ok (.aload_n 0, 1) := by decide +kernel
theorem dX8_appendWord_32 : decode cX8_appendWord 32 = .ok (.dup, 1) := by decide +kernel
theorem dX8_appendWord_33 : decode cX8_appendWord 33 = .ok (.getfield 13, 3) := by decide +kernel
theorem dX8_appendWord_36 : decode cX8_appendWord 36 = .ok (.iconst 1, 1) := by decide +kernel
theorem dX8_appendWord_37 : decode cX8_appendWord 37 = .ok (.iadd, 1) := by decide +kernel
theorem dX8_appendWord_38 : decode cX8_appendWord 38 = .ok (.putfield 13, 3) := by decide +kernel
theorem dX8_appendWord_41 : decode cX8_appendWord 41 = .ok (.iinc 2 (-8), 3) := by decide +kernel
theorem dX8_appendWord_44 : decode cX8_appendWord 44 = .ok (.goto (-30), 3) := by decide +kernel
theorem dX8_appendWord_47 : decode cX8_appendWord 47 = .ok (.return_, 1) := by decide +kernel
theorem dX8_checkBreak_0 : decode cX8_checkBreak 0 = .ok (.iload_n 1, 1) := by decide +kernel
theorem dX8_checkBreak_1 : decode cX8_checkBreak 1 = .ok (.ifCond .lt 11, 3) := by decide +kernel
theorem dX8_checkBreak_4 : decode cX8_checkBreak 4 = .ok (.iload_n 1, 1) := by decide +kernel
theorem dX8_checkBreak_5 : decode cX8_checkBreak 5 = .ok (.aload_n 0, 1) := by decide +kernel
theorem dX8_checkBreak_6 : decode cX8_checkBreak 6 = .ok (.getfield 77, 3) := by decide +kernel
theorem dX8_checkBreak_9 : decode cX8_checkBreak 9 = .ok (.if_icmp .lt 14, 3) := by decide +kernel
theorem dX8_checkBreak_12 : decode cX8_checkBreak 12 = .ok (.new 197, 3) := by decide +kernel
theorem dX8_checkBreak_15 : decode cX8_checkBreak 15 = .ok (.dup, 1) := by decide +kernel
theorem dX8_checkBreak_16 : decode cX8_checkBreak 16 = .ok (.ldc_w 258, 3) := by decide +kernel
theorem dX8_checkBreak_19 : decode cX8_checkBreak 19 = .ok (.invokespecial 201, 3) := by decide +kernel
theorem dX8_checkBreak_22 : decode cX8_checkBreak 22 = .ok (.athrow, 1) := by decide +kernel
theorem dX8_checkBreak_23 : decode cX8_checkBreak 23 = .ok (.return_, 1) := by decide +kernel
theorem dX8_checkSponsor_0 : decode cX8_checkSponsor 0 = .ok (.iload_n 1, 1) := by decide +kernel
theorem dX8_checkSponsor_1 : decode cX8_checkSponsor 1 = .ok (.ifCond .lt 11, 3) := by decide +kernel
theorem dX8_checkSponsor_4 : decode cX8_checkSponsor 4 = .ok (.iload_n 1, 1) := by decide +kernel
theorem dX8_checkSponsor_5 : decode cX8_checkSponsor 5 = .ok (.aload_n 0, 1) := by decide +kernel
theorem dX8_checkSponsor_6 : decode cX8_checkSponsor 6 = .ok (.getfield 83, 3) := by decide +kernel
theorem dX8_checkSponsor_9 : decode cX8_checkSponsor 9 = .ok (.if_icmp .lt 14, 3) := by decide +kernel
theorem dX8_checkSponsor_12 : decode cX8_checkSponsor 12 = .ok (.new 197, 3) := by decide +kernel
theorem dX8_checkSponsor_15 : decode cX8_checkSponsor 15 = .ok (.dup, 1) := by decide +kernel
theorem dX8_checkSponsor_16 : decode cX8_checkSponsor 16 = .ok (.ldc_w 260, 3) := by decide +kernel
theorem dX8_checkSponsor_19 : decode cX8_checkSponsor 19 = .ok (.invokespecial 201, 3) := by decide +kernel
theorem dX8_checkSponsor_22 : decode cX8_checkSponsor 22 = .ok (.athrow, 1) := by decide +kernel
theorem dX8_checkSponsor_23 : decode cX8_checkSponsor 23 = .ok (.return_, 1) := by decide +kernel
theorem dX8_checkPlace_0 : decode cX8_checkPlace 0 = .ok (.iload_n 1, 1) := by decide +kernel
theorem dX8_checkPlace_1 : decode cX8_checkPlace 1 = .ok (.ifCond .lt 11, 3) := by decide +kernel
theorem dX8_checkPlace_4 : decode cX8_checkPlace 4 = .ok (.iload_n 1, 1) := by decide +kernel
theorem dX8_checkPlace_5 : decode cX8_checkPlace 5 = .ok (.aload_n 0, 1) := by decide +kernel
theorem dX8_checkPlace_6 : decode cX8_checkPlace 6 = .ok (.getfield 118, 3) := by decide +kernel
theorem dX8_checkPlace_9 : decode cX8_checkPlace 9 = .ok (.if_icmp .lt 14, 3) := by decide +kernel
theorem dX8_checkPlace_12 : decode cX8_checkPlace 12 = .ok (.new 262, 3) := by decide +kernel
theorem dX8_checkPlace_15 : decode cX8_checkPlace 15 = .ok (.dup, 1) := by decide +kernel
theorem dX8_checkPlace_16 : decode cX8_checkPlace 16 = .ok (.ldc_w 264, 3) := by decide +kernel
theorem dX8_checkPlace_19 : decode cX8_checkPlace 19 = .ok (.invokespecial 266, 3) := by decide +kernel
theorem dX8_checkPlace_22 : decode cX8_checkPlace 22 = .ok (.athrow, 1) := by decide +kernel
theorem dX8_checkPlace_23 : decode cX8_checkPlace 23 = .ok (.return_, 1) := by decide +kernel
theorem dX8_checkRange_0 : decode cX8_checkRange 0 = .ok (.iload_n 0, 1) := by decide +kernel
theorem dX8_checkRange_1 : decode cX8_checkRange 1 = .ok (.iload_n 1, 1) := by decide +kernel
theorem dX8_checkRange_2 : decode cX8_checkRange 2 = .ok (.if_icmp .lt 8, 3) := by decide +kernel
theorem dX8_checkRange_5 : decode cX8_checkRange 5 = .ok (.iload_n 0, 1) := by decide +kernel
theorem dX8_checkRange_6 : decode cX8_checkRange 6 = .ok (.iload_n 2, 1) := by decide +kernel
theorem dX8_checkRange_7 : decode cX8_checkRange 7 = .ok (.if_icmp .le 14, 3) := by decide +kernel
theorem dX8_checkRange_10 : decode cX8_checkRange 10 = .ok (.new 52, 3) := by decide +kernel
theorem dX8_checkRange_13 : decode cX8_checkRange 13 = .ok (.dup, 1) := by decide +kernel
theorem dX8_checkRange_14 : decode cX8_checkRange 14 = .ok (.ldc_w 267, 3) := by decide +kernel
theorem dX8_checkRange_17 : decode cX8_checkRange 17 = .ok (.invokespecial 56, 3) := by decide +kernel
theorem dX8_checkRange_20 : decode cX8_checkRange 20 = .ok (.athrow, 1) := by decide +kernel
theorem dX8_checkRange_21 : decode cX8_checkRange 21 = .ok (.return_, 1) := by decide +kernel
theorem dX8_checkSet_0 : decode cX8_checkSet 0 = .ok (.iload_n 1, 1) := by decide +kernel
theorem dX8_checkSet_1 : decode cX8_checkSet 1 = .ok (.iconst 0, 1) := by decide +kernel
theorem dX8_checkSet_2 : decode cX8_checkSet 2 = .ok (.iconst 1, 1) := by decide +kernel
theorem dX8_checkSet_3 : decode cX8_checkSet 3 = .ok (.aload_n 0, 1) := by decide +kernel
theorem dX8_checkSet_4 : decode cX8_checkSet 4 = .ok (.getfield 83, 3) := by decide +kernel
theorem dX8_checkSet_7 : decode cX8_checkSet 7 = .ok (.ishl, 1) := by decide +kernel
theorem dX8_checkSet_8 : decode cX8_checkSet 8 = .ok (.iconst 1, 1) := by decide +kernel
theorem dX8_checkSet_9 : decode cX8_checkSet 9 = .ok (.isub, 1) := by decide +kernel
theorem dX8_checkSet_10 : decode cX8_checkSet 10 = .ok (.invokestatic 90, 3) := by decide +kernel
theorem dX8_checkSet_13 : decode cX8_checkSet 13 = .ok (.return_, 1) := by decide +kernel
theorem dX8_checkSpotIn_0 : decode cX8_checkSpotIn 0 = .ok (.aload_n 0, 1) := by decide +kernel
theorem dX8_checkSpotIn_1 : decode cX8_checkSpotIn 1 = .ok (.iload_n 1, 1) := by decide +kernel
theorem dX8_checkSpotIn_2 : decode cX8_checkSpotIn 2 = .ok (.invokestatic 135, 3) := by decide +kernel
theorem dX8_checkSpotIn_5 : decode cX8_checkSpotIn 5 = .ok (.aload_n 0, 1) := by decide +kernel
theorem dX8_checkSpotIn_6 : decode cX8_checkSpotIn 6 = .ok (.iload_n 3, 1) := by decide +kernel
theorem dX8_checkSpotIn_7 : decode cX8_checkSpotIn 7 = .ok (.invokestatic 86, 3) := by decide +kernel
theorem dX8_checkSpotIn_10 : decode cX8_checkSpotIn 10 = .ok (.iload_n 2, 1) := by decide +kernel
theorem dX8_checkSpotIn_11 : decode cX8_checkSpotIn 11 = .ok (.iconst 5, 1) := by decide +kernel
theorem dX8_checkSpotIn_12 : decode cX8_checkSpotIn 12 = .ok (.bipush 60, 2) := by decide +kernel
theorem dX8_checkSpotIn_14 : decode cX8_checkSpotIn 14 = .ok (.invokestatic 90, 3) := by decide +kernel
theorem dX8_checkSpotIn_17 : decode cX8_checkSpotIn 17 = .ok (.return_, 1) := by decide +kernel
theorem dX9_init_0 : decode cX9_init 0 = .ok (.aload_n 0, 1) := by decide +kernel
theorem dX9_init_1 : decode cX9_init 1 = .ok (.invokespecial 3, 3) := by decide +kernel
theorem dX9_init_4 : decode cX9_init 4 = .ok (.aload_n 0, 1) := by decide +kernel
theorem dX9_init_5 : decode cX9_init 5 = .ok (.sipush 800, 3) := by decide +kernel
theorem dX9_init_8 : decode cX9_init 8 = .ok (.newarray .int, 2) := by decide +kernel
theorem dX9_init_10 : decode cX9_init 10 = .ok (.putfield 9, 3) := by decide +kernel
theorem dX9_init_13 : decode cX9_init 13 = .ok (.aload_n 0, 1) := by decide +kernel
theorem dX9_init_14 : decode cX9_init 14 = .ok (.iconst (-1), 1) := by decide +kernel
theorem dX9_init_15 : decode cX9_init 15 = .ok (.putfield 13, 3) := by decide +kernel
theorem dX9_init_18 : decode cX9_init 18 = .ok (.aload_n 0, 1) := by decide +kernel
theorem dX9_init_19 : decode cX9_init 19 = .ok (.sipush 2663, 3) := by decide +kernel
theorem dX9_init_22 : decode cX9_init 22 = .ok (.newarray .int, 2) := by decide +kernel
theorem dX9_init_24 : decode cX9_init 24 = .ok (.putfield 17, 3) := by decide +kernel
theorem dX9_init_27 : decode cX9_init 27 = .ok (.aload_n 0, 1) := by decide +kernel
theorem dX9_init_28 : decode cX9_init 28 = .ok (.sipush 2663, 3) := by decide +kernel
theorem dX9_init_31 : decode cX9_init 31 = .ok (.newarray .int, 2) := by decide +kernel
theorem dX9_init_33 : decode cX9_init 33 = .ok (.putfield 20, 3) := by decide +kernel
theorem dX9_init_36 : decode cX9_init 36 = .ok (.aload_n 0, 1) := by decide +kernel
theorem dX9_init_37 : decode cX9_init 37 = .ok (.bipush 8, 2) := by decide +kernel
theorem dX9_init_39 : decode cX9_init 39 = .ok (.sipush 2663, 3) := by decide +kernel
theorem dX9_init_42 : decode cX9_init 42 = .ok (.multianewarray 23 2, 4) := by decide +kernel
theorem dX9_init_46 : decode cX9_init 46 = .ok (.putfield 25, 3) := by decide +kernel
theorem dX9_init_49 : decode cX9_init 49 = .ok (.aload_n 0, 1) := by decide +kernel
theorem dX9_init_50 : decode cX9_init 50 = .ok (.sipush 1300, 3) := by decide +kernel
theorem dX9_init_53 : decode cX9_init 53 = .ok (.newarray .long, 2) := by decide +kernel
theorem dX9_init_55 : decode cX9_init 55 = .ok (.putfield 28, 3) := by decide +kernel
theorem dX9_init_58 : decode cX9_init 58 = .ok (.aload_n 0, 1) := by decide +kernel
theorem dX9_init_59 : decode cX9_init 59 = .ok (.sipush 256, 3) := by decide +kernel
theorem dX9_init_62 : decode cX9_init 62 = .ok (.bipush 8, 2) := by decide +kernel
theorem dX9_init_64 : decode cX9_init 64 = .ok (.multianewarray 23 2, 4) := by decide +kernel
theorem dX9_init_68 : decode cX9_init 68 = .ok (.putfield 32, 3) := by decide +kernel
theorem dX9_init_71 : decode cX9_init 71 = .ok (.aload_n 0, 1) := by decide +kernel
theorem dX9_init_72 : decode cX9_init 72 = .ok (.bipush 8, 2) := by decide +kernel
theorem dX9_init_74 : decode cX9_init 74 = .ok (.newarray .int, 2) := by decide +kernel
theorem dX9_init_76 : decode cX9_init 76 = .ok (.putfield 35, 3) := by decide +kernel
theorem dX9_init_79 : decode cX9_init 79 = .ok (.aload_n 0, 1) := by decide +kernel
theorem dX9_init_80 : decode cX9_init 80 = .ok (.bipush 24, 2) := by decide +kernel
theorem dX9_init_82 : decode cX9_init 82 = .ok (.newarray .int, 2) := by decide +kernel
theorem dX9_init_84 : decode cX9_init 84 = .ok (.putfield 38, 3) := by decide +kernel
theorem dX9_init_87 : decode cX9_init 87 = .ok (.return_, 1) := by decide +kernel
theorem dX9_thrown_0 : decode cX9_thrown 0 = .ok (.aload_n 0, 1) := by decide +kernel
theorem dX9_thrown_1 : decode cX9_thrown 1 = .ok (.getfield 41, 3) := by decide +kernel
theorem dX9_thrown_4 : decode cX9_thrown 4 = .ok (.ireturn, 1) := by decide +kernel
theorem dX9_fails_0 : decode cX9_fails 0 = .ok (.iload_n 1, 1) := by decide +kernel
theorem dX9_fails_1 : decode cX9_fails 1 = .ok (.ifCond .eq 15, 3) := by decide +kernel
theorem dX9_fails_4 : decode cX9_fails 4 = .ok (.aload_n 0, 1) := by decide +kernel
theorem dX9_fails_5 : decode cX9_fails 5 = .ok (.getfield 41, 3) := by decide +kernel
theorem dX9_fails_8 : decode cX9_fails 8 = .ok (.ifCond .ne 8, 3) := by decide +kernel
theorem dX9_fails_11 : decode cX9_fails 11 = .ok (.aload_n 0, 1) := by decide +kernel
theorem dX9_fails_12 : decode cX9_fails 12 = .ok (.iload_n 2, 1) := by decide +kernel
theorem dX9_fails_13 : decode cX9_fails 13 = .ok (.putfield 41, 3) := by decide +kernel
theorem dX9_fails_16 : decode cX9_fails 16 = .ok (.aload_n 0, 1) := by decide +kernel
theorem dX9_fails_17 : decode cX9_fails 17 = .ok (.getfield 41, 3) := by decide +kernel
theorem dX9_fails_20 : decode cX9_fails 20 = .ok (.ifCond .eq 7, 3) := by decide +kernel
theorem dX9_fails_23 : decode cX9_fails 23 = .ok (.iconst 1, 1) := by decide +kernel
theorem dX9_fails_24 : decode cX9_fails 24 = .ok (.goto 4, 3) := by decide +kernel
theorem dX9_fails_27 : decode cX9_fails 27 = .ok (.iconst 0, 1) := by decide +kernel
theorem dX9_fails_28 : decode cX9_fails 28 = .ok (.ireturn, 1) := by decide +kernel
theorem dX9_in_0 : decode cX9_in 0 = .ok (.iload_n 0, 1) := by decide +kernel
theorem dX9_in_1 : decode cX9_in 1 = .ok (.iload_n 1, 1) := by decide +kernel
theorem dX9_in_2 : decode cX9_in 2 = .ok (.if_icmp .lt 12, 3) := by decide +kernel
theorem dX9_in_5 : decode cX9_in 5 = .ok (.iload_n 0, 1) := by decide +kernel
theorem dX9_in_6 : decode cX9_in 6 = .ok (.iload_n 2, 1) := by decide +kernel
theorem dX9_in_7 : decode cX9_in 7 = .ok (.if_icmp .gt 7, 3) := by decide +kernel
theorem dX9_in_10 : decode cX9_in 10 = .ok (.iconst 1, 1) := by decide +kernel
theorem dX9_in_11 : decode cX9_in 11 = .ok (.goto 4, 3) := by decide +kernel
theorem dX9_in_14 : decode cX9_in 14 = .ok (.iconst 0, 1) := by decide +kernel
theorem dX9_in_15 : decode cX9_in 15 = .ok (.ireturn, 1) := by decide +kernel
theorem dX9_min_0 : decode cX9_min 0 = .ok (.iload_n 0, 1) := by decide +kernel
theorem dX9_min_1 : decode cX9_min 1 = .ok (.iload_n 1, 1) := by decide +kernel
theorem dX9_min_2 : decode cX9_min 2 = .ok (.if_icmp .ge 7, 3) := by decide +kernel
theorem dX9_min_5 : decode cX9_min 5 = .ok (.iload_n 0, 1) := by decide +kernel
theorem dX9_min_6 : decode cX9_min 6 = .ok (.goto 4, 3) := by decide +kernel
theorem dX9_min_9 : decode cX9_min 9 = .ok (.iload_n 1, 1) := by decide +kernel
theorem dX9_min_10 : decode cX9_min 10 = .ok (.ireturn, 1) := by decide +kernel
theorem dX9_copy_0 : decode cX9_copy 0 = .ok (.iconst 0, 1) := by decide +kernel
theorem dX9_copy_1 : decode cX9_copy 1 = .ok (.istore_n 2, 1) := by decide +kernel
theorem dX9_copy_2 : decode cX9_copy 2 = .ok (.iload_n 2, 1) := by decide +kernel
theorem dX9_copy_3 : decode cX9_copy 3 = .ok (.sipush 2663, 3) := by decide +kernel
theorem dX9_copy_6 : decode cX9_copy 6 = .ok (.if_icmp .ge 15, 3) := by decide +kernel
theorem dX9_copy_9 : decode cX9_copy 9 = .ok (.aload_n 1, 1) := by decide +kernel
theorem dX9_copy_10 : decode cX9_copy 10 = .ok (.iload_n 2, 1) := by decide +kernel
theorem dX9_copy_11 : decode cX9_copy 11 = .ok (.aload_n 0, 1) := by decide +kernel
theorem dX9_copy_12 : decode cX9_copy 12 = .ok (.iload_n 2, 1) := by decide +kernel
theorem dX9_copy_13 : decode cX9_copy 13 = .ok (.iaload, 1) := by decide +kernel
theorem dX9_copy_14 : decode cX9_copy 14 = .ok (.iastore, 1) := by decide +kernel
theorem dX9_copy_15 : decode cX9_copy 15 = .ok (.iinc 2 1, 3) := by decide +kernel
theorem dX9_copy_18 : decode cX9_copy 18 = .ok (.goto (-16), 3) := by decide +kernel
theorem dX9_copy_21 : decode cX9_copy 21 = .ok (.return_, 1) := by decide +kernel
theorem dX9_at_0 : decode cX9_at 0 = .ok (.bipush 7, 2) := by decide +kernel
theorem dX9_at_2 : decode cX9_at 2 = .ok (.bipush 30, 2) := by decide +kernel
theorem dX9_at_4 : decode cX9_at 4 = .ok (.iload_n 0, 1) := by decide +kernel
theorem dX9_at_5 : decode cX9_at 5 = .ok (.imul, 1) := by decide +kernel
theorem dX9_at_6 : decode cX9_at 6 = .ok (.iadd, 1) := by decide +kernel
theorem dX9_at_7 : decode cX9_at 7 = .ok (.ireturn, 1) := by decide +kernel
theorem dX9_when_0 : decode cX9_when 0 = .ok (.bipush 24, 2) := by decide +kernel
theorem dX9_when_2 : decode cX9_when 2 = .ok (.aload_n 0, 1) := by decide +kernel
theorem dX9_when_3 : decode cX9_when 3 = .ok (.iload_n 1, 1) := by decide +kernel
theorem dX9_when_4 : decode cX9_when 4 = .ok (.invokestatic 44, 3) := by decide +kernel
theorem dX9_when_7 : decode cX9_when 7 = .ok (.iaload, 1) := by decide +kernel
theorem dX9_when_8 : decode cX9_when 8 = .ok (.imul, 1) := by decide +kernel
theorem dX9_when_9 : decode cX9_when 9 = .ok (.aload_n 0, 1) := by decide +kernel
theorem dX9_when_10 : decode cX9_when 10 = .ok (.iload_n 1, 1) := by decide +kernel
theorem dX9_when_11 : decode cX9_when 11 = .ok (.invokestatic 44, 3) := by decide +kernel
theorem dX9_when_14 : decode cX9_when 14 = .ok (.iconst 1, 1) := by decide +kernel
theorem dX9_when_15 : decode cX9_when 15 = .ok (.iadd, 1) := by decide +kernel
theorem dX9_when_16 : decode cX9_when 16 = .ok (.iaload, 1) := by decide +kernel
theorem dX9_when_17 : decode cX9_when 17 = .ok (.iadd, 1) := by decide +kernel
theorem dX9_when_18 : decode cX9_when 18 = .ok (.ireturn, 1) := by decide +kernel
theorem dX9_append_0 : decode cX9_append 0 = .ok (.aload_n 0, 1) := by decide +kernel
theorem dX9_append_1 : decode cX9_append 1 = .ok (.iconst 0, 1) := by decide +kernel
theorem dX9_append_2 : decode cX9_append 2 = .ok (.putfield 41, 3) := by decide +kernel
theorem dX9_append_5 : decode cX9_append 5 = .ok (.aload_n 0, 1) := by decide +kernel
theorem dX9_append_6 : decode cX9_append 6 = .ok (.getfield 48, 3) := by decide +kernel
theorem dX9_append_9 : decode cX9_append 9 = .ok (.bipush 20, 2) := by decide +kernel
theorem dX9_append_11 : decode cX9_append 11 = .ok (.iadd, 1) := by decide +kernel
theorem dX9_append_12 : decode cX9_append 12 = .ok (.sipush 800, 3) := by decide +kernel
theorem dX9_append_15 : decode cX9_append 15 = .ok (.if_icmp .le 5, 3) := by decide +kernel
theorem dX9_append_18 : decode cX9_append 18 = .ok (.iconst (-1), 1) := by decide +kernel
theorem dX9_append_19 : decode cX9_append 19 = .ok (.ireturn, 1) := by decide +kernel
theorem dX9_append_20 : decode cX9_append 20 = .ok (.iconst 0, 1) := by decide +kernel
theorem dX9_append_21 : decode cX9_append 21 = .ok (.istore 6, 2) := by decide +kernel
theorem dX9_append_23 : decode cX9_append 23 = .ok (.iload 6, 2) := by decide +kernel
theorem dX9_append_25 : decode cX9_append 25 = .ok (.bipush 20, 2) := by decide +kernel
theorem dX9_append_27 : decode cX9_append 27 = .ok (.if_icmp .ge 93, 3) := by decide +kernel
theorem dX9_append_30 : decode cX9_append 30 = .ok (.iload 6, 2) := by decide +kernel
theorem dX9_append_32 : decode cX9_append 32 = .ok (.iconst 4, 1) := by decide +kernel
theorem dX9_append_33 : decode cX9_append 33 = .ok (.if_icmp .ge 7, 3) := by decide +kernel
theorem dX9_append_36 : decode cX9_append 36 = .ok (.iload_n 1, 1) := by decide +kernel
theorem dX9_append_37 : decode cX9_append 37 = .ok (.goto 39, 3) := by decide +kernel
theorem dX9_append_40 : decode cX9_append 40 = .ok (.iload 6, 2) := by decide +kernel
theorem dX9_append_42 : decode cX9_append 42 = .ok (.bipush 8, 2) := by decide +kernel
theorem dX9_append_44 : decode cX9_append 44 = .ok (.if_icmp .ge 7, 3) := by decide +kernel
theorem dX9_append_47 : decode cX9_append 47 = .ok (.iload_n 2, 1) := by decide +kernel
theorem dX9_append_48 : decode cX9_append 48 = .ok (.goto 28, 3) := by decide +kernel
theorem dX9_append_51 : decode cX9_append 51 = .ok (.iload 6, 2) := by decide +kernel
theorem dX9_append_53 : decode cX9_append 53 = .ok (.bipush 12, 2) := by decide +kernel
theorem dX9_append_55 : decode cX9_append 55 = .ok (.if_icmp .ge 7, 3) := by decide +kernel
theorem dX9_append_58 : decode cX9_append 58 = .ok (.iload_n 3, 1) := by decide +kernel
theorem dX9_append_59 : decode cX9_append 59 = .ok (.goto 17, 3) := by decide +kernel
theorem dX9_append_62 : decode cX9_append 62 = .ok (.iload 6, 2) := by decide +kernel
theorem dX9_append_64 : decode cX9_append 64 = .ok (.bipush 16, 2) := by decide +kernel
theorem dX9_append_66 : decode cX9_append 66 = .ok (.if_icmp .ge 8, 3) := by decide +kernel
theorem dX9_append_69 : decode cX9_append 69 = .ok (.iload 4, 2) := by decide +kernel
theorem dX9_append_71 : decode cX9_append 71 = .ok (.goto 5, 3) := by decide +kernel
theorem dX9_append_74 : decode cX9_append 74 = .ok (.iload 5, 2) := by decide +kernel
theorem dX9_append_76 : decode cX9_append 76 = .ok (.istore 7, 2) := by decide +kernel
theorem dX9_append_78 : decode cX9_append 78 = .ok (.aload_n 0, 1) := by decide +kernel
theorem dX9_append_79 : decode cX9_append 79 = .ok (.getfield 9, 3) := by decide +kernel
theorem dX9_append_82 : decode cX9_append 82 = .ok (.aload_n 0, 1) := by decide +kernel
theorem dX9_append_83 : decode cX9_append 83 = .ok (.getfield 48, 3) := by decide +kernel
theorem dX9_append_86 : decode cX9_append 86 = .ok (.iload 7, 2) := by decide +kernel
theorem dX9_append_88 : decode cX9_append 88 = .ok (.bipush 24, 2) := by decide +kernel
theorem dX9_append_90 : decode cX9_append 90 = .ok (.bipush 8, 2) := by decide +kernel
theorem dX9_append_92 : decode cX9_append 92 = .ok (.iload 6, 2) := by decide +kernel
theorem dX9_append_94 : decode cX9_append 94 = .ok (.iconst 4, 1) := by decide +kernel
theorem dX9_append_95 : decode cX9_append 95 = .ok (.irem, 1) := by decide +kernel
theorem dX9_append_96 : decode cX9_append 96 = .ok (.imul, 1) := by decide +kernel
theorem dX9_append_97 : decode cX9_append 97 = .ok (.isub, 1) := by decide +kernel
theorem dX9_append_98 : decode cX9_append 98 = .ok (.ishr, 1) := by decide +kernel
theorem dX9_append_99 : decode cX9_append 99 = .ok (.sipush 255, 3) := by decide +kernel
theorem dX9_append_102 : decode cX9_append 102 = .ok (.iand, 1) := by decide +kernel
theorem dX9_append_103 : decode cX9_append 103 = .ok (.iastore, 1) := by decide +kernel
theorem dX9_append_104 : decode cX9_append 104 = .ok (.aload_n 0, 1) := by decide +kernel
theorem dX9_append_105 : decode cX9_append 105 = .ok (.dup, 1) := by decide +kernel
theorem dX9_append_106 : decode cX9_append 106 = .ok (.getfield 48, 3) := by decide +kernel
theorem dX9_append_109 : decode cX9_append 109 = .ok (.iconst 1, 1) := by decide +kernel
theorem dX9_append_110 : decode cX9_append 110 = .ok (.iadd, 1) := by decide +kernel
theorem dX9_append_111 : decode cX9_append 111 = .ok (.putfield 48, 3) := by decide +kernel
theorem dX9_append_114 : decode cX9_append 114 = .ok (.iinc 6 1, 3) := by decide +kernel
theorem dX9_append_117 : decode cX9_append 117 = .ok (.goto (-94), 3) := by decide +kernel
theorem dX9_append_120 : decode cX9_append 120 = .ok (.aload_n 0, 1) := by decide +kernel
theorem dX9_append_121 : decode cX9_append 121 = .ok (.getfield 48, 3) := by decide +kernel
theorem dX9_append_124 : decode cX9_append 124 = .ok (.ireturn, 1) := by decide +kernel
theorem dX9_byteAt_0 : decode cX9_byteAt 0 = .ok (.iload_n 1, 1) := by decide +kernel
theorem dX9_byteAt_1 : decode cX9_byteAt 1 = .ok (.aload_n 0, 1) := by decide +kernel
theorem dX9_byteAt_2 : decode cX9_byteAt 2 = .ok (.getfield 51, 3) := by decide +kernel
theorem dX9_byteAt_5 : decode cX9_byteAt 5 = .ok (.if_icmp .ge 12, 3) := by decide +kernel
theorem dX9_byteAt_8 : decode cX9_byteAt 8 = .ok (.aload_n 0, 1) := by decide +kernel
theorem dX9_byteAt_9 : decode cX9_byteAt 9 = .ok (.getfield 9, 3) := by decide +kernel
theorem dX9_byteAt_12 : decode cX9_byteAt 12 = .ok (.iload_n 1, 1) := by decide +kernel
theorem dX9_byteAt_13 : decode cX9_byteAt 13 = .ok (.iaload, 1) := by decide +kernel
theorem dX9_byteAt_14 : decode cX9_byteAt 14 = .ok (.goto 4, 3) := by decide +kernel
theorem dX9_byteAt_17 : decode cX9_byteAt 17 = .ok (.iconst (-1), 1) := by decide +kernel
theorem dX9_byteAt_18 : decode cX9_byteAt 18 = .ok (.ireturn, 1) := by decide +kernel
theorem dX9_next_0 : decode cX9_next 0 = .ok (.aload_n 0, 1) := by decide +kernel
theorem dX9_next_1 : decode cX9_next 1 = .ok (.aload_n 0, 1) := by decide +kernel
theorem dX9_next_2 : decode cX9_next 2 = .ok (.getfield 54, 3) := by decide +kernel
theorem dX9_next_5 : decode cX9_next 5 = .ok (.invokevirtual 57, 3) := by decide +kernel
theorem dX9_next_8 : decode cX9_next 8 = .ok (.bipush 32, 2) := by decide +kernel
theorem dX9_next_10 : decode cX9_next 10 = .ok (.if_icmp .ne 16, 3) := by decide +kernel
theorem dX9_next_13 : decode cX9_next 13 = .ok (.aload_n 0, 1) := by decide +kernel
theorem dX9_next_14 : decode cX9_next 14 = .ok (.dup, 1) := by decide +kernel
theorem dX9_next_15 : decode cX9_next 15 = .ok (.getfield 54, 3) := by decide +kernel
theorem dX9_next_18 : decode cX9_next 18 = .ok (.iconst 1, 1) := by decide +kernel
theorem dX9_next_19 : decode cX9_next 19 = .ok (.iadd, 1) := by decide +kernel
theorem dX9_next_20 : decode cX9_next 20 = .ok (.putfield 54, 3) := by decide +kernel
theorem dX9_next_23 : decode cX9_next 23 = .ok (.goto (-23), 3) := by decide +kernel
theorem dX9_next_26 : decode cX9_next 26 = .ok (.aload_n 0, 1) := by decide +kernel
theorem dX9_next_27 : decode cX9_next 27 = .ok (.aload_n 0, 1) := by decide +kernel
theorem dX9_next_28 : decode cX9_next 28 = .ok (.getfield 54, 3) := by decide +kernel
theorem dX9_next_31 : decode cX9_next 31 = .ok (.invokevirtual 57, 3) := by decide +kernel
theorem dX9_next_34 : decode cX9_next 34 = .ok (.ireturn, 1) := by decide +kernel
theorem dX9_isGood_0 : decode cX9_isGood 0 = .ok (.aload_n 0, 1) := by decide +kernel
theorem dX9_isGood_1 : decode cX9_isGood 1 = .ok (.getfield 60, 3) := by decide +kernel
theorem dX9_isGood_4 : decode cX9_isGood 4 = .ok (.ifCond .ne 7, 3) := by decide +kernel
theorem dX9_isGood_7 : decode cX9_isGood 7 = .ok (.iconst 1, 1) := by decide +kernel
theorem dX9_isGood_8 : decode cX9_isGood 8 = .ok (.goto 4, 3) := by decide +kernel
theorem dX9_isGood_11 : decode cX9_isGood 11 = .ok (.iconst 0, 1) := by decide +kernel
theorem dX9_isGood_12 : decode cX9_isGood 12 = .ok (.ireturn, 1) := by decide +kernel
theorem dX9_report_0 : decode cX9_report 0 = .ok (.aload_n 0, 1) := by decide +kernel
theorem dX9_report_1 : decode cX9_report 1 = .ok (.getfield 60, 3) := by decide +kernel
theorem dX9_report_4 : decode cX9_report 4 = .ok (.ifCond .eq 4, 3) := by decide +kernel
theorem dX9_report_7 : decode cX9_report 7 = .ok (.return_, 1) := by decide +kernel
theorem dX9_report_8 : decode cX9_report 8 = .ok (.aload_n 0, 1) := by decide +kernel
theorem dX9_report_9 : decode cX9_report 9 = .ok (.iload_n 1, 1) := by decide +kernel
theorem dX9_report_10 : decode cX9_report 10 = .ok (.putfield 60, 3) := by decide +kernel
theorem dX9_report_13 : decode cX9_report 13 = .ok (.aload_n 0, 1) := by decide +kernel
theorem dX9_report_14 : decode cX9_report 14 = .ok (.iload_n 2, 1) := by decide +kernel
theorem dX9_report_15 : decode cX9_report 15 = .ok (.putfield 63, 3) := by decide +kernel
theorem dX9_report_18 : decode cX9_report 18 = .ok (.return_, 1) := by decide +kernel
theorem dX9_isDigit_0 : decode cX9_isDigit 0 = .ok (.iload_n 0, 1) := by decide +kernel
theorem dX9_isDigit_1 : decode cX9_isDigit 1 = .ok (.bipush 48, 2) := by decide +kernel
theorem dX9_isDigit_3 : decode cX9_isDigit 3 = .ok (.bipush 57, 2) := by decide +kernel
theorem dX9_isDigit_5 : decode cX9_isDigit 5 = .ok (.invokestatic 66, 3) := by decide +kernel
theorem dX9_isDigit_8 : decode cX9_isDigit 8 = .ok (.ireturn, 1) := by decide +kernel
theorem dX9_takeWord_0 : decode cX9_takeWord 0 = .ok (.aload_n 0, 1) := by decide +kernel
theorem dX9_takeWord_1 : decode cX9_takeWord 1 = .ok (.invokevirtual 70, 3) := by decide +kernel
theorem dX9_takeWord_4 : decode cX9_takeWord 4 = .ok (.ifCond .ne 5, 3) := by decide +kernel
theorem dX9_takeWord_7 : decode cX9_takeWord 7 = .ok (.iconst 0, 1) := by decide +kernel
theorem dX9_takeWord_8 : decode cX9_takeWord 8 = .ok (.ireturn, 1) := by decide +kernel
theorem dX9_takeWord_9 : decode cX9_takeWord 9 = .ok (.aload_n 0, 1) := by decide +kernel
theorem dX9_takeWord_10 : decode cX9_takeWord 10 = .ok (.invokevirtual 74, 3) := by decide +kernel
theorem dX9_takeWord_13 : decode cX9_takeWord 13 = .ok (.pop, 1) := by decide +kernel
theorem dX9_takeWord_14 : decode cX9_takeWord 14 = .ok (.iconst 0, 1) := by decide +kernel
theorem dX9_takeWord_15 : decode cX9_takeWord 15 = .ok (.istore_n 2, 1) := by decide +kernel
theorem dX9_takeWord_16 : decode cX9_takeWord 16 = .ok (.iload_n 2, 1) := by decide +kernel
theorem dX9_takeWord_17 : decode cX9_takeWord 17 = .ok (.aload_n 1, 1) := by decide +kernel
theorem dX9_takeWord_18 : decode cX9_takeWord 18 = .ok (.invokevirtual 78, 3) := by decide +kernel
theorem dX9_takeWord_21 : decode cX9_takeWord 21 = .ok (.if_icmp .ge 27, 3) := by decide +kernel
theorem dX9_takeWord_24 : decode cX9_takeWord 24 = .ok (.aload_n 0, 1) := by decide +kernel
theorem dX9_takeWord_25 : decode cX9_takeWord 25 = .ok (.aload_n 0, 1) := by decide +kernel
theorem dX9_takeWord_26 : decode cX9_takeWord 26 = .ok (.getfield 54, 3) := by decide +kernel
theorem dX9_takeWord_29 : decode cX9_takeWord 29 = .ok (.iload_n 2, 1) := by decide +kernel
theorem dX9_takeWord_30 : decode cX9_takeWord 30 = .ok (.iadd, 1) := by decide +kernel
theorem dX9_takeWord_31 : decode cX9_takeWord 31 = .ok (.invokevirtual 57, 3) := by decide +kernel
theorem dX9_takeWord_34 : decode cX9_takeWord 34 = .ok (.aload_n 1, 1) := by decide +kernel
theorem dX9_takeWord_35 : decode cX9_takeWord 35 = .ok (.iload_n 2, 1) := by decide +kernel
theorem dX9_takeWord_36 : decode cX9_takeWord 36 = .ok (.invokevirtual 83, 3) := by decide +kernel
theorem dX9_takeWord_39 : decode cX9_takeWord 39 = .ok (.if_icmp .ne 9, 3) := by decide +kernel
theorem dX9_takeWord_42 : decode cX9_takeWord 42 = .ok (.iinc 2 1, 3) := by decide +kernel
theorem dX9_takeWord_45 : decode cX9_takeWord 45 = .ok (.goto (-29), 3) := by decide +kernel
theorem dX9_takeWord_48 : decode cX9_takeWord 48 = .ok (.iload_n 2, 1) := by decide +kernel
theorem dX9_takeWord_49 : decode cX9_takeWord 49 = .ok (.aload_n 1, 1) := by decide +kernel
theorem dX9_takeWord_50 : decode cX9_takeWord 50 = .ok (.invokevirtual 78, 3) := by decide +kernel
theorem dX9_takeWord_53 : decode cX9_takeWord 53 = .ok (.if_icmp .lt 23, 3) := by decide +kernel
theorem dX9_takeWord_56 : decode cX9_takeWord 56 = .ok (.aload_n 0, 1) := by decide +kernel
theorem dX9_takeWord_57 : decode cX9_takeWord 57 = .ok (.aload_n 0, 1) := by decide +kernel
theorem dX9_takeWord_58 : decode cX9_takeWord 58 = .ok (.getfield 54, 3) := by decide +kernel
theorem dX9_takeWord_61 : decode cX9_takeWord 61 = .ok (.iload_n 2, 1) := by decide +kernel
theorem dX9_takeWord_62 : decode cX9_takeWord 62 = .ok (.iadd, 1) := by decide +kernel
theorem dX9_takeWord_63 : decode cX9_takeWord 63 = .ok (.invokevirtual 57, 3) := by decide +kernel
theorem dX9_takeWord_66 : decode cX9_takeWord 66 = .ok (.bipush 97, 2) := by decide +kernel
theorem dX9_takeWord_68 : decode cX9_takeWord 68 = .ok (.bipush 122, 2) := by decide +kernel
theorem dX9_takeWord_70 : decode cX9_takeWord 70 = .ok (.invokestatic 66, 3) := by decide +kernel
theorem dX9_takeWord_73 : decode cX9_takeWord 73 = .ok (.ifCond .eq 5, 3) := by decide +kernel
theorem dX9_takeWord_76 : decode cX9_takeWord 76 = .ok (.iconst 0, 1) := by decide +kernel
theorem dX9_takeWord_77 : decode cX9_takeWord 77 = .ok (.ireturn, 1) := by decide +kernel
theorem dX9_takeWord_78 : decode cX9_takeWord 78 = .ok (.aload_n 0, 1) := by decide +kernel
theorem dX9_takeWord_79 : decode cX9_takeWord 79 = .ok (.dup, 1) := by decide +kernel
theorem dX9_takeWord_80 : decode cX9_takeWord 80 = .ok (.getfield 54, 3) := by decide +kernel
theorem dX9_takeWord_83 : decode cX9_takeWord 83 = .ok (.iload_n 2, 1) := by decide +kernel
theorem dX9_takeWord_84 : decode cX9_takeWord 84 = .ok (.iadd, 1) := by decide +kernel
theorem dX9_takeWord_85 : decode cX9_takeWord 85 = .ok (.putfield 54, 3) := by decide +kernel
theorem dX9_takeWord_88 : decode cX9_takeWord 88 = .ok (.iconst 1, 1) := by decide +kernel
theorem dX9_takeWord_89 : decode cX9_takeWord 89 = .ok (.ireturn, 1) := by decide +kernel
theorem dX9_expect_0 : decode cX9_expect 0 = .ok (.aload_n 0, 1) := by decide +kernel
theorem dX9_expect_1 : decode cX9_expect 1 = .ok (.invokevirtual 70, 3) := by decide +kernel
theorem dX9_expect_4 : decode cX9_expect 4 = .ok (.ifCond .ne 4, 3) := by decide +kernel
theorem dX9_expect_7 : decode cX9_expect 7 = .ok (.return_, 1) := by decide +kernel
theorem dX9_expect_8 : decode cX9_expect 8 = .ok (.aload_n 0, 1) := by decide +kernel
theorem dX9_expect_9 : decode cX9_expect 9 = .ok (.invokevirtual 74, 3) := by decide +kernel
theorem dX9_expect_12 : decode cX9_expect 12 = .ok (.iload_n 1, 1) := by decide +kernel
theorem dX9_expect_13 : decode cX9_expect 13 = .ok (.if_icmp .ne 16, 3) := by decide +kernel
theorem dX9_expect_16 : decode cX9_expect 16 = .ok (.aload_n 0, 1) := by decide +kernel
theorem dX9_expect_17 : decode cX9_expect 17 = .ok (.dup, 1) := by decide +kernel
theorem dX9_expect_18 : decode cX9_expect 18 = .ok (.getfield 54, 3) := by decide +kernel
theorem dX9_expect_21 : decode cX9_expect 21 = .ok (.iconst 1, 1) := by decide +kernel
theorem dX9_expect_22 : decode cX9_expect 22 = .ok (.iadd, 1) := by decide +kernel
theorem dX9_expect_23 : decode cX9_expect 23 = .ok (.putfield 54, 3) := by decide +kernel
theorem dX9_expect_26 : decode cX9_expect 26 = .ok (.goto 13, 3) := by decide +kernel
theorem dX9_expect_29 : decode cX9_expect 29 = .ok (.aload_n 0, 1) := by decide +kernel
theorem dX9_expect_30 : decode cX9_expect 30 = .ok (.bipush (-2), 2) := by decide +kernel
theorem dX9_expect_32 : decode cX9_expect 32 = .ok (.aload_n 0, 1) := by decide +kernel
theorem dX9_expect_33 : decode cX9_expect 33 = .ok (.getfield 54, 3) := by decide +kernel
theorem dX9_expect_36 : decode cX9_expect 36 = .ok (.invokevirtual 87, 3) := by decide +kernel
theorem dX9_expect_39 : decode cX9_expect 39 = .ok (.return_, 1) := by decide +kernel
theorem dX9_number_0 : decode cX9_number 0 = .ok (.aload_n 0, 1) := by decide +kernel
theorem dX9_number_1 : decode cX9_number 1 = .ok (.invokevirtual 70, 3) := by decide +kernel
theorem dX9_number_4 : decode cX9_number 4 = .ok (.ifCond .ne 5, 3) := by decide +kernel
theorem dX9_number_7 : decode cX9_number 7 = .ok (.iconst 0, 1) := by decide +kernel
theorem dX9_number_8 : decode cX9_number 8 = .ok (.ireturn, 1) := by decide +kernel
theorem dX9_number_9 : decode cX9_number 9 = .ok (.aload_n 0, 1) := by decide +kernel
theorem dX9_number_10 : decode cX9_number 10 = .ok (.invokevirtual 74, 3) := by decide +kernel
theorem dX9_number_13 : decode cX9_number 13 = .ok (.invokestatic 91, 3) := by decide +kernel
theorem dX9_number_16 : decode cX9_number 16 = .ok (.ifCond .ne 15, 3) := by decide +kernel
theorem dX9_number_19 : decode cX9_number 19 = .ok (.aload_n 0, 1) := by decide +kernel
theorem dX9_number_20 : decode cX9_number 20 = .ok (.bipush (-2), 2) := by decide +kernel
theorem dX9_number_22 : decode cX9_number 22 = .ok (.aload_n 0, 1) := by decide +kernel
theorem dX9_number_23 : decode cX9_number 23 = .ok (.getfield 54, 3) := by decide +kernel
theorem dX9_number_26 : decode cX9_number 26 = .ok (.invokevirtual 87, 3) := by decide +kernel
theorem dX9_number_29 : decode cX9_number 29 = .ok (.iconst 0, 1) := by decide +kernel
theorem dX9_number_30 : decode cX9_number 30 = .ok (.ireturn, 1) := by decide +kernel
theorem dX9_number_31 : decode cX9_number 31 = .ok (.aload_n 0, 1) := by decide +kernel
theorem dX9_number_32 : decode cX9_number 32 = .ok (.aload_n 0, 1) := by decide +kernel
theorem dX9_number_33 : decode cX9_number 33 = .ok (.getfield 54, 3) := by decide +kernel
theorem dX9_number_36 : decode cX9_number 36 = .ok (.putfield 95, 3) := by decide +kernel
theorem dX9_number_39 : decode cX9_number 39 = .ok (.iconst 0, 1) := by decide +kernel
theorem dX9_number_40 : decode cX9_number 40 = .ok (.istore_n 3, 1) := by decide +kernel
theorem dX9_number_41 : decode cX9_number 41 = .ok (.aload_n 0, 1) := by decide +kernel
theorem dX9_number_42 : decode cX9_number 42 = .ok (.aload_n 0, 1) := by decide +kernel
theorem dX9_number_43 : decode cX9_number 43 = .ok (.getfield 54, 3) := by decide +kernel
theorem dX9_number_46 : decode cX9_number 46 = .ok (.invokevirtual 57, 3) := by decide +kernel
theorem dX9_number_49 : decode cX9_number 49 = .ok (.invokestatic 91, 3) := by decide +kernel
theorem dX9_number_52 : decode cX9_number 52 = .ok (.ifCond .eq 38, 3) := by decide +kernel
theorem dX9_number_55 : decode cX9_number 55 = .ok (.ldc 98, 2) := by decide +kernel
theorem dX9_number_57 : decode cX9_number 57 = .ok (.bipush 10, 2) := by decide +kernel
theorem dX9_number_59 : decode cX9_number 59 = .ok (.iload_n 3, 1) := by decide +kernel
theorem dX9_number_60 : decode cX9_number 60 = .ok (.imul, 1) := by decide +kernel
theorem dX9_number_61 : decode cX9_number 61 = .ok (.aload_n 0, 1) := by decide +kernel
theorem dX9_number_62 : decode cX9_number 62 = .ok (.aload_n 0, 1) := by decide +kernel
theorem dX9_number_63 : decode cX9_number 63 = .ok (.getfield 54, 3) := by decide +kernel
theorem dX9_number_66 : decode cX9_number 66 = .ok (.invokevirtual 57, 3) := by decide +kernel
theorem dX9_number_69 : decode cX9_number 69 = .ok (.iadd, 1) := by decide +kernel
theorem dX9_number_70 : decode cX9_number 70 = .ok (.bipush 48, 2) := by decide +kernel
theorem dX9_number_72 : decode cX9_number 72 = .ok (.isub, 1) := by decide +kernel
theorem dX9_number_73 : decode cX9_number 73 = .ok (.invokestatic 99, 3) := by decide +kernel
theorem dX9_number_76 : decode cX9_number 76 = .ok (.istore_n 3, 1) := by decide +kernel
theorem dX9_number_77 : decode cX9_number 77 = .ok (.aload_n 0, 1) := by decide +kernel
theorem dX9_number_78 : decode cX9_number 78 = .ok (.dup, 1) := by decide +kernel
theorem dX9_number_79 : decode cX9_number 79 = .ok (.getfield 54, 3) := by decide +kernel
theorem dX9_number_82 : decode cX9_number 82 = .ok (.iconst 1, 1) := by decide +kernel
theorem dX9_number_83 : decode cX9_number 83 = .ok (.iadd, 1) := by decide +kernel
theorem dX9_number_84 : decode cX9_number 84 = .ok (.putfield 54, 3) := by decide +kernel
theorem dX9_number_87 : decode cX9_number 87 = .ok (.goto (-46), 3) := by decide +kernel
theorem dX9_number_90 : decode cX9_number 90 = .ok (.iload_n 3, 1) := by decide +kernel
theorem dX9_number_91 : decode cX9_number 91 = .ok (.iload_n 1, 1) := by decide +kernel
theorem dX9_number_92 : decode cX9_number 92 = .ok (.iload_n 2, 1) := by decide +kernel
theorem dX9_number_93 : decode cX9_number 93 = .ok (.invokestatic 66, 3) := by decide +kernel
theorem dX9_number_96 : decode cX9_number 96 = .ok (.ifCond .ne 13, 3) := by decide +kernel
theorem dX9_number_99 : decode cX9_number 99 = .ok (.aload_n 0, 1) := by decide +kernel
theorem dX9_number_100 : decode cX9_number 100 = .ok (.bipush (-3), 2) := by decide +kernel
theorem dX9_number_102 : decode cX9_number 102 = .ok (.aload_n 0, 1) := by decide +kernel
theorem dX9_number_103 : decode cX9_number 103 = .ok (.getfield 95, 3) := by decide +kernel
theorem dX9_number_106 : decode cX9_number 106 = .ok (.invokevirtual 87, 3) := by decide +kernel
theorem dX9_number_109 : decode cX9_number 109 = .ok (.iload_n 3, 1) := by decide +kernel
theorem dX9_number_110 : decode cX9_number 110 = .ok (.ireturn, 1) := by decide +kernel
theorem dX9_emit_0 : decode cX9_emit 0 = .ok (.aload_n 0, 1) := by decide +kernel
theorem dX9_emit_1 : decode cX9_emit 1 = .ok (.invokevirtual 70, 3) := by decide +kernel
theorem dX9_emit_4 : decode cX9_emit 4 = .ok (.ifCond .ne 4, 3) := by decide +kernel
theorem dX9_emit_7 : decode cX9_emit 7 = .ok (.return_, 1) := by decide +kernel
theorem dX9_emit_8 : decode cX9_emit 8 = .ok (.aload_n 0, 1) := by decide +kernel
theorem dX9_emit_9 : decode cX9_emit 9 = .ok (.getfield 20, 3) := by decide +kernel
theorem dX9_emit_12 : decode cX9_emit 12 = .ok (.sipush 1363, 3) := by decide +kernel
theorem dX9_emit_15 : decode cX9_emit 15 = .ok (.aload_n 0, 1) := by decide +kernel
theorem dX9_emit_16 : decode cX9_emit 16 = .ok (.getfield 20, 3) := by decide +kernel
theorem dX9_emit_19 : decode cX9_emit 19 = .ok (.iconst 4, 1) := by decide +kernel
theorem dX9_emit_20 : decode cX9_emit 20 = .ok (.iaload, 1) := by decide +kernel
theorem dX9_emit_21 : decode cX9_emit 21 = .ok (.iadd, 1) := by decide +kernel
theorem dX9_emit_22 : decode cX9_emit 22 = .ok (.iload_n 1, 1) := by decide +kernel
theorem dX9_emit_23 : decode cX9_emit 23 = .ok (.iastore, 1) := by decide +kernel
theorem dX9_emit_24 : decode cX9_emit 24 = .ok (.aload_n 0, 1) := by decide +kernel
theorem dX9_emit_25 : decode cX9_emit 25 = .ok (.getfield 20, 3) := by decide +kernel
theorem dX9_emit_28 : decode cX9_emit 28 = .ok (.iconst 4, 1) := by decide +kernel
theorem dX9_emit_29 : decode cX9_emit 29 = .ok (.dup2, 1) := by decide +kernel
theorem dX9_emit_30 : decode cX9_emit 30 = .ok (.iaload, 1) := by decide +kernel
theorem dX9_emit_31 : decode cX9_emit 31 = .ok (.iconst 1, 1) := by decide +kernel
theorem dX9_emit_32 : decode cX9_emit 32 = .ok (.iadd, 1) := by decide +kernel
theorem dX9_emit_33 : decode cX9_emit 33 = .ok (.iastore, 1) := by decide +kernel
theorem dX9_emit_34 : decode cX9_emit 34 = .ok (.return_, 1) := by decide +kernel
theorem dX9_factor_0 : decode cX9_factor 0 = .ok (.aload_n 0, 1) := by decide +kernel
theorem dX9_factor_1 : decode cX9_factor 1 = .ok (.invokevirtual 70, 3) := by decide +kernel
theorem dX9_factor_4 : decode cX9_factor 4 = .ok (.ifCond .ne 4, 3) := by decide +kernel
theorem dX9_factor_7 : decode cX9_factor 7 = .ok (.return_, 1) := by decide +kernel
theorem dX9_factor_8 : decode cX9_factor 8 = .ok (.aload_n 0, 1) := by decide +kernel
theorem dX9_factor_9 : decode cX9_factor 9 = .ok (.invokevirtual 74, 3) := by decide +kernel
theorem dX9_factor_12 : decode cX9_factor 12 = .ok (.istore_n 1, 1) := by decide +kernel
theorem dX9_factor_13 : decode cX9_factor 13 = .ok (.iload_n 1, 1) := by decide +kernel
theorem dX9_factor_14 : decode cX9_factor 14 = .ok (.bipush 40, 2) := by decide +kernel
theorem dX9_factor_16 : decode cX9_factor 16 = .ok (.if_icmp .ne 62, 3) := by decide +kernel
theorem dX9_factor_19 : decode cX9_factor 19 = .ok (.aload_n 0, 1) := by decide +kernel
theorem dX9_factor_20 : decode cX9_factor 20 = .ok (.getfield 103, 3) := by decide +kernel
theorem dX9_factor_23 : decode cX9_factor 23 = .ok (.iconst 4, 1) := by decide +kernel
theorem dX9_factor_24 : decode cX9_factor 24 = .ok (.if_icmp .ne 13, 3) := by decide +kernel
theorem dX9_factor_27 : decode cX9_factor 27 = .ok (.aload_n 0, 1) := by decide +kernel
theorem dX9_factor_28 : decode cX9_factor 28 = .ok (.bipush (-5), 2) := by decide +kernel
theorem dX9_factor_30 : decode cX9_factor 30 = .ok (.aload_n 0, 1) := by decide +kernel
theorem dX9_factor_31 : decode cX9_factor 31 = .ok (.getfield 54, 3) := by decide +kernel
theorem dX9_factor_34 : decode cX9_factor 34 = .ok (.invokevirtual 87, 3) := by decide +kernel
theorem dX9_factor_37 : decode cX9_factor 37 = .ok (.aload_n 0, 1) := by decide +kernel
theorem dX9_factor_38 : decode cX9_factor 38 = .ok (.dup, 1) := by decide +kernel
theorem dX9_factor_39 : decode cX9_factor 39 = .ok (.getfield 54, 3) := by decide +kernel
theorem dX9_factor_42 : decode cX9_factor 42 = .ok (.iconst 1, 1) := by decide +kernel
theorem dX9_factor_43 : decode cX9_factor 43 = .ok (.iadd, 1) := by decide +kernel
theorem dX9_factor_44 : decode cX9_factor 44 = .ok (.putfield 54, 3) := by decide +kernel
theorem dX9_factor_47 : decode cX9_factor 47 = .ok (.aload_n 0, 1) := by decide +kernel
theorem dX9_factor_48 : decode cX9_factor 48 = .ok (.dup, 1) := by decide +kernel
theorem dX9_factor_49 : decode cX9_factor 49 = .ok (.getfield 103, 3) := by decide +kernel
theorem dX9_factor_52 : decode cX9_factor 52 = .ok (.iconst 1, 1) := by decide +kernel
theorem dX9_factor_53 : decode cX9_factor 53 = .ok (.iadd, 1) := by decide +kernel
theorem dX9_factor_54 : decode cX9_factor 54 = .ok (.putfield 103, 3) := by decide +kernel
theorem dX9_factor_57 : decode cX9_factor 57 = .ok (.aload_n 0, 1) := by decide +kernel
theorem dX9_factor_58 : decode cX9_factor 58 = .ok (.invokevirtual 106, 3) := by decide +kernel
theorem dX9_factor_61 : decode cX9_factor 61 = .ok (.aload_n 0, 1) := by decide +kernel
theorem dX9_factor_62 : decode cX9_factor 62 = .ok (.bipush 41, 2) := by decide +kernel
theorem dX9_factor_64 : decode cX9_factor 64 = .ok (.invokevirtual 109, 3) := by decide +kernel
theorem dX9_factor_67 : decode cX9_factor 67 = .ok (.aload_n 0, 1) := by decide +kernel
theorem dX9_factor_68 : decode cX9_factor 68 = .ok (.dup, 1) := by decide +kernel
theorem dX9_factor_69 : decode cX9_factor 69 = .ok (.getfield 103, 3) := by decide +kernel
theorem dX9_factor_72 : decode cX9_factor 72 = .ok (.iconst 1, 1) := by decide +kernel
theorem dX9_factor_73 : decode cX9_factor 73 = .ok (.isub, 1) := by decide +kernel
theorem dX9_factor_74 : decode cX9_factor 74 = .ok (.putfield 103, 3) := by decide +kernel
theorem dX9_factor_77 : decode cX9_factor 77 = .ok (.return_, 1) := by decide +kernel
theorem dX9_factor_78 : decode cX9_factor 78 = .ok (.iload_n 1, 1) := by decide +kernel
theorem dX9_factor_79 : decode cX9_factor 79 = .ok (.invokestatic 91, 3) := by decide +kernel
theorem dX9_factor_82 : decode cX9_factor 82 = .ok (.ifCond .eq 7, 3) := by decide +kernel
theorem dX9_factor_85 : decode cX9_factor 85 = .ok (.iconst (-1), 1) := by decide +kernel
theorem dX9_factor_86 : decode cX9_factor 86 = .ok (.goto 69, 3) := by decide +kernel
theorem dX9_factor_89 : decode cX9_factor 89 = .ok (.aload_n 0, 1) := by decide +kernel
theorem dX9_factor_90 : decode cX9_factor 90 = .ok (.ldc 113, 2) := by decide +kernel
theorem dX9_factor_92 : decode cX9_factor 92 = .ok (.invokevirtual 115, 3) := by decide +kernel
theorem dX9_factor_95 : decode cX9_factor 95 = .ok (.ifCond .eq 7, 3) := by decide +kernel
theorem dX9_factor_98 : decode cX9_factor 98 = .ok (.iconst 0, 1) := by decide +kernel
theorem dX9_factor_99 : decode cX9_factor 99 = .ok (.goto 56, 3) := by decide +kernel
theorem dX9_factor_102 : decode cX9_factor 102 = .ok (.aload_n 0, 1) := by decide +kernel
theorem dX9_factor_103 : decode cX9_factor 103 = .ok (.ldc 119, 2) := by decide +kernel
theorem dX9_factor_105 : decode cX9_factor 105 = .ok (.invokevirtual 115, 3) := by decide +kernel
theorem dX9_factor_108 : decode cX9_factor 108 = .ok (.ifCond .eq 7, 3) := by decide +kernel
theorem dX9_factor_111 : decode cX9_factor 111 = .ok (.iconst 1, 1) := by decide +kernel
theorem dX9_factor_112 : decode cX9_factor 112 = .ok (.goto 43, 3) := by decide +kernel
theorem dX9_factor_115 : decode cX9_factor 115 = .ok (.aload_n 0, 1) := by decide +kernel
theorem dX9_factor_116 : decode cX9_factor 116 = .ok (.ldc 121, 2) := by decide +kernel
theorem dX9_factor_118 : decode cX9_factor 118 = .ok (.invokevirtual 115, 3) := by decide +kernel
theorem dX9_factor_121 : decode cX9_factor 121 = .ok (.ifCond .eq 7, 3) := by decide +kernel
theorem dX9_factor_124 : decode cX9_factor 124 = .ok (.iconst 2, 1) := by decide +kernel
theorem dX9_factor_125 : decode cX9_factor 125 = .ok (.goto 30, 3) := by decide +kernel
theorem dX9_factor_128 : decode cX9_factor 128 = .ok (.aload_n 0, 1) := by decide +kernel
theorem dX9_factor_129 : decode cX9_factor 129 = .ok (.ldc 123, 2) := by decide +kernel
theorem dX9_factor_131 : decode cX9_factor 131 = .ok (.invokevirtual 115, 3) := by decide +kernel
theorem dX9_factor_134 : decode cX9_factor 134 = .ok (.ifCond .eq 7, 3) := by decide +kernel
theorem dX9_factor_137 : decode cX9_factor 137 = .ok (.iconst 3, 1) := by decide +kernel
theorem dX9_factor_138 : decode cX9_factor 138 = .ok (.goto 17, 3) := by decide +kernel
theorem dX9_factor_141 : decode cX9_factor 141 = .ok (.aload_n 0, 1) := by decide +kernel
theorem dX9_factor_142 : decode cX9_factor 142 = .ok (.ldc 125, 2) := by decide +kernel
theorem dX9_factor_144 : decode cX9_factor 144 = .ok (.invokevirtual 115, 3) := by decide +kernel
theorem dX9_factor_147 : decode cX9_factor 147 = .ok (.ifCond .eq 7, 3) := by decide +kernel
theorem dX9_factor_150 : decode cX9_factor 150 = .ok (.iconst 4, 1) := by decide +kernel
theorem dX9_factor_151 : decode cX9_factor 151 = .ok (.goto 4, 3) := by decide +kernel
theorem dX9_factor_154 : decode cX9_factor 154 = .ok (.iconst (-1), 1) := by decide +kernel
theorem dX9_factor_155 : decode cX9_factor 155 = .ok (.istore_n 2, 1) := by decide +kernel
theorem dX9_factor_156 : decode cX9_factor 156 = .ok (.iload_n 2, 1) := by decide +kernel
theorem dX9_factor_157 : decode cX9_factor 157 = .ok (.ifCond .ge 14, 3) := by decide +kernel
theorem dX9_factor_160 : decode cX9_factor 160 = .ok (.aload_n 0, 1) := by decide +kernel
theorem dX9_factor_161 : decode cX9_factor 161 = .ok (.iconst 0, 1) := by decide +kernel
theorem dX9_factor_162 : decode cX9_factor 162 = .ok (.sipush 9999, 3) := by decide +kernel
theorem dX9_factor_165 : decode cX9_factor 165 = .ok (.invokevirtual 127, 3) := by decide +kernel
theorem dX9_factor_168 : decode cX9_factor 168 = .ok (.goto 4, 3) := by decide +kernel
theorem dX9_factor_171 : decode cX9_factor 171 = .ok (.iload_n 2, 1) := by decide +kernel
theorem dX9_factor_172 : decode cX9_factor 172 = .ok (.istore_n 3, 1) := by decide +kernel
theorem dX9_factor_173 : decode cX9_factor 173 = .ok (.aload_n 0, 1) := by decide +kernel
theorem dX9_factor_174 : decode cX9_factor 174 = .ok (.iload_n 2, 1) := by decide +kernel
theorem dX9_factor_175 : decode cX9_factor 175 = .ok (.ifCond .ge 7, 3) := by decide +kernel
theorem dX9_factor_178 : decode cX9_factor 178 = .ok (.iconst 0, 1) := by decide +kernel
theorem dX9_factor_179 : decode cX9_factor 179 = .ok (.goto 4, 3) := by decide +kernel
theorem dX9_factor_182 : decode cX9_factor 182 = .ok (.iconst 1, 1) := by decide +kernel
theorem dX9_factor_183 : decode cX9_factor 183 = .ok (.invokevirtual 130, 3) := by decide +kernel
theorem dX9_factor_186 : decode cX9_factor 186 = .ok (.aload_n 0, 1) := by decide +kernel
theorem dX9_factor_187 : decode cX9_factor 187 = .ok (.iload_n 3, 1) := by decide +kernel
theorem dX9_factor_188 : decode cX9_factor 188 = .ok (.invokevirtual 130, 3) := by decide +kernel
theorem dX9_factor_191 : decode cX9_factor 191 = .ok (.return_, 1) := by decide +kernel
theorem dX9_term_0 : decode cX9_term 0 = .ok (.aload_n 0, 1) := by decide +kernel
theorem dX9_term_1 : decode cX9_term 1 = .ok (.invokevirtual 133, 3) := by decide +kernel
theorem dX9_term_4 : decode cX9_term 4 = .ok (.aload_n 0, 1) := by decide +kernel
theorem dX9_term_5 : decode cX9_term 5 = .ok (.invokevirtual 70, 3) := by decide +kernel
theorem dX9_term_8 : decode cX9_term 8 = .ok (.ifCond .eq 66, 3) := by decide +kernel
theorem dX9_term_11 : decode cX9_term 11 = .ok (.aload_n 0, 1) := by decide +kernel
theorem dX9_term_12 : decode cX9_term 12 = .ok (.invokevirtual 74, 3) := by decide +kernel
theorem dX9_term_15 : decode cX9_term 15 = .ok (.bipush 42, 2) := by decide +kernel
theorem dX9_term_17 : decode cX9_term 17 = .ok (.if_icmp .eq 12, 3) := by decide +kernel
theorem dX9_term_20 : decode cX9_term 20 = .ok (.aload_n 0, 1) := by decide +kernel
theorem dX9_term_21 : decode cX9_term 21 = .ok (.invokevirtual 74, 3) := by decide +kernel
theorem dX9_term_24 : decode cX9_term 24 = .ok (.bipush 47, 2) := by decide +kernel
theorem dX9_term_26 : decode cX9_term 26 = .ok (.if_icmp .ne 48, 3) := by decide +kernel
theorem dX9_term_29 : decode cX9_term 29 = .ok (.aload_n 0, 1) := by decide +kernel
theorem dX9_term_30 : decode cX9_term 30 = .ok (.invokevirtual 74, 3) := by decide +kernel
theorem dX9_term_33 : decode cX9_term 33 = .ok (.bipush 42, 2) := by decide +kernel
theorem dX9_term_35 : decode cX9_term 35 = .ok (.if_icmp .ne 7, 3) := by decide +kernel
theorem dX9_term_38 : decode cX9_term 38 = .ok (.iconst 1, 1) := by decide +kernel
theorem dX9_term_39 : decode cX9_term 39 = .ok (.goto 4, 3) := by decide +kernel
theorem dX9_term_42 : decode cX9_term 42 = .ok (.iconst 0, 1) := by decide +kernel
theorem dX9_term_43 : decode cX9_term 43 = .ok (.istore_n 1, 1) := by decide +kernel
theorem dX9_term_44 : decode cX9_term 44 = .ok (.aload_n 0, 1) := by decide +kernel
theorem dX9_term_45 : decode cX9_term 45 = .ok (.dup, 1) := by decide +kernel
theorem dX9_term_46 : decode cX9_term 46 = .ok (.getfield 54, 3) := by decide +kernel
theorem dX9_term_49 : decode cX9_term 49 = .ok (.iconst 1, 1) := by decide +kernel
theorem dX9_term_50 : decode cX9_term 50 = .ok (.iadd, 1) := by decide +kernel
theorem dX9_term_51 : decode cX9_term 51 = .ok (.putfield 54, 3) := by decide +kernel
theorem dX9_term_54 : decode cX9_term 54 = .ok (.aload_n 0, 1) := by decide +kernel
theorem dX9_term_55 : decode cX9_term 55 = .ok (.invokevirtual 133, 3) := by decide +kernel
theorem dX9_term_58 : decode cX9_term 58 = .ok (.aload_n 0, 1) := by decide +kernel
theorem dX9_term_59 : decode cX9_term 59 = .ok (.iload_n 1, 1) := by decide +kernel
theorem dX9_term_60 : decode cX9_term 60 = .ok (.ifCond .eq 7, 3) := by decide +kernel
theorem dX9_term_63 : decode cX9_term 63 = .ok (.iconst 4, 1) := by decide +kernel
theorem dX9_term_64 : decode cX9_term 64 = .ok (.goto 4, 3) := by decide +kernel
theorem dX9_term_67 : decode cX9_term 67 = .ok (.iconst 5, 1) := by decide +kernel
theorem dX9_term_68 : decode cX9_term 68 = .ok (.invokevirtual 130, 3) := by decide +kernel
theorem dX9_term_71 : decode cX9_term 71 = .ok (.goto (-67), 3) := by decide +kernel
theorem dX9_term_74 : decode cX9_term 74 = .ok (.return_, 1) := by decide +kernel
theorem dX9_sum_0 : decode cX9_sum 0 = .ok (.aload_n 0, 1) := by decide +kernel
theorem dX9_sum_1 : decode cX9_sum 1 = .ok (.invokevirtual 136, 3) := by decide +kernel
theorem dX9_sum_4 : decode cX9_sum 4 = .ok (.aload_n 0, 1) := by decide +kernel
theorem dX9_sum_5 : decode cX9_sum 5 = .ok (.invokevirtual 70, 3) := by decide +kernel
theorem dX9_sum_8 : decode cX9_sum 8 = .ok (.ifCond .eq 66, 3) := by decide +kernel
theorem dX9_sum_11 : decode cX9_sum 11 = .ok (.aload_n 0, 1) := by decide +kernel
theorem dX9_sum_12 : decode cX9_sum 12 = .ok (.invokevirtual 74, 3) := by decide +kernel
theorem dX9_sum_15 : decode cX9_sum 15 = .ok (.bipush 43, 2) := by decide +kernel
theorem dX9_sum_17 : decode cX9_sum 17 = .ok (.if_icmp .eq 12, 3) := by decide +kernel
theorem dX9_sum_20 : decode cX9_sum 20 = .ok (.aload_n 0, 1) := by decide +kernel
theorem dX9_sum_21 : decode cX9_sum 21 = .ok (.invokevirtual 74, 3) := by decide +kernel
theorem dX9_sum_24 : decode cX9_sum 24 = .ok (.bipush 45, 2) := by decide +kernel
theorem dX9_sum_26 : decode cX9_sum 26 = .ok (.if_icmp .ne 48, 3) := by decide +kernel
theorem dX9_sum_29 : decode cX9_sum 29 = .ok (.aload_n 0, 1) := by decide +kernel
theorem dX9_sum_30 : decode cX9_sum 30 = .ok (.invokevirtual 74, 3) := by decide +kernel
theorem dX9_sum_33 : decode cX9_sum 33 = .ok (.bipush 43, 2) := by decide +kernel
theorem dX9_sum_35 : decode cX9_sum 35 = .ok (.if_icmp .ne 7, 3) := by decide +kernel
theorem dX9_sum_38 : decode cX9_sum 38 = .ok (.iconst 1, 1) := by decide +kernel
theorem dX9_sum_39 : decode cX9_sum 39 = .ok (.goto 4, 3) := by decide +kernel
theorem dX9_sum_42 : decode cX9_sum 42 = .ok (.iconst 0, 1) := by decide +kernel
theorem dX9_sum_43 : decode cX9_sum 43 = .ok (.istore_n 1, 1) := by decide +kernel
theorem dX9_sum_44 : decode cX9_sum 44 = .ok (.aload_n 0, 1) := by decide +kernel
theorem dX9_sum_45 : decode cX9_sum 45 = .ok (.dup, 1) := by decide +kernel
theorem dX9_sum_46 : decode cX9_sum 46 = .ok (.getfield 54, 3) := by decide +kernel
theorem dX9_sum_49 : decode cX9_sum 49 = .ok (.iconst 1, 1) := by decide +kernel
theorem dX9_sum_50 : decode cX9_sum 50 = .ok (.iadd, 1) := by decide +kernel
theorem dX9_sum_51 : decode cX9_sum 51 = .ok (.putfield 54, 3) := by decide +kernel
theorem dX9_sum_54 : decode cX9_sum 54 = .ok (.aload_n 0, 1) := by decide +kernel
theorem dX9_sum_55 : decode cX9_sum 55 = .ok (.invokevirtual 136, 3) := by decide +kernel
theorem dX9_sum_58 : decode cX9_sum 58 = .ok (.aload_n 0, 1) := by decide +kernel
theorem dX9_sum_59 : decode cX9_sum 59 = .ok (.iload_n 1, 1) := by decide +kernel
theorem dX9_sum_60 : decode cX9_sum 60 = .ok (.ifCond .eq 7, 3) := by decide +kernel
theorem dX9_sum_63 : decode cX9_sum 63 = .ok (.iconst 2, 1) := by decide +kernel
theorem dX9_sum_64 : decode cX9_sum 64 = .ok (.goto 4, 3) := by decide +kernel
theorem dX9_sum_67 : decode cX9_sum 67 = .ok (.iconst 3, 1) := by decide +kernel
theorem dX9_sum_68 : decode cX9_sum 68 = .ok (.invokevirtual 130, 3) := by decide +kernel
theorem dX9_sum_71 : decode cX9_sum 71 = .ok (.goto (-67), 3) := by decide +kernel
theorem dX9_sum_74 : decode cX9_sum 74 = .ok (.return_, 1) := by decide +kernel
theorem dX9_once_0 : decode cX9_once 0 = .ok (.aload_n 0, 1) := by decide +kernel
theorem dX9_once_1 : decode cX9_once 1 = .ok (.getfield 139, 3) := by decide +kernel
theorem dX9_once_4 : decode cX9_once 4 = .ok (.iload_n 1, 1) := by decide +kernel
theorem dX9_once_5 : decode cX9_once 5 = .ok (.ishr, 1) := by decide +kernel
theorem dX9_once_6 : decode cX9_once 6 = .ok (.iconst 1, 1) := by decide +kernel
theorem dX9_once_7 : decode cX9_once 7 = .ok (.iand, 1) := by decide +kernel
theorem dX9_once_8 : decode cX9_once 8 = .ok (.iconst 1, 1) := by decide +kernel
theorem dX9_once_9 : decode cX9_once 9 = .ok (.if_icmp .ne 10, 3) := by decide +kernel
theorem dX9_once_12 : decode cX9_once 12 = .ok (.aload_n 0, 1) := by decide +kernel
theorem dX9_once_13 : decode cX9_once 13 = .ok (.bipush (-2), 2) := by decide +kernel
theorem dX9_once_15 : decode cX9_once 15 = .ok (.iload_n 2, 1) := by decide +kernel
theorem dX9_once_16 : decode cX9_once 16 = .ok (.invokevirtual 87, 3) := by decide +kernel
theorem dX9_once_19 : decode cX9_once 19 = .ok (.aload_n 0, 1) := by decide +kernel
theorem dX9_once_20 : decode cX9_once 20 = .ok (.dup, 1) := by decide +kernel
theorem dX9_once_21 : decode cX9_once 21 = .ok (.getfield 139, 3) := by decide +kernel
theorem dX9_once_24 : decode cX9_once 24 = .ok (.iconst 1, 1) := by decide +kernel
theorem dX9_once_25 : decode cX9_once 25 = .ok (.iload_n 1, 1) := by decide +kernel
theorem dX9_once_26 : decode cX9_once 26 = .ok (.ishl, 1) := by decide +kernel
theorem dX9_once_27 : decode cX9_once 27 = .ok (.ior, 1) := by decide +kernel
theorem dX9_once_28 : decode cX9_once 28 = .ok (.putfield 139, 3) := by decide +kernel
theorem dX9_once_31 : decode cX9_once 31 = .ok (.return_, 1) := by decide +kernel
theorem dX9_readBreak_0 : decode cX9_readBreak 0 = .ok (.aload_n 0, 1) := by decide +kernel
theorem dX9_readBreak_1 : decode cX9_readBreak 1 = .ok (.getfield 20, 3) := by decide +kernel
theorem dX9_readBreak_4 : decode cX9_readBreak 4 = .ok (.iconst 0, 1) := by decide +kernel
theorem dX9_readBreak_5 : decode cX9_readBreak 5 = .ok (.iaload, 1) := by decide +kernel
theorem dX9_readBreak_6 : decode cX9_readBreak 6 = .ok (.bipush 20, 2) := by decide +kernel
theorem dX9_readBreak_8 : decode cX9_readBreak 8 = .ok (.if_icmp .ne 10, 3) := by decide +kernel
theorem dX9_readBreak_11 : decode cX9_readBreak 11 = .ok (.aload_n 0, 1) := by decide +kernel
theorem dX9_readBreak_12 : decode cX9_readBreak 12 = .ok (.bipush (-4), 2) := by decide +kernel
theorem dX9_readBreak_14 : decode cX9_readBreak 14 = .ok (.iload_n 1, 1) := by decide +kernel
theorem dX9_readBreak_15 : decode cX9_readBreak 15 = .ok (.invokevirtual 87, 3) := by decide +kernel
theorem dX9_readBreak_18 : decode cX9_readBreak 18 = .ok (.aload_n 0, 1) := by decide +kernel
theorem dX9_readBreak_19 : decode cX9_readBreak 19 = .ok (.invokevirtual 70, 3) := by decide +kernel
theorem dX9_readBreak_22 : decode cX9_readBreak 22 = .ok (.ifCond .ne 4, 3) := by decide +kernel
theorem dX9_readBreak_25 : decode cX9_readBreak 25 = .ok (.return_, 1) := by decide +kernel
theorem dX9_readBreak_26 : decode cX9_readBreak 26 = .ok (.aload_n 0, 1) := by decide +kernel
theorem dX9_readBreak_27 : decode cX9_readBreak 27 = .ok (.getfield 20, 3) := by decide +kernel
theorem dX9_readBreak_30 : decode cX9_readBreak 30 = .ok (.iconst 0, 1) := by decide +kernel
theorem dX9_readBreak_31 : decode cX9_readBreak 31 = .ok (.iaload, 1) := by decide +kernel
theorem dX9_readBreak_32 : decode cX9_readBreak 32 = .ok (.istore_n 2, 1) := by decide +kernel
theorem dX9_readBreak_33 : decode cX9_readBreak 33 = .ok (.iload_n 2, 1) := by decide +kernel
theorem dX9_readBreak_34 : decode cX9_readBreak 34 = .ok (.invokestatic 44, 3) := by decide +kernel
theorem dX9_readBreak_37 : decode cX9_readBreak 37 = .ok (.istore_n 3, 1) := by decide +kernel
theorem dX9_readBreak_38 : decode cX9_readBreak 38 = .ok (.aload_n 0, 1) := by decide +kernel
theorem dX9_readBreak_39 : decode cX9_readBreak 39 = .ok (.getfield 20, 3) := by decide +kernel
theorem dX9_readBreak_42 : decode cX9_readBreak 42 = .ok (.iload_n 3, 1) := by decide +kernel
theorem dX9_readBreak_43 : decode cX9_readBreak 43 = .ok (.aload_n 0, 1) := by decide +kernel
theorem dX9_readBreak_44 : decode cX9_readBreak 44 = .ok (.iconst 0, 1) := by decide +kernel
theorem dX9_readBreak_45 : decode cX9_readBreak 45 = .ok (.bipush 6, 2) := by decide +kernel
theorem dX9_readBreak_47 : decode cX9_readBreak 47 = .ok (.invokevirtual 127, 3) := by decide +kernel
theorem dX9_readBreak_50 : decode cX9_readBreak 50 = .ok (.iastore, 1) := by decide +kernel
theorem dX9_readBreak_51 : decode cX9_readBreak 51 = .ok (.aload_n 0, 1) := by decide +kernel
theorem dX9_readBreak_52 : decode cX9_readBreak 52 = .ok (.getfield 20, 3) := by decide +kernel
theorem dX9_readBreak_55 : decode cX9_readBreak 55 = .ok (.iload_n 3, 1) := by decide +kernel
theorem dX9_readBreak_56 : decode cX9_readBreak 56 = .ok (.iconst 1, 1) := by decide +kernel
theorem dX9_readBreak_57 : decode cX9_readBreak 57 = .ok (.iadd, 1) := by decide +kernel
theorem dX9_readBreak_58 : decode cX9_readBreak 58 = .ok (.aload_n 0, 1) := by decide +kernel
theorem dX9_readBreak_59 : decode cX9_readBreak 59 = .ok (.iconst 0, 1) := by decide +kernel
theorem dX9_readBreak_60 : decode cX9_readBreak 60 = .ok (.bipush 23, 2) := by decide +kernel
theorem dX9_readBreak_62 : decode cX9_readBreak 62 = .ok (.invokevirtual 127, 3) := by decide +kernel
theorem dX9_readBreak_65 : decode cX9_readBreak 65 = .ok (.iastore, 1) := by decide +kernel
theorem dX9_readBreak_66 : decode cX9_readBreak 66 = .ok (.iconst 0, 1) := by decide +kernel
theorem dX9_readBreak_67 : decode cX9_readBreak 67 = .ok (.istore 4, 2) := by decide +kernel
theorem dX9_readBreak_69 : decode cX9_readBreak 69 = .ok (.iload 4, 2) := by decide +kernel
theorem dX9_readBreak_71 : decode cX9_readBreak 71 = .ok (.iload_n 2, 1) := by decide +kernel
theorem dX9_readBreak_72 : decode cX9_readBreak 72 = .ok (.if_icmp .ge 46, 3) := by decide +kernel
theorem dX9_readBreak_75 : decode cX9_readBreak 75 = .ok (.aload_n 0, 1) := by decide +kernel
theorem dX9_readBreak_76 : decode cX9_readBreak 76 = .ok (.invokevirtual 70, 3) := by decide +kernel
theorem dX9_readBreak_79 : decode cX9_readBreak 79 = .ok (.ifCond .eq 39, 3) := by decide +kernel
theorem dX9_readBreak_82 : decode cX9_readBreak 82 = .ok (.aload_n 0, 1) := by decide +kernel
theorem dX9_readBreak_83 : decode cX9_readBreak 83 = .ok (.getfield 20, 3) := by decide +kernel
theorem dX9_readBreak_86 : decode cX9_readBreak 86 = .ok (.iload 4, 2) := by decide +kernel
theorem dX9_readBreak_88 : decode cX9_readBreak 88 = .ok (.invokestatic 142, 3) := by decide +kernel
theorem dX9_readBreak_91 : decode cX9_readBreak 91 = .ok (.aload_n 0, 1) := by decide +kernel
theorem dX9_readBreak_92 : decode cX9_readBreak 92 = .ok (.getfield 20, 3) := by decide +kernel
theorem dX9_readBreak_95 : decode cX9_readBreak 95 = .ok (.iload_n 2, 1) := by decide +kernel
theorem dX9_readBreak_96 : decode cX9_readBreak 96 = .ok (.invokestatic 142, 3) := by decide +kernel
theorem dX9_readBreak_99 : decode cX9_readBreak 99 = .ok (.if_icmp .ne 13, 3) := by decide +kernel
theorem dX9_readBreak_102 : decode cX9_readBreak 102 = .ok (.aload_n 0, 1) := by decide +kernel
theorem dX9_readBreak_103 : decode cX9_readBreak 103 = .ok (.bipush (-3), 2) := by decide +kernel
theorem dX9_readBreak_105 : decode cX9_readBreak 105 = .ok (.aload_n 0, 1) := by decide +kernel
theorem dX9_readBreak_106 : decode cX9_readBreak 106 = .ok (.getfield 95, 3) := by decide +kernel
theorem dX9_readBreak_109 : decode cX9_readBreak 109 = .ok (.invokevirtual 87, 3) := by decide +kernel
theorem dX9_readBreak_112 : decode cX9_readBreak 112 = .ok (.iinc 4 1, 3) := by decide +kernel
theorem dX9_readBreak_115 : decode cX9_readBreak 115 = .ok (.goto (-46), 3) := by decide +kernel
theorem dX9_readBreak_118 : decode cX9_readBreak 118 = .ok (.aload_n 0, 1) := by decide +kernel
theorem dX9_readBreak_119 : decode cX9_readBreak 119 = .ok (.getfield 20, 3) := by decide +kernel
theorem dX9_readBreak_122 : decode cX9_readBreak 122 = .ok (.iload_n 3, 1) := by decide +kernel
theorem dX9_readBreak_123 : decode cX9_readBreak 123 = .ok (.iconst 2, 1) := by decide +kernel
theorem dX9_readBreak_124 : decode cX9_readBreak 124 = .ok (.iadd, 1) := by decide +kernel
theorem dX9_readBreak_125 : decode cX9_readBreak 125 = .ok (.aload_n 0, 1) := by decide +kernel
theorem dX9_readBreak_126 : decode cX9_readBreak 126 = .ok (.bipush 10, 2) := by decide +kernel
theorem dX9_readBreak_128 : decode cX9_readBreak 128 = .ok (.sipush 300, 3) := by decide +kernel
theorem dX9_readBreak_131 : decode cX9_readBreak 131 = .ok (.invokevirtual 127, 3) := by decide +kernel
theorem dX9_readBreak_134 : decode cX9_readBreak 134 = .ok (.iastore, 1) := by decide +kernel
theorem dX9_readBreak_135 : decode cX9_readBreak 135 = .ok (.aload_n 0, 1) := by decide +kernel
theorem dX9_readBreak_136 : decode cX9_readBreak 136 = .ok (.getfield 20, 3) := by decide +kernel
theorem dX9_readBreak_139 : decode cX9_readBreak 139 = .ok (.iload_n 3, 1) := by decide +kernel
theorem dX9_readBreak_140 : decode cX9_readBreak 140 = .ok (.iconst 3, 1) := by decide +kernel
theorem dX9_readBreak_141 : decode cX9_readBreak 141 = .ok (.iadd, 1) := by decide +kernel
theorem dX9_readBreak_142 : decode cX9_readBreak 142 = .ok (.aload_n 0, 1) := by decide +kernel
theorem dX9_readBreak_143 : decode cX9_readBreak 143 = .ok (.iconst 0, 1) := by decide +kernel
theorem dX9_readBreak_144 : decode cX9_readBreak 144 = .ok (.sipush 999, 3) := by decide +kernel
theorem dX9_readBreak_147 : decode cX9_readBreak 147 = .ok (.invokevirtual 127, 3) := by decide +kernel
theorem dX9_readBreak_150 : decode cX9_readBreak 150 = .ok (.iastore, 1) := by decide +kernel
theorem dX9_readBreak_151 : decode cX9_readBreak 151 = .ok (.aload_n 0, 1) := by decide +kernel
theorem dX9_readBreak_152 : decode cX9_readBreak 152 = .ok (.getfield 20, 3) := by decide +kernel
theorem dX9_readBreak_155 : decode cX9_readBreak 155 = .ok (.iconst 0, 1) := by decide +kernel
theorem dX9_readBreak_156 : decode cX9_readBreak 156 = .ok (.dup2, 1) := by decide +kernel
theorem dX9_readBreak_157 : decode cX9_readBreak 157 = .ok (.iaload, 1) := by decide +kernel
theorem dX9_readBreak_158 : decode cX9_readBreak 158 = .ok (.iconst 1, 1) := by decide +kernel
theorem dX9_readBreak_159 : decode cX9_readBreak 159 = .ok (.iadd, 1) := by decide +kernel
theorem dX9_readBreak_160 : decode cX9_readBreak 160 = .ok (.iastore, 1) := by decide +kernel
theorem dX9_readBreak_161 : decode cX9_readBreak 161 = .ok (.return_, 1) := by decide +kernel
theorem dX9_readSponsor_0 : decode cX9_readSponsor 0 = .ok (.aload_n 0, 1) := by decide +kernel
theorem dX9_readSponsor_1 : decode cX9_readSponsor 1 = .ok (.getfield 20, 3) := by decide +kernel
theorem dX9_readSponsor_4 : decode cX9_readSponsor 4 = .ok (.iconst 1, 1) := by decide +kernel
theorem dX9_readSponsor_5 : decode cX9_readSponsor 5 = .ok (.iaload, 1) := by decide +kernel
theorem dX9_readSponsor_6 : decode cX9_readSponsor 6 = .ok (.bipush 8, 2) := by decide +kernel
theorem dX9_readSponsor_8 : decode cX9_readSponsor 8 = .ok (.if_icmp .ne 10, 3) := by decide +kernel
theorem dX9_readSponsor_11 : decode cX9_readSponsor 11 = .ok (.aload_n 0, 1) := by decide +kernel
theorem dX9_readSponsor_12 : decode cX9_readSponsor 12 = .ok (.bipush (-4), 2) := by decide +kernel
theorem dX9_readSponsor_14 : decode cX9_readSponsor 14 = .ok (.iload_n 1, 1) := by decide +kernel
theorem dX9_readSponsor_15 : decode cX9_readSponsor 15 = .ok (.invokevirtual 87, 3) := by decide +kernel
theorem dX9_readSponsor_18 : decode cX9_readSponsor 18 = .ok (.aload_n 0, 1) := by decide +kernel
theorem dX9_readSponsor_19 : decode cX9_readSponsor 19 = .ok (.invokevirtual 70, 3) := by decide +kernel
theorem dX9_readSponsor_22 : decode cX9_readSponsor 22 = .ok (.ifCond .ne 4, 3) := by decide +kernel
theorem dX9_readSponsor_25 : decode cX9_readSponsor 25 = .ok (.return_, 1) := by decide +kernel
theorem dX9_readSponsor_26 : decode cX9_readSponsor 26 = .ok (.sipush 607, 3) := by decide +kernel
theorem dX9_readSponsor_29 : decode cX9_readSponsor 29 = .ok (.iconst 2, 1) := by decide +kernel
theorem dX9_readSponsor_30 : decode cX9_readSponsor 30 = .ok (.aload_n 0, 1) := by decide +kernel
theorem dX9_readSponsor_31 : decode cX9_readSponsor 31 = .ok (.getfield 20, 3) := by decide +kernel
theorem dX9_readSponsor_34 : decode cX9_readSponsor 34 = .ok (.iconst 1, 1) := by decide +kernel
theorem dX9_readSponsor_35 : decode cX9_readSponsor 35 = .ok (.iaload, 1) := by decide +kernel
theorem dX9_readSponsor_36 : decode cX9_readSponsor 36 = .ok (.imul, 1) := by decide +kernel
theorem dX9_readSponsor_37 : decode cX9_readSponsor 37 = .ok (.iadd, 1) := by decide +kernel
theorem dX9_readSponsor_38 : decode cX9_readSponsor 38 = .ok (.istore_n 2, 1) := by decide +kernel
theorem dX9_readSponsor_39 : decode cX9_readSponsor 39 = .ok (.aload_n 0, 1) := by decide +kernel
theorem dX9_readSponsor_40 : decode cX9_readSponsor 40 = .ok (.getfield 20, 3) := by decide +kernel
theorem dX9_readSponsor_43 : decode cX9_readSponsor 43 = .ok (.iload_n 2, 1) := by decide +kernel
theorem dX9_readSponsor_44 : decode cX9_readSponsor 44 = .ok (.aload_n 0, 1) := by decide +kernel
theorem dX9_readSponsor_45 : decode cX9_readSponsor 45 = .ok (.iconst 0, 1) := by decide +kernel
theorem dX9_readSponsor_46 : decode cX9_readSponsor 46 = .ok (.bipush 9, 2) := by decide +kernel
theorem dX9_readSponsor_48 : decode cX9_readSponsor 48 = .ok (.invokevirtual 127, 3) := by decide +kernel
theorem dX9_readSponsor_51 : decode cX9_readSponsor 51 = .ok (.iastore, 1) := by decide +kernel
theorem dX9_readSponsor_52 : decode cX9_readSponsor 52 = .ok (.aload_n 0, 1) := by decide +kernel
theorem dX9_readSponsor_53 : decode cX9_readSponsor 53 = .ok (.getfield 20, 3) := by decide +kernel
theorem dX9_readSponsor_56 : decode cX9_readSponsor 56 = .ok (.iload_n 2, 1) := by decide +kernel
theorem dX9_readSponsor_57 : decode cX9_readSponsor 57 = .ok (.iconst 1, 1) := by decide +kernel
theorem dX9_readSponsor_58 : decode cX9_readSponsor 58 = .ok (.iadd, 1) := by decide +kernel
theorem dX9_readSponsor_59 : decode cX9_readSponsor 59 = .ok (.aload_n 0, 1) := by decide +kernel
theorem dX9_readSponsor_60 : decode cX9_readSponsor 60 = .ok (.iconst 1, 1) := by decide +kernel
theorem dX9_readSponsor_61 : decode cX9_readSponsor 61 = .ok (.bipush 9, 2) := by decide +kernel
theorem dX9_readSponsor_63 : decode cX9_readSponsor 63 = .ok (.invokevirtual 127, 3) := by decide +kernel
theorem dX9_readSponsor_66 : decode cX9_readSponsor 66 = .ok (.iastore, 1) := by decide +kernel
theorem dX9_readSponsor_67 : decode cX9_readSponsor 67 = .ok (.aload_n 0, 1) := by decide +kernel
theorem dX9_readSponsor_68 : decode cX9_readSponsor 68 = .ok (.getfield 20, 3) := by decide +kernel
theorem dX9_readSponsor_71 : decode cX9_readSponsor 71 = .ok (.iconst 1, 1) := by decide +kernel
theorem dX9_readSponsor_72 : decode cX9_readSponsor 72 = .ok (.dup2, 1) := by decide +kernel
theorem dX9_readSponsor_73 : decode cX9_readSponsor 73 = .ok (.iaload, 1) := by decide +kernel
theorem dX9_readSponsor_74 : decode cX9_readSponsor 74 = .ok (.iconst 1, 1) := by decide +kernel
theorem dX9_readSponsor_75 : decode cX9_readSponsor 75 = .ok (.iadd, 1) := by decide +kernel
theorem dX9_readSponsor_76 : decode cX9_readSponsor 76 = .ok (.iastore, 1) := by decide +kernel
theorem dX9_readSponsor_77 : decode cX9_readSponsor 77 = .ok (.return_, 1) := by decide +kernel
theorem dX9_readBan_0 : decode cX9_readBan 0 = .ok (.aload_n 0, 1) := by decide +kernel
theorem dX9_readBan_1 : decode cX9_readBan 1 = .ok (.getfield 20, 3) := by decide +kernel
theorem dX9_readBan_4 : decode cX9_readBan 4 = .ok (.iconst 2, 1) := by decide +kernel
theorem dX9_readBan_5 : decode cX9_readBan 5 = .ok (.iaload, 1) := by decide +kernel
theorem dX9_readBan_6 : decode cX9_readBan 6 = .ok (.bipush 10, 2) := by decide +kernel
theorem dX9_readBan_8 : decode cX9_readBan 8 = .ok (.if_icmp .ne 10, 3) := by decide +kernel
theorem dX9_readBan_11 : decode cX9_readBan 11 = .ok (.aload_n 0, 1) := by decide +kernel
theorem dX9_readBan_12 : decode cX9_readBan 12 = .ok (.bipush (-4), 2) := by decide +kernel
theorem dX9_readBan_14 : decode cX9_readBan 14 = .ok (.iload_n 1, 1) := by decide +kernel
theorem dX9_readBan_15 : decode cX9_readBan 15 = .ok (.invokevirtual 87, 3) := by decide +kernel
theorem dX9_readBan_18 : decode cX9_readBan 18 = .ok (.aload_n 0, 1) := by decide +kernel
theorem dX9_readBan_19 : decode cX9_readBan 19 = .ok (.iconst 0, 1) := by decide +kernel
theorem dX9_readBan_20 : decode cX9_readBan 20 = .ok (.bipush 9, 2) := by decide +kernel
theorem dX9_readBan_22 : decode cX9_readBan 22 = .ok (.invokevirtual 127, 3) := by decide +kernel
theorem dX9_readBan_25 : decode cX9_readBan 25 = .ok (.istore_n 2, 1) := by decide +kernel
theorem dX9_readBan_26 : decode cX9_readBan 26 = .ok (.aload_n 0, 1) := by decide +kernel
theorem dX9_readBan_27 : decode cX9_readBan 27 = .ok (.iconst 0, 1) := by decide +kernel
theorem dX9_readBan_28 : decode cX9_readBan 28 = .ok (.bipush 9, 2) := by decide +kernel
theorem dX9_readBan_30 : decode cX9_readBan 30 = .ok (.invokevirtual 127, 3) := by decide +kernel
theorem dX9_readBan_33 : decode cX9_readBan 33 = .ok (.istore_n 3, 1) := by decide +kernel
theorem dX9_readBan_34 : decode cX9_readBan 34 = .ok (.aload_n 0, 1) := by decide +kernel
theorem dX9_readBan_35 : decode cX9_readBan 35 = .ok (.invokevirtual 70, 3) := by decide +kernel
theorem dX9_readBan_38 : decode cX9_readBan 38 = .ok (.ifCond .ne 4, 3) := by decide +kernel
theorem dX9_readBan_41 : decode cX9_readBan 41 = .ok (.return_, 1) := by decide +kernel
theorem dX9_readBan_42 : decode cX9_readBan 42 = .ok (.aload_n 0, 1) := by decide +kernel
theorem dX9_readBan_43 : decode cX9_readBan 43 = .ok (.getfield 20, 3) := by decide +kernel
theorem dX9_readBan_46 : decode cX9_readBan 46 = .ok (.sipush 623, 3) := by decide +kernel
theorem dX9_readBan_49 : decode cX9_readBan 49 = .ok (.bipush 10, 2) := by decide +kernel
theorem dX9_readBan_51 : decode cX9_readBan 51 = .ok (.iload_n 2, 1) := by decide +kernel
theorem dX9_readBan_52 : decode cX9_readBan 52 = .ok (.imul, 1) := by decide +kernel
theorem dX9_readBan_53 : decode cX9_readBan 53 = .ok (.iadd, 1) := by decide +kernel
theorem dX9_readBan_54 : decode cX9_readBan 54 = .ok (.iload_n 3, 1) := by decide +kernel
theorem dX9_readBan_55 : decode cX9_readBan 55 = .ok (.iadd, 1) := by decide +kernel
theorem dX9_readBan_56 : decode cX9_readBan 56 = .ok (.iconst 1, 1) := by decide +kernel
theorem dX9_readBan_57 : decode cX9_readBan 57 = .ok (.iastore, 1) := by decide +kernel
theorem dX9_readBan_58 : decode cX9_readBan 58 = .ok (.aload_n 0, 1) := by decide +kernel
theorem dX9_readBan_59 : decode cX9_readBan 59 = .ok (.getfield 20, 3) := by decide +kernel
theorem dX9_readBan_62 : decode cX9_readBan 62 = .ok (.sipush 623, 3) := by decide +kernel
theorem dX9_readBan_65 : decode cX9_readBan 65 = .ok (.bipush 10, 2) := by decide +kernel
theorem dX9_readBan_67 : decode cX9_readBan 67 = .ok (.iload_n 3, 1) := by decide +kernel
theorem dX9_readBan_68 : decode cX9_readBan 68 = .ok (.imul, 1) := by decide +kernel
theorem dX9_readBan_69 : decode cX9_readBan 69 = .ok (.iadd, 1) := by decide +kernel
theorem dX9_readBan_70 : decode cX9_readBan 70 = .ok (.iload_n 2, 1) := by decide +kernel
theorem dX9_readBan_71 : decode cX9_readBan 71 = .ok (.iadd, 1) := by decide +kernel
theorem dX9_readBan_72 : decode cX9_readBan 72 = .ok (.iconst 1, 1) := by decide +kernel
theorem dX9_readBan_73 : decode cX9_readBan 73 = .ok (.iastore, 1) := by decide +kernel
theorem dX9_readBan_74 : decode cX9_readBan 74 = .ok (.aload_n 0, 1) := by decide +kernel
theorem dX9_readBan_75 : decode cX9_readBan 75 = .ok (.getfield 20, 3) := by decide +kernel
theorem dX9_readBan_78 : decode cX9_readBan 78 = .ok (.iconst 2, 1) := by decide +kernel
theorem dX9_readBan_79 : decode cX9_readBan 79 = .ok (.dup2, 1) := by decide +kernel
theorem dX9_readBan_80 : decode cX9_readBan 80 = .ok (.iaload, 1) := by decide +kernel
theorem dX9_readBan_81 : decode cX9_readBan 81 = .ok (.iconst 1, 1) := by decide +kernel
theorem dX9_readBan_82 : decode cX9_readBan 82 = .ok (.iadd, 1) := by decide +kernel
theorem dX9_readBan_83 : decode cX9_readBan 83 = .ok (.iastore, 1) := by decide +kernel
theorem dX9_readBan_84 : decode cX9_readBan 84 = .ok (.return_, 1) := by decide +kernel
theorem dX9_statement_0 : decode cX9_statement 0 = .ok (.aload_n 0, 1) := by decide +kernel
theorem dX9_statement_1 : decode cX9_statement 1 = .ok (.invokevirtual 74, 3) := by decide +kernel
theorem dX9_statement_4 : decode cX9_statement 4 = .ok (.pop, 1) := by decide +kernel
theorem dX9_statement_5 : decode cX9_statement 5 = .ok (.aload_n 0, 1) := by decide +kernel
theorem dX9_statement_6 : decode cX9_statement 6 = .ok (.getfield 54, 3) := by decide +kernel
theorem dX9_statement_9 : decode cX9_statement 9 = .ok (.istore_n 1, 1) := by decide +kernel
theorem dX9_statement_10 : decode cX9_statement 10 = .ok (.aload_n 0, 1) := by decide +kernel
theorem dX9_statement_11 : decode cX9_statement 11 = .ok (.ldc 146, 2) := by decide +kernel
theorem dX9_statement_13 : decode cX9_statement 13 = .ok (.invokevirtual 115, 3) := by decide +kernel
