theorem dX9_noSet_5 : decode cX9_noSet 5 = .ok (.getfield 17, 3) := by decide +kernel
theorem dX9_noSet_8 : decode cX9_noSet 8 = .ok (.iconst 1, 1) := by decide +kernel
theorem dX9_noSet_9 : decode cX9_noSet 9 = .ok (.iaload, 1) := by decide +kernel
theorem dX9_noSet_10 : decode cX9_noSet 10 = .ok (.ishl, 1) := by decide +kernel
theorem dX9_noSet_11 : decode cX9_noSet 11 = .ok (.iconst 1, 1) := by decide +kernel
theorem dX9_noSet_12 : decode cX9_noSet 12 = .ok (.isub, 1) := by decide +kernel
theorem dX9_noSet_13 : decode cX9_noSet 13 = .ok (.invokestatic 66, 3) := by decide +kernel
theorem dX9_noSet_16 : decode cX9_noSet 16 = .ok (.ifCond .ne 7, 3) := by decide +kernel
theorem dX9_noSet_19 : decode cX9_noSet 19 = .ok (.iconst 1, 1) := by decide +kernel
theorem dX9_noSet_20 : decode cX9_noSet 20 = .ok (.goto 4, 3) := by decide +kernel
theorem dX9_noSet_23 : decode cX9_noSet 23 = .ok (.iconst 0, 1) := by decide +kernel
theorem dX9_noSet_24 : decode cX9_noSet 24 = .ok (.iconst 1, 1) := by decide +kernel
theorem dX9_noSet_25 : decode cX9_noSet 25 = .ok (.invokevirtual 166, 3) := by decide +kernel
theorem dX9_noSet_28 : decode cX9_noSet 28 = .ok (.ireturn, 1) := by decide +kernel
theorem dX9_arrangements_0 : decode cX9_arrangements 0 = .ok (.aload_n 0, 1) := by decide +kernel
theorem dX9_arrangements_1 : decode cX9_arrangements 1 = .ok (.iconst 0, 1) := by decide +kernel
theorem dX9_arrangements_2 : decode cX9_arrangements 2 = .ok (.putfield 41, 3) := by decide +kernel
theorem dX9_arrangements_5 : decode cX9_arrangements 5 = .ok (.aload_n 0, 1) := by decide +kernel
theorem dX9_arrangements_6 : decode cX9_arrangements 6 = .ok (.iload_n 1, 1) := by decide +kernel
theorem dX9_arrangements_7 : decode cX9_arrangements 7 = .ok (.invokevirtual 250, 3) := by decide +kernel
theorem dX9_arrangements_10 : decode cX9_arrangements 10 = .ok (.ifCond .eq 5, 3) := by decide +kernel
theorem dX9_arrangements_13 : decode cX9_arrangements 13 = .ok (.iconst 0, 1) := by decide +kernel
theorem dX9_arrangements_14 : decode cX9_arrangements 14 = .ok (.ireturn, 1) := by decide +kernel
theorem dX9_arrangements_15 : decode cX9_arrangements 15 = .ok (.aload_n 0, 1) := by decide +kernel
theorem dX9_arrangements_16 : decode cX9_arrangements 16 = .ok (.invokevirtual 253, 3) := by decide +kernel
theorem dX9_arrangements_19 : decode cX9_arrangements 19 = .ok (.aload_n 0, 1) := by decide +kernel
theorem dX9_arrangements_20 : decode cX9_arrangements 20 = .ok (.iload_n 1, 1) := by decide +kernel
theorem dX9_arrangements_21 : decode cX9_arrangements 21 = .ok (.invokevirtual 256, 3) := by decide +kernel
theorem dX9_arrangements_24 : decode cX9_arrangements 24 = .ok (.ireturn, 1) := by decide +kernel
theorem dX9_arranged_0 : decode cX9_arranged 0 = .ok (.aload_n 0, 1) := by decide +kernel
theorem dX9_arranged_1 : decode cX9_arranged 1 = .ok (.iconst 0, 1) := by decide +kernel
theorem dX9_arranged_2 : decode cX9_arranged 2 = .ok (.putfield 41, 3) := by decide +kernel
theorem dX9_arranged_5 : decode cX9_arranged 5 = .ok (.iconst 0, 1) := by decide +kernel
theorem dX9_arranged_6 : decode cX9_arranged 6 = .ok (.istore_n 3, 1) := by decide +kernel
theorem dX9_arranged_7 : decode cX9_arranged 7 = .ok (.iconst 0, 1) := by decide +kernel
theorem dX9_arranged_8 : decode cX9_arranged 8 = .ok (.istore 4, 2) := by decide +kernel
theorem dX9_arranged_10 : decode cX9_arranged 10 = .ok (.iload 4, 2) := by decide +kernel
theorem dX9_arranged_12 : decode cX9_arranged 12 = .ok (.bipush 8, 2) := by decide +kernel
theorem dX9_arranged_14 : decode cX9_arranged 14 = .ok (.if_icmp .ge 18, 3) := by decide +kernel
theorem dX9_arranged_17 : decode cX9_arranged 17 = .ok (.iload_n 3, 1) := by decide +kernel
theorem dX9_arranged_18 : decode cX9_arranged 18 = .ok (.iload_n 1, 1) := by decide +kernel
theorem dX9_arranged_19 : decode cX9_arranged 19 = .ok (.iload 4, 2) := by decide +kernel
theorem dX9_arranged_21 : decode cX9_arranged 21 = .ok (.ishr, 1) := by decide +kernel
theorem dX9_arranged_22 : decode cX9_arranged 22 = .ok (.iconst 1, 1) := by decide +kernel
theorem dX9_arranged_23 : decode cX9_arranged 23 = .ok (.iand, 1) := by decide +kernel
theorem dX9_arranged_24 : decode cX9_arranged 24 = .ok (.iadd, 1) := by decide +kernel
theorem dX9_arranged_25 : decode cX9_arranged 25 = .ok (.istore_n 3, 1) := by decide +kernel
theorem dX9_arranged_26 : decode cX9_arranged 26 = .ok (.iinc 4 1, 3) := by decide +kernel
theorem dX9_arranged_29 : decode cX9_arranged 29 = .ok (.goto (-19), 3) := by decide +kernel
theorem dX9_arranged_32 : decode cX9_arranged 32 = .ok (.aload_n 0, 1) := by decide +kernel
theorem dX9_arranged_33 : decode cX9_arranged 33 = .ok (.iload_n 1, 1) := by decide +kernel
theorem dX9_arranged_34 : decode cX9_arranged 34 = .ok (.invokevirtual 250, 3) := by decide +kernel
theorem dX9_arranged_37 : decode cX9_arranged 37 = .ok (.ifCond .ne 27, 3) := by decide +kernel
theorem dX9_arranged_40 : decode cX9_arranged 40 = .ok (.aload_n 0, 1) := by decide +kernel
theorem dX9_arranged_41 : decode cX9_arranged 41 = .ok (.iload_n 2, 1) := by decide +kernel
theorem dX9_arranged_42 : decode cX9_arranged 42 = .ok (.iconst 0, 1) := by decide +kernel
theorem dX9_arranged_43 : decode cX9_arranged 43 = .ok (.iload_n 3, 1) := by decide +kernel
theorem dX9_arranged_44 : decode cX9_arranged 44 = .ok (.iconst 1, 1) := by decide +kernel
theorem dX9_arranged_45 : decode cX9_arranged 45 = .ok (.isub, 1) := by decide +kernel
theorem dX9_arranged_46 : decode cX9_arranged 46 = .ok (.invokestatic 66, 3) := by decide +kernel
theorem dX9_arranged_49 : decode cX9_arranged 49 = .ok (.ifCond .ne 7, 3) := by decide +kernel
theorem dX9_arranged_52 : decode cX9_arranged 52 = .ok (.iconst 1, 1) := by decide +kernel
theorem dX9_arranged_53 : decode cX9_arranged 53 = .ok (.goto 4, 3) := by decide +kernel
theorem dX9_arranged_56 : decode cX9_arranged 56 = .ok (.iconst 0, 1) := by decide +kernel
theorem dX9_arranged_57 : decode cX9_arranged 57 = .ok (.iconst 2, 1) := by decide +kernel
theorem dX9_arranged_58 : decode cX9_arranged 58 = .ok (.invokevirtual 166, 3) := by decide +kernel
theorem dX9_arranged_61 : decode cX9_arranged 61 = .ok (.ifCond .eq 5, 3) := by decide +kernel
theorem dX9_arranged_64 : decode cX9_arranged 64 = .ok (.iconst 0, 1) := by decide +kernel
theorem dX9_arranged_65 : decode cX9_arranged 65 = .ok (.ireturn, 1) := by decide +kernel
theorem dX9_arranged_66 : decode cX9_arranged 66 = .ok (.aload_n 0, 1) := by decide +kernel
theorem dX9_arranged_67 : decode cX9_arranged 67 = .ok (.invokevirtual 253, 3) := by decide +kernel
theorem dX9_arranged_70 : decode cX9_arranged 70 = .ok (.aload_n 0, 1) := by decide +kernel
theorem dX9_arranged_71 : decode cX9_arranged 71 = .ok (.iload_n 1, 1) := by decide +kernel
theorem dX9_arranged_72 : decode cX9_arranged 72 = .ok (.invokevirtual 256, 3) := by decide +kernel
theorem dX9_arranged_75 : decode cX9_arranged 75 = .ok (.ifCond .ne 5, 3) := by decide +kernel
theorem dX9_arranged_78 : decode cX9_arranged 78 = .ok (.iconst (-1), 1) := by decide +kernel
theorem dX9_arranged_79 : decode cX9_arranged 79 = .ok (.ireturn, 1) := by decide +kernel
theorem dX9_arranged_80 : decode cX9_arranged 80 = .ok (.aload_n 0, 1) := by decide +kernel
theorem dX9_arranged_81 : decode cX9_arranged 81 = .ok (.iload_n 1, 1) := by decide +kernel
theorem dX9_arranged_82 : decode cX9_arranged 82 = .ok (.invokevirtual 259, 3) := by decide +kernel
theorem dX9_arranged_85 : decode cX9_arranged 85 = .ok (.aload_n 0, 1) := by decide +kernel
theorem dX9_arranged_86 : decode cX9_arranged 86 = .ok (.getfield 35, 3) := by decide +kernel
theorem dX9_arranged_89 : decode cX9_arranged 89 = .ok (.iload_n 2, 1) := by decide +kernel
theorem dX9_arranged_90 : decode cX9_arranged 90 = .ok (.iaload, 1) := by decide +kernel
theorem dX9_arranged_91 : decode cX9_arranged 91 = .ok (.ireturn, 1) := by decide +kernel
theorem dX9_remember_0 : decode cX9_remember 0 = .ok (.aload_n 0, 1) := by decide +kernel
theorem dX9_remember_1 : decode cX9_remember 1 = .ok (.getfield 262, 3) := by decide +kernel
theorem dX9_remember_4 : decode cX9_remember 4 = .ok (.bipush 8, 2) := by decide +kernel
theorem dX9_remember_6 : decode cX9_remember 6 = .ok (.if_icmp .ne 44, 3) := by decide +kernel
theorem dX9_remember_9 : decode cX9_remember 9 = .ok (.iconst 1, 1) := by decide +kernel
theorem dX9_remember_10 : decode cX9_remember 10 = .ok (.istore_n 1, 1) := by decide +kernel
theorem dX9_remember_11 : decode cX9_remember 11 = .ok (.iload_n 1, 1) := by decide +kernel
theorem dX9_remember_12 : decode cX9_remember 12 = .ok (.bipush 8, 2) := by decide +kernel
theorem dX9_remember_14 : decode cX9_remember 14 = .ok (.if_icmp .ge 26, 3) := by decide +kernel
theorem dX9_remember_17 : decode cX9_remember 17 = .ok (.aload_n 0, 1) := by decide +kernel
theorem dX9_remember_18 : decode cX9_remember 18 = .ok (.getfield 25, 3) := by decide +kernel
theorem dX9_remember_21 : decode cX9_remember 21 = .ok (.iload_n 1, 1) := by decide +kernel
theorem dX9_remember_22 : decode cX9_remember 22 = .ok (.aaload, 1) := by decide +kernel
theorem dX9_remember_23 : decode cX9_remember 23 = .ok (.aload_n 0, 1) := by decide +kernel
theorem dX9_remember_24 : decode cX9_remember 24 = .ok (.getfield 25, 3) := by decide +kernel
theorem dX9_remember_27 : decode cX9_remember 27 = .ok (.iload_n 1, 1) := by decide +kernel
theorem dX9_remember_28 : decode cX9_remember 28 = .ok (.iconst 1, 1) := by decide +kernel
theorem dX9_remember_29 : decode cX9_remember 29 = .ok (.isub, 1) := by decide +kernel
theorem dX9_remember_30 : decode cX9_remember 30 = .ok (.aaload, 1) := by decide +kernel
theorem dX9_remember_31 : decode cX9_remember 31 = .ok (.invokestatic 181, 3) := by decide +kernel
theorem dX9_remember_34 : decode cX9_remember 34 = .ok (.iinc 1 1, 3) := by decide +kernel
theorem dX9_remember_37 : decode cX9_remember 37 = .ok (.goto (-26), 3) := by decide +kernel
theorem dX9_remember_40 : decode cX9_remember 40 = .ok (.aload_n 0, 1) := by decide +kernel
theorem dX9_remember_41 : decode cX9_remember 41 = .ok (.dup, 1) := by decide +kernel
theorem dX9_remember_42 : decode cX9_remember 42 = .ok (.getfield 262, 3) := by decide +kernel
theorem dX9_remember_45 : decode cX9_remember 45 = .ok (.iconst 1, 1) := by decide +kernel
theorem dX9_remember_46 : decode cX9_remember 46 = .ok (.isub, 1) := by decide +kernel
theorem dX9_remember_47 : decode cX9_remember 47 = .ok (.putfield 262, 3) := by decide +kernel
theorem dX9_remember_50 : decode cX9_remember 50 = .ok (.aload_n 0, 1) := by decide +kernel
theorem dX9_remember_51 : decode cX9_remember 51 = .ok (.getfield 17, 3) := by decide +kernel
theorem dX9_remember_54 : decode cX9_remember 54 = .ok (.aload_n 0, 1) := by decide +kernel
theorem dX9_remember_55 : decode cX9_remember 55 = .ok (.getfield 25, 3) := by decide +kernel
theorem dX9_remember_58 : decode cX9_remember 58 = .ok (.aload_n 0, 1) := by decide +kernel
theorem dX9_remember_59 : decode cX9_remember 59 = .ok (.getfield 262, 3) := by decide +kernel
theorem dX9_remember_62 : decode cX9_remember 62 = .ok (.aaload, 1) := by decide +kernel
theorem dX9_remember_63 : decode cX9_remember 63 = .ok (.invokestatic 181, 3) := by decide +kernel
theorem dX9_remember_66 : decode cX9_remember 66 = .ok (.aload_n 0, 1) := by decide +kernel
theorem dX9_remember_67 : decode cX9_remember 67 = .ok (.dup, 1) := by decide +kernel
theorem dX9_remember_68 : decode cX9_remember 68 = .ok (.getfield 262, 3) := by decide +kernel
theorem dX9_remember_71 : decode cX9_remember 71 = .ok (.iconst 1, 1) := by decide +kernel
theorem dX9_remember_72 : decode cX9_remember 72 = .ok (.iadd, 1) := by decide +kernel
theorem dX9_remember_73 : decode cX9_remember 73 = .ok (.putfield 262, 3) := by decide +kernel
theorem dX9_remember_76 : decode cX9_remember 76 = .ok (.return_, 1) := by decide +kernel
theorem dX9_books_0 : decode cX9_books 0 = .ok (.aload_n 0, 1) := by decide +kernel
theorem dX9_books_1 : decode cX9_books 1 = .ok (.iload_n 1, 1) := by decide +kernel
theorem dX9_books_2 : decode cX9_books 2 = .ok (.iload_n 3, 1) := by decide +kernel
theorem dX9_books_3 : decode cX9_books 3 = .ok (.invokevirtual 205, 3) := by decide +kernel
theorem dX9_books_6 : decode cX9_books 6 = .ok (.istore 4, 2) := by decide +kernel
theorem dX9_books_8 : decode cX9_books 8 = .ok (.aload_n 0, 1) := by decide +kernel
theorem dX9_books_9 : decode cX9_books 9 = .ok (.iload_n 1, 1) := by decide +kernel
theorem dX9_books_10 : decode cX9_books 10 = .ok (.iload_n 2, 1) := by decide +kernel
theorem dX9_books_11 : decode cX9_books 11 = .ok (.iload_n 3, 1) := by decide +kernel
theorem dX9_books_12 : decode cX9_books 12 = .ok (.invokevirtual 229, 3) := by decide +kernel
theorem dX9_books_15 : decode cX9_books 15 = .ok (.istore 5, 2) := by decide +kernel
theorem dX9_books_17 : decode cX9_books 17 = .ok (.aload_n 0, 1) := by decide +kernel
theorem dX9_books_18 : decode cX9_books 18 = .ok (.iload_n 3, 1) := by decide +kernel
theorem dX9_books_19 : decode cX9_books 19 = .ok (.iload 4, 2) := by decide +kernel
theorem dX9_books_21 : decode cX9_books 21 = .ok (.iload_n 1, 1) := by decide +kernel
theorem dX9_books_22 : decode cX9_books 22 = .ok (.iload_n 2, 1) := by decide +kernel
theorem dX9_books_23 : decode cX9_books 23 = .ok (.iload 5, 2) := by decide +kernel
theorem dX9_books_25 : decode cX9_books 25 = .ok (.invokevirtual 265, 3) := by decide +kernel
theorem dX9_books_28 : decode cX9_books 28 = .ok (.aload_n 0, 1) := by decide +kernel
theorem dX9_books_29 : decode cX9_books 29 = .ok (.getfield 17, 3) := by decide +kernel
theorem dX9_books_32 : decode cX9_books 32 = .ok (.bipush 6, 2) := by decide +kernel
theorem dX9_books_34 : decode cX9_books 34 = .ok (.dup2, 1) := by decide +kernel
theorem dX9_books_35 : decode cX9_books 35 = .ok (.iaload, 1) := by decide +kernel
theorem dX9_books_36 : decode cX9_books 36 = .ok (.iload 5, 2) := by decide +kernel
theorem dX9_books_38 : decode cX9_books 38 = .ok (.iadd, 1) := by decide +kernel
theorem dX9_books_39 : decode cX9_books 39 = .ok (.iastore, 1) := by decide +kernel
theorem dX9_books_40 : decode cX9_books 40 = .ok (.iload 4, 2) := by decide +kernel
theorem dX9_books_42 : decode cX9_books 42 = .ok (.ireturn, 1) := by decide +kernel
theorem dX9_book_0 : decode cX9_book 0 = .ok (.aload_n 0, 1) := by decide +kernel
theorem dX9_book_1 : decode cX9_book 1 = .ok (.iconst 0, 1) := by decide +kernel
theorem dX9_book_2 : decode cX9_book 2 = .ok (.putfield 41, 3) := by decide +kernel
theorem dX9_book_5 : decode cX9_book 5 = .ok (.aload_n 0, 1) := by decide +kernel
theorem dX9_book_6 : decode cX9_book 6 = .ok (.iload_n 1, 1) := by decide +kernel
theorem dX9_book_7 : decode cX9_book 7 = .ok (.iload_n 2, 1) := by decide +kernel
theorem dX9_book_8 : decode cX9_book 8 = .ok (.iload_n 3, 1) := by decide +kernel
theorem dX9_book_9 : decode cX9_book 9 = .ok (.invokevirtual 244, 3) := by decide +kernel
theorem dX9_book_12 : decode cX9_book 12 = .ok (.ifCond .eq 5, 3) := by decide +kernel
theorem dX9_book_15 : decode cX9_book 15 = .ok (.iconst 0, 1) := by decide +kernel
theorem dX9_book_16 : decode cX9_book 16 = .ok (.ireturn, 1) := by decide +kernel
theorem dX9_book_17 : decode cX9_book 17 = .ok (.aload_n 0, 1) := by decide +kernel
theorem dX9_book_18 : decode cX9_book 18 = .ok (.invokevirtual 178, 3) := by decide +kernel
theorem dX9_book_21 : decode cX9_book 21 = .ok (.aload_n 0, 1) := by decide +kernel
theorem dX9_book_22 : decode cX9_book 22 = .ok (.iload_n 1, 1) := by decide +kernel
theorem dX9_book_23 : decode cX9_book 23 = .ok (.iload_n 2, 1) := by decide +kernel
theorem dX9_book_24 : decode cX9_book 24 = .ok (.iload_n 3, 1) := by decide +kernel
theorem dX9_book_25 : decode cX9_book 25 = .ok (.invokevirtual 225, 3) := by decide +kernel
theorem dX9_book_28 : decode cX9_book 28 = .ok (.istore 4, 2) := by decide +kernel
theorem dX9_book_30 : decode cX9_book 30 = .ok (.iload 4, 2) := by decide +kernel
theorem dX9_book_32 : decode cX9_book 32 = .ok (.ifCond .le 9, 3) := by decide +kernel
theorem dX9_book_35 : decode cX9_book 35 = .ok (.iload 4, 2) := by decide +kernel
theorem dX9_book_37 : decode cX9_book 37 = .ok (.ineg, 1) := by decide +kernel
theorem dX9_book_38 : decode cX9_book 38 = .ok (.goto 10, 3) := by decide +kernel
theorem dX9_book_41 : decode cX9_book 41 = .ok (.aload_n 0, 1) := by decide +kernel
theorem dX9_book_42 : decode cX9_book 42 = .ok (.iload_n 1, 1) := by decide +kernel
theorem dX9_book_43 : decode cX9_book 43 = .ok (.iload_n 2, 1) := by decide +kernel
theorem dX9_book_44 : decode cX9_book 44 = .ok (.iload_n 3, 1) := by decide +kernel
theorem dX9_book_45 : decode cX9_book 45 = .ok (.invokevirtual 269, 3) := by decide +kernel
theorem dX9_book_48 : decode cX9_book 48 = .ok (.ireturn, 1) := by decide +kernel
theorem dX9_setOf_0 : decode cX9_setOf 0 = .ok (.iconst 0, 1) := by decide +kernel
theorem dX9_setOf_1 : decode cX9_setOf 1 = .ok (.istore_n 2, 1) := by decide +kernel
theorem dX9_setOf_2 : decode cX9_setOf 2 = .ok (.iconst 0, 1) := by decide +kernel
theorem dX9_setOf_3 : decode cX9_setOf 3 = .ok (.istore_n 3, 1) := by decide +kernel
theorem dX9_setOf_4 : decode cX9_setOf 4 = .ok (.iload_n 3, 1) := by decide +kernel
theorem dX9_setOf_5 : decode cX9_setOf 5 = .ok (.aload_n 0, 1) := by decide +kernel
theorem dX9_setOf_6 : decode cX9_setOf 6 = .ok (.iload_n 1, 1) := by decide +kernel
theorem dX9_setOf_7 : decode cX9_setOf 7 = .ok (.invokevirtual 185, 3) := by decide +kernel
theorem dX9_setOf_10 : decode cX9_setOf 10 = .ok (.if_icmp .ge 24, 3) := by decide +kernel
theorem dX9_setOf_13 : decode cX9_setOf 13 = .ok (.iload_n 2, 1) := by decide +kernel
theorem dX9_setOf_14 : decode cX9_setOf 14 = .ok (.iconst 1, 1) := by decide +kernel
theorem dX9_setOf_15 : decode cX9_setOf 15 = .ok (.aload_n 0, 1) := by decide +kernel
theorem dX9_setOf_16 : decode cX9_setOf 16 = .ok (.getfield 17, 3) := by decide +kernel
theorem dX9_setOf_19 : decode cX9_setOf 19 = .ok (.iload_n 1, 1) := by decide +kernel
theorem dX9_setOf_20 : decode cX9_setOf 20 = .ok (.iload_n 3, 1) := by decide +kernel
theorem dX9_setOf_21 : decode cX9_setOf 21 = .ok (.invokestatic 188, 3) := by decide +kernel
theorem dX9_setOf_24 : decode cX9_setOf 24 = .ok (.iaload, 1) := by decide +kernel
theorem dX9_setOf_25 : decode cX9_setOf 25 = .ok (.ishl, 1) := by decide +kernel
theorem dX9_setOf_26 : decode cX9_setOf 26 = .ok (.ior, 1) := by decide +kernel
theorem dX9_setOf_27 : decode cX9_setOf 27 = .ok (.istore_n 2, 1) := by decide +kernel
theorem dX9_setOf_28 : decode cX9_setOf 28 = .ok (.iinc 3 1, 3) := by decide +kernel
theorem dX9_setOf_31 : decode cX9_setOf 31 = .ok (.goto (-27), 3) := by decide +kernel
theorem dX9_setOf_34 : decode cX9_setOf 34 = .ok (.iload_n 2, 1) := by decide +kernel
theorem dX9_setOf_35 : decode cX9_setOf 35 = .ok (.ireturn, 1) := by decide +kernel
theorem dX9_reorder_0 : decode cX9_reorder 0 = .ok (.aload_n 0, 1) := by decide +kernel
theorem dX9_reorder_1 : decode cX9_reorder 1 = .ok (.iload_n 1, 1) := by decide +kernel
theorem dX9_reorder_2 : decode cX9_reorder 2 = .ok (.invokevirtual 185, 3) := by decide +kernel
theorem dX9_reorder_5 : decode cX9_reorder 5 = .ok (.istore_n 3, 1) := by decide +kernel
theorem dX9_reorder_6 : decode cX9_reorder 6 = .ok (.iconst (-1), 1) := by decide +kernel
theorem dX9_reorder_7 : decode cX9_reorder 7 = .ok (.istore 4, 2) := by decide +kernel
theorem dX9_reorder_9 : decode cX9_reorder 9 = .ok (.iconst 0, 1) := by decide +kernel
theorem dX9_reorder_10 : decode cX9_reorder 10 = .ok (.istore 5, 2) := by decide +kernel
theorem dX9_reorder_12 : decode cX9_reorder 12 = .ok (.iload 5, 2) := by decide +kernel
theorem dX9_reorder_14 : decode cX9_reorder 14 = .ok (.iload_n 3, 1) := by decide +kernel
theorem dX9_reorder_15 : decode cX9_reorder 15 = .ok (.if_icmp .ge 100, 3) := by decide +kernel
theorem dX9_reorder_18 : decode cX9_reorder 18 = .ok (.iconst 0, 1) := by decide +kernel
theorem dX9_reorder_19 : decode cX9_reorder 19 = .ok (.istore 6, 2) := by decide +kernel
theorem dX9_reorder_21 : decode cX9_reorder 21 = .ok (.aload_n 0, 1) := by decide +kernel
theorem dX9_reorder_22 : decode cX9_reorder 22 = .ok (.getfield 17, 3) := by decide +kernel
theorem dX9_reorder_25 : decode cX9_reorder 25 = .ok (.iload_n 1, 1) := by decide +kernel
theorem dX9_reorder_26 : decode cX9_reorder 26 = .ok (.iload 6, 2) := by decide +kernel
theorem dX9_reorder_28 : decode cX9_reorder 28 = .ok (.invokestatic 188, 3) := by decide +kernel
theorem dX9_reorder_31 : decode cX9_reorder 31 = .ok (.iaload, 1) := by decide +kernel
theorem dX9_reorder_32 : decode cX9_reorder 32 = .ok (.aload_n 0, 1) := by decide +kernel
theorem dX9_reorder_33 : decode cX9_reorder 33 = .ok (.getfield 35, 3) := by decide +kernel
theorem dX9_reorder_36 : decode cX9_reorder 36 = .ok (.iload 5, 2) := by decide +kernel
theorem dX9_reorder_38 : decode cX9_reorder 38 = .ok (.iaload, 1) := by decide +kernel
theorem dX9_reorder_39 : decode cX9_reorder 39 = .ok (.if_icmp .eq 9, 3) := by decide +kernel
theorem dX9_reorder_42 : decode cX9_reorder 42 = .ok (.iinc 6 1, 3) := by decide +kernel
theorem dX9_reorder_45 : decode cX9_reorder 45 = .ok (.goto (-24), 3) := by decide +kernel
theorem dX9_reorder_48 : decode cX9_reorder 48 = .ok (.iconst 0, 1) := by decide +kernel
theorem dX9_reorder_49 : decode cX9_reorder 49 = .ok (.istore 7, 2) := by decide +kernel
theorem dX9_reorder_51 : decode cX9_reorder 51 = .ok (.iload 7, 2) := by decide +kernel
theorem dX9_reorder_53 : decode cX9_reorder 53 = .ok (.iconst 3, 1) := by decide +kernel
theorem dX9_reorder_54 : decode cX9_reorder 54 = .ok (.if_icmp .ge 35, 3) := by decide +kernel
theorem dX9_reorder_57 : decode cX9_reorder 57 = .ok (.aload_n 0, 1) := by decide +kernel
theorem dX9_reorder_58 : decode cX9_reorder 58 = .ok (.getfield 38, 3) := by decide +kernel
theorem dX9_reorder_61 : decode cX9_reorder 61 = .ok (.iconst 3, 1) := by decide +kernel
theorem dX9_reorder_62 : decode cX9_reorder 62 = .ok (.iload 5, 2) := by decide +kernel
theorem dX9_reorder_64 : decode cX9_reorder 64 = .ok (.imul, 1) := by decide +kernel
theorem dX9_reorder_65 : decode cX9_reorder 65 = .ok (.iload 7, 2) := by decide +kernel
theorem dX9_reorder_67 : decode cX9_reorder 67 = .ok (.iadd, 1) := by decide +kernel
theorem dX9_reorder_68 : decode cX9_reorder 68 = .ok (.aload_n 0, 1) := by decide +kernel
theorem dX9_reorder_69 : decode cX9_reorder 69 = .ok (.getfield 17, 3) := by decide +kernel
theorem dX9_reorder_72 : decode cX9_reorder 72 = .ok (.iload_n 1, 1) := by decide +kernel
theorem dX9_reorder_73 : decode cX9_reorder 73 = .ok (.iload 6, 2) := by decide +kernel
theorem dX9_reorder_75 : decode cX9_reorder 75 = .ok (.invokestatic 188, 3) := by decide +kernel
theorem dX9_reorder_78 : decode cX9_reorder 78 = .ok (.iload 7, 2) := by decide +kernel
theorem dX9_reorder_80 : decode cX9_reorder 80 = .ok (.iadd, 1) := by decide +kernel
theorem dX9_reorder_81 : decode cX9_reorder 81 = .ok (.iaload, 1) := by decide +kernel
theorem dX9_reorder_82 : decode cX9_reorder 82 = .ok (.iastore, 1) := by decide +kernel
theorem dX9_reorder_83 : decode cX9_reorder 83 = .ok (.iinc 7 1, 3) := by decide +kernel
theorem dX9_reorder_86 : decode cX9_reorder 86 = .ok (.goto (-35), 3) := by decide +kernel
theorem dX9_reorder_89 : decode cX9_reorder 89 = .ok (.aload_n 0, 1) := by decide +kernel
theorem dX9_reorder_90 : decode cX9_reorder 90 = .ok (.getfield 35, 3) := by decide +kernel
theorem dX9_reorder_93 : decode cX9_reorder 93 = .ok (.iload 5, 2) := by decide +kernel
theorem dX9_reorder_95 : decode cX9_reorder 95 = .ok (.iaload, 1) := by decide +kernel
theorem dX9_reorder_96 : decode cX9_reorder 96 = .ok (.iload_n 2, 1) := by decide +kernel
theorem dX9_reorder_97 : decode cX9_reorder 97 = .ok (.if_icmp .ne 8, 3) := by decide +kernel
theorem dX9_reorder_100 : decode cX9_reorder 100 = .ok (.iload 5, 2) := by decide +kernel
theorem dX9_reorder_102 : decode cX9_reorder 102 = .ok (.goto 5, 3) := by decide +kernel
theorem dX9_reorder_105 : decode cX9_reorder 105 = .ok (.iload 4, 2) := by decide +kernel
theorem dX9_reorder_107 : decode cX9_reorder 107 = .ok (.istore 4, 2) := by decide +kernel
theorem dX9_reorder_109 : decode cX9_reorder 109 = .ok (.iinc 5 1, 3) := by decide +kernel
theorem dX9_reorder_112 : decode cX9_reorder 112 = .ok (.goto (-100), 3) := by decide +kernel
theorem dX9_reorder_115 : decode cX9_reorder 115 = .ok (.iconst 0, 1) := by decide +kernel
theorem dX9_reorder_116 : decode cX9_reorder 116 = .ok (.istore 5, 2) := by decide +kernel
theorem dX9_reorder_118 : decode cX9_reorder 118 = .ok (.iload 5, 2) := by decide +kernel
theorem dX9_reorder_120 : decode cX9_reorder 120 = .ok (.iconst 3, 1) := by decide +kernel
theorem dX9_reorder_121 : decode cX9_reorder 121 = .ok (.iload_n 3, 1) := by decide +kernel
theorem dX9_reorder_122 : decode cX9_reorder 122 = .ok (.imul, 1) := by decide +kernel
theorem dX9_reorder_123 : decode cX9_reorder 123 = .ok (.if_icmp .ge 29, 3) := by decide +kernel
theorem dX9_reorder_126 : decode cX9_reorder 126 = .ok (.aload_n 0, 1) := by decide +kernel
theorem dX9_reorder_127 : decode cX9_reorder 127 = .ok (.getfield 17, 3) := by decide +kernel
theorem dX9_reorder_130 : decode cX9_reorder 130 = .ok (.iload_n 1, 1) := by decide +kernel
theorem dX9_reorder_131 : decode cX9_reorder 131 = .ok (.iconst 0, 1) := by decide +kernel
theorem dX9_reorder_132 : decode cX9_reorder 132 = .ok (.invokestatic 188, 3) := by decide +kernel
theorem dX9_reorder_135 : decode cX9_reorder 135 = .ok (.iload 5, 2) := by decide +kernel
theorem dX9_reorder_137 : decode cX9_reorder 137 = .ok (.iadd, 1) := by decide +kernel
theorem dX9_reorder_138 : decode cX9_reorder 138 = .ok (.aload_n 0, 1) := by decide +kernel
theorem dX9_reorder_139 : decode cX9_reorder 139 = .ok (.getfield 38, 3) := by decide +kernel
theorem dX9_reorder_142 : decode cX9_reorder 142 = .ok (.iload 5, 2) := by decide +kernel
theorem dX9_reorder_144 : decode cX9_reorder 144 = .ok (.iaload, 1) := by decide +kernel
theorem dX9_reorder_145 : decode cX9_reorder 145 = .ok (.iastore, 1) := by decide +kernel
theorem dX9_reorder_146 : decode cX9_reorder 146 = .ok (.iinc 5 1, 3) := by decide +kernel
theorem dX9_reorder_149 : decode cX9_reorder 149 = .ok (.goto (-31), 3) := by decide +kernel
theorem dX9_reorder_152 : decode cX9_reorder 152 = .ok (.iload 4, 2) := by decide +kernel
theorem dX9_reorder_154 : decode cX9_reorder 154 = .ok (.ireturn, 1) := by decide +kernel
theorem dX9_bookAnyhow_0 : decode cX9_bookAnyhow 0 = .ok (.aload_n 0, 1) := by decide +kernel
theorem dX9_bookAnyhow_1 : decode cX9_bookAnyhow 1 = .ok (.iconst 0, 1) := by decide +kernel
theorem dX9_bookAnyhow_2 : decode cX9_bookAnyhow 2 = .ok (.putfield 41, 3) := by decide +kernel
theorem dX9_bookAnyhow_5 : decode cX9_bookAnyhow 5 = .ok (.aload_n 0, 1) := by decide +kernel
theorem dX9_bookAnyhow_6 : decode cX9_bookAnyhow 6 = .ok (.iload_n 1, 1) := by decide +kernel
theorem dX9_bookAnyhow_7 : decode cX9_bookAnyhow 7 = .ok (.iload_n 2, 1) := by decide +kernel
theorem dX9_bookAnyhow_8 : decode cX9_bookAnyhow 8 = .ok (.iload_n 3, 1) := by decide +kernel
theorem dX9_bookAnyhow_9 : decode cX9_bookAnyhow 9 = .ok (.invokevirtual 244, 3) := by decide +kernel
theorem dX9_bookAnyhow_12 : decode cX9_bookAnyhow 12 = .ok (.ifCond .eq 5, 3) := by decide +kernel
theorem dX9_bookAnyhow_15 : decode cX9_bookAnyhow 15 = .ok (.iconst 0, 1) := by decide +kernel
theorem dX9_bookAnyhow_16 : decode cX9_bookAnyhow 16 = .ok (.ireturn, 1) := by decide +kernel
theorem dX9_bookAnyhow_17 : decode cX9_bookAnyhow 17 = .ok (.aload_n 0, 1) := by decide +kernel
theorem dX9_bookAnyhow_18 : decode cX9_bookAnyhow 18 = .ok (.invokevirtual 178, 3) := by decide +kernel
theorem dX9_bookAnyhow_21 : decode cX9_bookAnyhow 21 = .ok (.aload_n 0, 1) := by decide +kernel
theorem dX9_bookAnyhow_22 : decode cX9_bookAnyhow 22 = .ok (.iload_n 1, 1) := by decide +kernel
theorem dX9_bookAnyhow_23 : decode cX9_bookAnyhow 23 = .ok (.iload_n 2, 1) := by decide +kernel
theorem dX9_bookAnyhow_24 : decode cX9_bookAnyhow 24 = .ok (.iload_n 3, 1) := by decide +kernel
theorem dX9_bookAnyhow_25 : decode cX9_bookAnyhow 25 = .ok (.invokevirtual 225, 3) := by decide +kernel
theorem dX9_bookAnyhow_28 : decode cX9_bookAnyhow 28 = .ok (.istore 4, 2) := by decide +kernel
theorem dX9_bookAnyhow_30 : decode cX9_bookAnyhow 30 = .ok (.iload 4, 2) := by decide +kernel
theorem dX9_bookAnyhow_32 : decode cX9_bookAnyhow 32 = .ok (.ifCond .ne 11, 3) := by decide +kernel
theorem dX9_bookAnyhow_35 : decode cX9_bookAnyhow 35 = .ok (.aload_n 0, 1) := by decide +kernel
theorem dX9_bookAnyhow_36 : decode cX9_bookAnyhow 36 = .ok (.iload_n 1, 1) := by decide +kernel
theorem dX9_bookAnyhow_37 : decode cX9_bookAnyhow 37 = .ok (.iload_n 2, 1) := by decide +kernel
theorem dX9_bookAnyhow_38 : decode cX9_bookAnyhow 38 = .ok (.iload_n 3, 1) := by decide +kernel
theorem dX9_bookAnyhow_39 : decode cX9_bookAnyhow 39 = .ok (.invokevirtual 269, 3) := by decide +kernel
theorem dX9_bookAnyhow_42 : decode cX9_bookAnyhow 42 = .ok (.ireturn, 1) := by decide +kernel
theorem dX9_bookAnyhow_43 : decode cX9_bookAnyhow 43 = .ok (.aload_n 0, 1) := by decide +kernel
theorem dX9_bookAnyhow_44 : decode cX9_bookAnyhow 44 = .ok (.invokevirtual 253, 3) := by decide +kernel
theorem dX9_bookAnyhow_47 : decode cX9_bookAnyhow 47 = .ok (.aload_n 0, 1) := by decide +kernel
theorem dX9_bookAnyhow_48 : decode cX9_bookAnyhow 48 = .ok (.iload_n 3, 1) := by decide +kernel
theorem dX9_bookAnyhow_49 : decode cX9_bookAnyhow 49 = .ok (.invokevirtual 272, 3) := by decide +kernel
theorem dX9_bookAnyhow_52 : decode cX9_bookAnyhow 52 = .ok (.iconst 1, 1) := by decide +kernel
theorem dX9_bookAnyhow_53 : decode cX9_bookAnyhow 53 = .ok (.iload_n 1, 1) := by decide +kernel
theorem dX9_bookAnyhow_54 : decode cX9_bookAnyhow 54 = .ok (.ishl, 1) := by decide +kernel
theorem dX9_bookAnyhow_55 : decode cX9_bookAnyhow 55 = .ok (.ior, 1) := by decide +kernel
theorem dX9_bookAnyhow_56 : decode cX9_bookAnyhow 56 = .ok (.istore 5, 2) := by decide +kernel
theorem dX9_bookAnyhow_58 : decode cX9_bookAnyhow 58 = .ok (.iload 4, 2) := by decide +kernel
theorem dX9_bookAnyhow_60 : decode cX9_bookAnyhow 60 = .ok (.iconst 5, 1) := by decide +kernel
theorem dX9_bookAnyhow_61 : decode cX9_bookAnyhow 61 = .ok (.if_icmp .ne 12, 3) := by decide +kernel
theorem dX9_bookAnyhow_64 : decode cX9_bookAnyhow 64 = .ok (.aload_n 0, 1) := by decide +kernel
theorem dX9_bookAnyhow_65 : decode cX9_bookAnyhow 65 = .ok (.iload 5, 2) := by decide +kernel
theorem dX9_bookAnyhow_67 : decode cX9_bookAnyhow 67 = .ok (.invokevirtual 256, 3) := by decide +kernel
theorem dX9_bookAnyhow_70 : decode cX9_bookAnyhow 70 = .ok (.ifCond .ne 7, 3) := by decide +kernel
theorem dX9_bookAnyhow_73 : decode cX9_bookAnyhow 73 = .ok (.iload 4, 2) := by decide +kernel
theorem dX9_bookAnyhow_75 : decode cX9_bookAnyhow 75 = .ok (.ineg, 1) := by decide +kernel
theorem dX9_bookAnyhow_76 : decode cX9_bookAnyhow 76 = .ok (.ireturn, 1) := by decide +kernel
theorem dX9_bookAnyhow_77 : decode cX9_bookAnyhow 77 = .ok (.aload_n 0, 1) := by decide +kernel
theorem dX9_bookAnyhow_78 : decode cX9_bookAnyhow 78 = .ok (.iload_n 1, 1) := by decide +kernel
theorem dX9_bookAnyhow_79 : decode cX9_bookAnyhow 79 = .ok (.iload_n 2, 1) := by decide +kernel
theorem dX9_bookAnyhow_80 : decode cX9_bookAnyhow 80 = .ok (.iload_n 3, 1) := by decide +kernel
theorem dX9_bookAnyhow_81 : decode cX9_bookAnyhow 81 = .ok (.invokevirtual 229, 3) := by decide +kernel
theorem dX9_bookAnyhow_84 : decode cX9_bookAnyhow 84 = .ok (.istore 6, 2) := by decide +kernel
theorem dX9_bookAnyhow_86 : decode cX9_bookAnyhow 86 = .ok (.aload_n 0, 1) := by decide +kernel
theorem dX9_bookAnyhow_87 : decode cX9_bookAnyhow 87 = .ok (.iload_n 3, 1) := by decide +kernel
theorem dX9_bookAnyhow_88 : decode cX9_bookAnyhow 88 = .ok (.aload_n 0, 1) := by decide +kernel
theorem dX9_bookAnyhow_89 : decode cX9_bookAnyhow 89 = .ok (.iload_n 3, 1) := by decide +kernel
theorem dX9_bookAnyhow_90 : decode cX9_bookAnyhow 90 = .ok (.invokevirtual 185, 3) := by decide +kernel
theorem dX9_bookAnyhow_93 : decode cX9_bookAnyhow 93 = .ok (.iload_n 1, 1) := by decide +kernel
theorem dX9_bookAnyhow_94 : decode cX9_bookAnyhow 94 = .ok (.iload_n 2, 1) := by decide +kernel
theorem dX9_bookAnyhow_95 : decode cX9_bookAnyhow 95 = .ok (.iload 6, 2) := by decide +kernel
theorem dX9_bookAnyhow_97 : decode cX9_bookAnyhow 97 = .ok (.invokevirtual 265, 3) := by decide +kernel
theorem dX9_bookAnyhow_100 : decode cX9_bookAnyhow 100 = .ok (.aload_n 0, 1) := by decide +kernel
theorem dX9_bookAnyhow_101 : decode cX9_bookAnyhow 101 = .ok (.getfield 17, 3) := by decide +kernel
theorem dX9_bookAnyhow_104 : decode cX9_bookAnyhow 104 = .ok (.bipush 6, 2) := by decide +kernel
theorem dX9_bookAnyhow_106 : decode cX9_bookAnyhow 106 = .ok (.dup2, 1) := by decide +kernel
theorem dX9_bookAnyhow_107 : decode cX9_bookAnyhow 107 = .ok (.iaload, 1) := by decide +kernel
theorem dX9_bookAnyhow_108 : decode cX9_bookAnyhow 108 = .ok (.iload 6, 2) := by decide +kernel
theorem dX9_bookAnyhow_110 : decode cX9_bookAnyhow 110 = .ok (.iadd, 1) := by decide +kernel
theorem dX9_bookAnyhow_111 : decode cX9_bookAnyhow 111 = .ok (.iastore, 1) := by decide +kernel
theorem dX9_bookAnyhow_112 : decode cX9_bookAnyhow 112 = .ok (.aload_n 0, 1) := by decide +kernel
theorem dX9_bookAnyhow_113 : decode cX9_bookAnyhow 113 = .ok (.iload 5, 2) := by decide +kernel
theorem dX9_bookAnyhow_115 : decode cX9_bookAnyhow 115 = .ok (.invokevirtual 259, 3) := by decide +kernel
theorem dX9_bookAnyhow_118 : decode cX9_bookAnyhow 118 = .ok (.aload_n 0, 1) := by decide +kernel
theorem dX9_bookAnyhow_119 : decode cX9_bookAnyhow 119 = .ok (.iload_n 3, 1) := by decide +kernel
theorem dX9_bookAnyhow_120 : decode cX9_bookAnyhow 120 = .ok (.iload_n 1, 1) := by decide +kernel
theorem dX9_bookAnyhow_121 : decode cX9_bookAnyhow 121 = .ok (.invokevirtual 275, 3) := by decide +kernel
theorem dX9_bookAnyhow_124 : decode cX9_bookAnyhow 124 = .ok (.ireturn, 1) := by decide +kernel
theorem dX9_remove_0 : decode cX9_remove 0 = .ok (.aload_n 0, 1) := by decide +kernel
theorem dX9_remove_1 : decode cX9_remove 1 = .ok (.iconst 0, 1) := by decide +kernel
theorem dX9_remove_2 : decode cX9_remove 2 = .ok (.putfield 41, 3) := by decide +kernel
theorem dX9_remove_5 : decode cX9_remove 5 = .ok (.aload_n 0, 1) := by decide +kernel
theorem dX9_remove_6 : decode cX9_remove 6 = .ok (.iload_n 1, 1) := by decide +kernel
theorem dX9_remove_7 : decode cX9_remove 7 = .ok (.invokevirtual 235, 3) := by decide +kernel
theorem dX9_remove_10 : decode cX9_remove 10 = .ok (.ifCond .ne 31, 3) := by decide +kernel
theorem dX9_remove_13 : decode cX9_remove 13 = .ok (.aload_n 0, 1) := by decide +kernel
theorem dX9_remove_14 : decode cX9_remove 14 = .ok (.iload_n 2, 1) := by decide +kernel
theorem dX9_remove_15 : decode cX9_remove 15 = .ok (.iconst 0, 1) := by decide +kernel
theorem dX9_remove_16 : decode cX9_remove 16 = .ok (.aload_n 0, 1) := by decide +kernel
theorem dX9_remove_17 : decode cX9_remove 17 = .ok (.iload_n 1, 1) := by decide +kernel
theorem dX9_remove_18 : decode cX9_remove 18 = .ok (.invokevirtual 185, 3) := by decide +kernel
theorem dX9_remove_21 : decode cX9_remove 21 = .ok (.iconst 1, 1) := by decide +kernel
theorem dX9_remove_22 : decode cX9_remove 22 = .ok (.isub, 1) := by decide +kernel
theorem dX9_remove_23 : decode cX9_remove 23 = .ok (.invokestatic 66, 3) := by decide +kernel
theorem dX9_remove_26 : decode cX9_remove 26 = .ok (.ifCond .ne 7, 3) := by decide +kernel
theorem dX9_remove_29 : decode cX9_remove 29 = .ok (.iconst 1, 1) := by decide +kernel
theorem dX9_remove_30 : decode cX9_remove 30 = .ok (.goto 4, 3) := by decide +kernel
theorem dX9_remove_33 : decode cX9_remove 33 = .ok (.iconst 0, 1) := by decide +kernel
theorem dX9_remove_34 : decode cX9_remove 34 = .ok (.iconst 2, 1) := by decide +kernel
theorem dX9_remove_35 : decode cX9_remove 35 = .ok (.invokevirtual 166, 3) := by decide +kernel
theorem dX9_remove_38 : decode cX9_remove 38 = .ok (.ifCond .eq 5, 3) := by decide +kernel
theorem dX9_remove_41 : decode cX9_remove 41 = .ok (.iconst 0, 1) := by decide +kernel
theorem dX9_remove_42 : decode cX9_remove 42 = .ok (.ireturn, 1) := by decide +kernel
theorem dX9_remove_43 : decode cX9_remove 43 = .ok (.iload_n 2, 1) := by decide +kernel
theorem dX9_remove_44 : decode cX9_remove 44 = .ok (.ifCond .le 18, 3) := by decide +kernel
theorem dX9_remove_47 : decode cX9_remove 47 = .ok (.iload_n 2, 1) := by decide +kernel
theorem dX9_remove_48 : decode cX9_remove 48 = .ok (.iconst 1, 1) := by decide +kernel
theorem dX9_remove_49 : decode cX9_remove 49 = .ok (.iadd, 1) := by decide +kernel
theorem dX9_remove_50 : decode cX9_remove 50 = .ok (.aload_n 0, 1) := by decide +kernel
theorem dX9_remove_51 : decode cX9_remove 51 = .ok (.iload_n 1, 1) := by decide +kernel
theorem dX9_remove_52 : decode cX9_remove 52 = .ok (.invokevirtual 185, 3) := by decide +kernel
theorem dX9_remove_55 : decode cX9_remove 55 = .ok (.if_icmp .ge 7, 3) := by decide +kernel
theorem dX9_remove_58 : decode cX9_remove 58 = .ok (.iconst 1, 1) := by decide +kernel
theorem dX9_remove_59 : decode cX9_remove 59 = .ok (.goto 4, 3) := by decide +kernel
theorem dX9_remove_62 : decode cX9_remove 62 = .ok (.iconst 0, 1) := by decide +kernel
theorem dX9_remove_63 : decode cX9_remove 63 = .ok (.istore_n 3, 1) := by decide +kernel
theorem dX9_remove_64 : decode cX9_remove 64 = .ok (.aload_n 0, 1) := by decide +kernel
theorem dX9_remove_65 : decode cX9_remove 65 = .ok (.aload_n 0, 1) := by decide +kernel
theorem dX9_remove_66 : decode cX9_remove 66 = .ok (.getfield 17, 3) := by decide +kernel
theorem dX9_remove_69 : decode cX9_remove 69 = .ok (.iload_n 1, 1) := by decide +kernel
theorem dX9_remove_70 : decode cX9_remove 70 = .ok (.invokestatic 44, 3) := by decide +kernel
theorem dX9_remove_73 : decode cX9_remove 73 = .ok (.iconst 4, 1) := by decide +kernel
theorem dX9_remove_74 : decode cX9_remove 74 = .ok (.iadd, 1) := by decide +kernel
theorem dX9_remove_75 : decode cX9_remove 75 = .ok (.iaload, 1) := by decide +kernel
theorem dX9_remove_76 : decode cX9_remove 76 = .ok (.ifCond .ne 38, 3) := by decide +kernel
theorem dX9_remove_79 : decode cX9_remove 79 = .ok (.iload_n 3, 1) := by decide +kernel
theorem dX9_remove_80 : decode cX9_remove 80 = .ok (.ifCond .eq 38, 3) := by decide +kernel
theorem dX9_remove_83 : decode cX9_remove 83 = .ok (.aload_n 0, 1) := by decide +kernel
theorem dX9_remove_84 : decode cX9_remove 84 = .ok (.aload_n 0, 1) := by decide +kernel
theorem dX9_remove_85 : decode cX9_remove 85 = .ok (.getfield 17, 3) := by decide +kernel
theorem dX9_remove_88 : decode cX9_remove 88 = .ok (.iload_n 1, 1) := by decide +kernel
theorem dX9_remove_89 : decode cX9_remove 89 = .ok (.iload_n 2, 1) := by decide +kernel
theorem dX9_remove_90 : decode cX9_remove 90 = .ok (.iconst 1, 1) := by decide +kernel
theorem dX9_remove_91 : decode cX9_remove 91 = .ok (.isub, 1) := by decide +kernel
theorem dX9_remove_92 : decode cX9_remove 92 = .ok (.invokestatic 188, 3) := by decide +kernel
theorem dX9_remove_95 : decode cX9_remove 95 = .ok (.iaload, 1) := by decide +kernel
theorem dX9_remove_96 : decode cX9_remove 96 = .ok (.aload_n 0, 1) := by decide +kernel
theorem dX9_remove_97 : decode cX9_remove 97 = .ok (.getfield 17, 3) := by decide +kernel
theorem dX9_remove_100 : decode cX9_remove 100 = .ok (.iload_n 1, 1) := by decide +kernel
theorem dX9_remove_101 : decode cX9_remove 101 = .ok (.iload_n 2, 1) := by decide +kernel
theorem dX9_remove_102 : decode cX9_remove 102 = .ok (.iconst 1, 1) := by decide +kernel
theorem dX9_remove_103 : decode cX9_remove 103 = .ok (.iadd, 1) := by decide +kernel
theorem dX9_remove_104 : decode cX9_remove 104 = .ok (.invokestatic 188, 3) := by decide +kernel
theorem dX9_remove_107 : decode cX9_remove 107 = .ok (.iaload, 1) := by decide +kernel
theorem dX9_remove_108 : decode cX9_remove 108 = .ok (.invokevirtual 195, 3) := by decide +kernel
theorem dX9_remove_111 : decode cX9_remove 111 = .ok (.ifCond .eq 7, 3) := by decide +kernel
theorem dX9_remove_114 : decode cX9_remove 114 = .ok (.iconst 1, 1) := by decide +kernel
theorem dX9_remove_115 : decode cX9_remove 115 = .ok (.goto 4, 3) := by decide +kernel
theorem dX9_remove_118 : decode cX9_remove 118 = .ok (.iconst 0, 1) := by decide +kernel
theorem dX9_remove_119 : decode cX9_remove 119 = .ok (.iconst 3, 1) := by decide +kernel
theorem dX9_remove_120 : decode cX9_remove 120 = .ok (.invokevirtual 166, 3) := by decide +kernel
theorem dX9_remove_123 : decode cX9_remove 123 = .ok (.ifCond .eq 5, 3) := by decide +kernel
theorem dX9_remove_126 : decode cX9_remove 126 = .ok (.iconst 0, 1) := by decide +kernel
theorem dX9_remove_127 : decode cX9_remove 127 = .ok (.ireturn, 1) := by decide +kernel
theorem dX9_remove_128 : decode cX9_remove 128 = .ok (.aload_n 0, 1) := by decide +kernel
theorem dX9_remove_129 : decode cX9_remove 129 = .ok (.invokevirtual 178, 3) := by decide +kernel
theorem dX9_remove_132 : decode cX9_remove 132 = .ok (.aload_n 0, 1) := by decide +kernel
theorem dX9_remove_133 : decode cX9_remove 133 = .ok (.getfield 17, 3) := by decide +kernel
theorem dX9_remove_136 : decode cX9_remove 136 = .ok (.iload_n 1, 1) := by decide +kernel
theorem dX9_remove_137 : decode cX9_remove 137 = .ok (.iload_n 2, 1) := by decide +kernel
theorem dX9_remove_138 : decode cX9_remove 138 = .ok (.invokestatic 188, 3) := by decide +kernel
theorem dX9_remove_141 : decode cX9_remove 141 = .ok (.iconst 2, 1) := by decide +kernel
theorem dX9_remove_142 : decode cX9_remove 142 = .ok (.iadd, 1) := by decide +kernel
theorem dX9_remove_143 : decode cX9_remove 143 = .ok (.iaload, 1) := by decide +kernel
theorem dX9_remove_144 : decode cX9_remove 144 = .ok (.iconst 2, 1) := by decide +kernel
theorem dX9_remove_145 : decode cX9_remove 145 = .ok (.idiv, 1) := by decide +kernel
theorem dX9_remove_146 : decode cX9_remove 146 = .ok (.istore 4, 2) := by decide +kernel
theorem dX9_remove_148 : decode cX9_remove 148 = .ok (.aload_n 0, 1) := by decide +kernel
theorem dX9_remove_149 : decode cX9_remove 149 = .ok (.getfield 17, 3) := by decide +kernel
theorem dX9_remove_152 : decode cX9_remove 152 = .ok (.iload_n 1, 1) := by decide +kernel
theorem dX9_remove_153 : decode cX9_remove 153 = .ok (.invokestatic 44, 3) := by decide +kernel
theorem dX9_remove_156 : decode cX9_remove 156 = .ok (.iconst 5, 1) := by decide +kernel
theorem dX9_remove_157 : decode cX9_remove 157 = .ok (.iadd, 1) := by decide +kernel
theorem dX9_remove_158 : decode cX9_remove 158 = .ok (.dup2, 1) := by decide +kernel
theorem dX9_remove_159 : decode cX9_remove 159 = .ok (.iaload, 1) := by decide +kernel
theorem dX9_remove_160 : decode cX9_remove 160 = .ok (.iconst 1, 1) := by decide +kernel
theorem dX9_remove_161 : decode cX9_remove 161 = .ok (.isub, 1) := by decide +kernel
theorem dX9_remove_162 : decode cX9_remove 162 = .ok (.iastore, 1) := by decide +kernel
theorem dX9_remove_163 : decode cX9_remove 163 = .ok (.iload_n 1, 1) := by decide +kernel
theorem dX9_remove_164 : decode cX9_remove 164 = .ok (.iload_n 2, 1) := by decide +kernel
theorem dX9_remove_165 : decode cX9_remove 165 = .ok (.invokestatic 188, 3) := by decide +kernel
theorem dX9_remove_168 : decode cX9_remove 168 = .ok (.istore 5, 2) := by decide +kernel
theorem dX9_remove_170 : decode cX9_remove 170 = .ok (.iload 5, 2) := by decide +kernel
theorem dX9_remove_172 : decode cX9_remove 172 = .ok (.iload_n 1, 1) := by decide +kernel
theorem dX9_remove_173 : decode cX9_remove 173 = .ok (.aload_n 0, 1) := by decide +kernel
theorem dX9_remove_174 : decode cX9_remove 174 = .ok (.iload_n 1, 1) := by decide +kernel
theorem dX9_remove_175 : decode cX9_remove 175 = .ok (.invokevirtual 185, 3) := by decide +kernel
theorem dX9_remove_178 : decode cX9_remove 178 = .ok (.invokestatic 188, 3) := by decide +kernel
theorem dX9_remove_181 : decode cX9_remove 181 = .ok (.if_icmp .ge 25, 3) := by decide +kernel
theorem dX9_remove_184 : decode cX9_remove 184 = .ok (.aload_n 0, 1) := by decide +kernel
theorem dX9_remove_185 : decode cX9_remove 185 = .ok (.getfield 17, 3) := by decide +kernel
theorem dX9_remove_188 : decode cX9_remove 188 = .ok (.iload 5, 2) := by decide +kernel
theorem dX9_remove_190 : decode cX9_remove 190 = .ok (.aload_n 0, 1) := by decide +kernel
theorem dX9_remove_191 : decode cX9_remove 191 = .ok (.getfield 17, 3) := by decide +kernel
theorem dX9_remove_194 : decode cX9_remove 194 = .ok (.iload 5, 2) := by decide +kernel
theorem dX9_remove_196 : decode cX9_remove 196 = .ok (.iconst 3, 1) := by decide +kernel
theorem dX9_remove_197 : decode cX9_remove 197 = .ok (.iadd, 1) := by decide +kernel
theorem dX9_remove_198 : decode cX9_remove 198 = .ok (.iaload, 1) := by decide +kernel
theorem dX9_remove_199 : decode cX9_remove 199 = .ok (.iastore, 1) := by decide +kernel
theorem dX9_remove_200 : decode cX9_remove 200 = .ok (.iinc 5 1, 3) := by decide +kernel
theorem dX9_remove_203 : decode cX9_remove 203 = .ok (.goto (-33), 3) := by decide +kernel
theorem dX9_remove_206 : decode cX9_remove 206 = .ok (.aload_n 0, 1) := by decide +kernel
theorem dX9_remove_207 : decode cX9_remove 207 = .ok (.getfield 17, 3) := by decide +kernel
theorem dX9_remove_210 : decode cX9_remove 210 = .ok (.bipush 6, 2) := by decide +kernel
theorem dX9_remove_212 : decode cX9_remove 212 = .ok (.dup2, 1) := by decide +kernel
theorem dX9_remove_213 : decode cX9_remove 213 = .ok (.iaload, 1) := by decide +kernel
theorem dX9_remove_214 : decode cX9_remove 214 = .ok (.iload 4, 2) := by decide +kernel
theorem dX9_remove_216 : decode cX9_remove 216 = .ok (.isub, 1) := by decide +kernel
theorem dX9_remove_217 : decode cX9_remove 217 = .ok (.iastore, 1) := by decide +kernel
theorem dX9_remove_218 : decode cX9_remove 218 = .ok (.iload 4, 2) := by decide +kernel
theorem dX9_remove_220 : decode cX9_remove 220 = .ok (.ireturn, 1) := by decide +kernel
theorem dX9_air_0 : decode cX9_air 0 = .ok (.aload_n 0, 1) := by decide +kernel
theorem dX9_air_1 : decode cX9_air 1 = .ok (.iconst 0, 1) := by decide +kernel
theorem dX9_air_2 : decode cX9_air 2 = .ok (.putfield 41, 3) := by decide +kernel
theorem dX9_air_5 : decode cX9_air 5 = .ok (.iconst 0, 1) := by decide +kernel
theorem dX9_air_6 : decode cX9_air 6 = .ok (.istore_n 1, 1) := by decide +kernel
theorem dX9_air_7 : decode cX9_air 7 = .ok (.iload_n 1, 1) := by decide +kernel
theorem dX9_air_8 : decode cX9_air 8 = .ok (.aload_n 0, 1) := by decide +kernel
theorem dX9_air_9 : decode cX9_air 9 = .ok (.getfield 17, 3) := by decide +kernel
theorem dX9_air_12 : decode cX9_air 12 = .ok (.iconst 0, 1) := by decide +kernel
theorem dX9_air_13 : decode cX9_air 13 = .ok (.iaload, 1) := by decide +kernel
theorem dX9_air_14 : decode cX9_air 14 = .ok (.if_icmp .ge 23, 3) := by decide +kernel
theorem dX9_air_17 : decode cX9_air 17 = .ok (.aload_n 0, 1) := by decide +kernel
theorem dX9_air_18 : decode cX9_air 18 = .ok (.getfield 17, 3) := by decide +kernel
theorem dX9_air_21 : decode cX9_air 21 = .ok (.iload_n 1, 1) := by decide +kernel
theorem dX9_air_22 : decode cX9_air 22 = .ok (.invokestatic 44, 3) := by decide +kernel
theorem dX9_air_25 : decode cX9_air 25 = .ok (.iconst 4, 1) := by decide +kernel
theorem dX9_air_26 : decode cX9_air 26 = .ok (.iadd, 1) := by decide +kernel
theorem dX9_air_27 : decode cX9_air 27 = .ok (.iaload, 1) := by decide +kernel
theorem dX9_air_28 : decode cX9_air 28 = .ok (.ifCond .eq 9, 3) := by decide +kernel
theorem dX9_air_31 : decode cX9_air 31 = .ok (.iinc 1 1, 3) := by decide +kernel
theorem dX9_air_34 : decode cX9_air 34 = .ok (.goto (-27), 3) := by decide +kernel
theorem dX9_air_37 : decode cX9_air 37 = .ok (.aload_n 0, 1) := by decide +kernel
theorem dX9_air_38 : decode cX9_air 38 = .ok (.iload_n 1, 1) := by decide +kernel
theorem dX9_air_39 : decode cX9_air 39 = .ok (.aload_n 0, 1) := by decide +kernel
theorem dX9_air_40 : decode cX9_air 40 = .ok (.getfield 17, 3) := by decide +kernel
theorem dX9_air_43 : decode cX9_air 43 = .ok (.iconst 0, 1) := by decide +kernel
theorem dX9_air_44 : decode cX9_air 44 = .ok (.iaload, 1) := by decide +kernel
theorem dX9_air_45 : decode cX9_air 45 = .ok (.if_icmp .ne 7, 3) := by decide +kernel
theorem dX9_air_48 : decode cX9_air 48 = .ok (.iconst 1, 1) := by decide +kernel
theorem dX9_air_49 : decode cX9_air 49 = .ok (.goto 4, 3) := by decide +kernel
theorem dX9_air_52 : decode cX9_air 52 = .ok (.iconst 0, 1) := by decide +kernel
theorem dX9_air_53 : decode cX9_air 53 = .ok (.iconst 1, 1) := by decide +kernel
theorem dX9_air_54 : decode cX9_air 54 = .ok (.invokevirtual 166, 3) := by decide +kernel
theorem dX9_air_57 : decode cX9_air 57 = .ok (.ifCond .eq 5, 3) := by decide +kernel
theorem dX9_air_60 : decode cX9_air 60 = .ok (.iconst 0, 1) := by decide +kernel
theorem dX9_air_61 : decode cX9_air 61 = .ok (.ireturn, 1) := by decide +kernel
theorem dX9_air_62 : decode cX9_air 62 = .ok (.aload_n 0, 1) := by decide +kernel
theorem dX9_air_63 : decode cX9_air 63 = .ok (.invokevirtual 178, 3) := by decide +kernel
theorem dX9_air_66 : decode cX9_air 66 = .ok (.aload_n 0, 1) := by decide +kernel
theorem dX9_air_67 : decode cX9_air 67 = .ok (.getfield 17, 3) := by decide +kernel
theorem dX9_air_70 : decode cX9_air 70 = .ok (.iload_n 1, 1) := by decide +kernel
theorem dX9_air_71 : decode cX9_air 71 = .ok (.invokestatic 44, 3) := by decide +kernel
theorem dX9_air_74 : decode cX9_air 74 = .ok (.iconst 4, 1) := by decide +kernel
theorem dX9_air_75 : decode cX9_air 75 = .ok (.iadd, 1) := by decide +kernel
theorem dX9_air_76 : decode cX9_air 76 = .ok (.iconst 1, 1) := by decide +kernel
theorem dX9_air_77 : decode cX9_air 77 = .ok (.iastore, 1) := by decide +kernel
theorem dX9_air_78 : decode cX9_air 78 = .ok (.aload_n 0, 1) := by decide +kernel
theorem dX9_air_79 : decode cX9_air 79 = .ok (.iload_n 1, 1) := by decide +kernel
theorem dX9_air_80 : decode cX9_air 80 = .ok (.invokevirtual 185, 3) := by decide +kernel
theorem dX9_air_83 : decode cX9_air 83 = .ok (.ireturn, 1) := by decide +kernel
theorem dX9_cancel_0 : decode cX9_cancel 0 = .ok (.aload_n 0, 1) := by decide +kernel
theorem dX9_cancel_1 : decode cX9_cancel 1 = .ok (.iconst 0, 1) := by decide +kernel
theorem dX9_cancel_2 : decode cX9_cancel 2 = .ok (.putfield 41, 3) := by decide +kernel
theorem dX9_cancel_5 : decode cX9_cancel 5 = .ok (.aload_n 0, 1) := by decide +kernel
theorem dX9_cancel_6 : decode cX9_cancel 6 = .ok (.iload_n 1, 1) := by decide +kernel
theorem dX9_cancel_7 : decode cX9_cancel 7 = .ok (.invokevirtual 235, 3) := by decide +kernel
theorem dX9_cancel_10 : decode cX9_cancel 10 = .ok (.ifCond .ne 30, 3) := by decide +kernel
theorem dX9_cancel_13 : decode cX9_cancel 13 = .ok (.aload_n 0, 1) := by decide +kernel
theorem dX9_cancel_14 : decode cX9_cancel 14 = .ok (.aload_n 0, 1) := by decide +kernel
theorem dX9_cancel_15 : decode cX9_cancel 15 = .ok (.getfield 17, 3) := by decide +kernel
theorem dX9_cancel_18 : decode cX9_cancel 18 = .ok (.iload_n 1, 1) := by decide +kernel
theorem dX9_cancel_19 : decode cX9_cancel 19 = .ok (.invokestatic 44, 3) := by decide +kernel
theorem dX9_cancel_22 : decode cX9_cancel 22 = .ok (.iconst 4, 1) := by decide +kernel
theorem dX9_cancel_23 : decode cX9_cancel 23 = .ok (.iadd, 1) := by decide +kernel
theorem dX9_cancel_24 : decode cX9_cancel 24 = .ok (.iaload, 1) := by decide +kernel
theorem dX9_cancel_25 : decode cX9_cancel 25 = .ok (.ifCond .eq 7, 3) := by decide +kernel
theorem dX9_cancel_28 : decode cX9_cancel 28 = .ok (.iconst 1, 1) := by decide +kernel
theorem dX9_cancel_29 : decode cX9_cancel 29 = .ok (.goto 4, 3) := by decide +kernel
theorem dX9_cancel_32 : decode cX9_cancel 32 = .ok (.iconst 0, 1) := by decide +kernel
theorem dX9_cancel_33 : decode cX9_cancel 33 = .ok (.iconst 2, 1) := by decide +kernel
theorem dX9_cancel_34 : decode cX9_cancel 34 = .ok (.invokevirtual 166, 3) := by decide +kernel
theorem dX9_cancel_37 : decode cX9_cancel 37 = .ok (.ifCond .eq 5, 3) := by decide +kernel
theorem dX9_cancel_40 : decode cX9_cancel 40 = .ok (.iconst 0, 1) := by decide +kernel
theorem dX9_cancel_41 : decode cX9_cancel 41 = .ok (.ireturn, 1) := by decide +kernel
theorem dX9_cancel_42 : decode cX9_cancel 42 = .ok (.aload_n 0, 1) := by decide +kernel
theorem dX9_cancel_43 : decode cX9_cancel 43 = .ok (.invokevirtual 178, 3) := by decide +kernel
theorem dX9_cancel_46 : decode cX9_cancel 46 = .ok (.iconst 0, 1) := by decide +kernel
theorem dX9_cancel_47 : decode cX9_cancel 47 = .ok (.istore_n 2, 1) := by decide +kernel
theorem dX9_cancel_48 : decode cX9_cancel 48 = .ok (.iload_n 2, 1) := by decide +kernel
theorem dX9_cancel_49 : decode cX9_cancel 49 = .ok (.aload_n 0, 1) := by decide +kernel
theorem dX9_cancel_50 : decode cX9_cancel 50 = .ok (.iload_n 1, 1) := by decide +kernel
theorem dX9_cancel_51 : decode cX9_cancel 51 = .ok (.invokevirtual 185, 3) := by decide +kernel
theorem dX9_cancel_54 : decode cX9_cancel 54 = .ok (.if_icmp .ge 88, 3) := by decide +kernel
theorem dX9_cancel_57 : decode cX9_cancel 57 = .ok (.sipush 723, 3) := by decide +kernel
theorem dX9_cancel_60 : decode cX9_cancel 60 = .ok (.iconst 4, 1) := by decide +kernel
theorem dX9_cancel_61 : decode cX9_cancel 61 = .ok (.aload_n 0, 1) := by decide +kernel
theorem dX9_cancel_62 : decode cX9_cancel 62 = .ok (.getfield 17, 3) := by decide +kernel
theorem dX9_cancel_65 : decode cX9_cancel 65 = .ok (.iconst 5, 1) := by decide +kernel
theorem dX9_cancel_66 : decode cX9_cancel 66 = .ok (.iaload, 1) := by decide +kernel
theorem dX9_cancel_67 : decode cX9_cancel 67 = .ok (.imul, 1) := by decide +kernel
theorem dX9_cancel_68 : decode cX9_cancel 68 = .ok (.iadd, 1) := by decide +kernel
theorem dX9_cancel_69 : decode cX9_cancel 69 = .ok (.istore_n 3, 1) := by decide +kernel
theorem dX9_cancel_70 : decode cX9_cancel 70 = .ok (.iconst 0, 1) := by decide +kernel
theorem dX9_cancel_71 : decode cX9_cancel 71 = .ok (.istore 4, 2) := by decide +kernel
theorem dX9_cancel_73 : decode cX9_cancel 73 = .ok (.iload 4, 2) := by decide +kernel
theorem dX9_cancel_75 : decode cX9_cancel 75 = .ok (.iconst 3, 1) := by decide +kernel
theorem dX9_cancel_76 : decode cX9_cancel 76 = .ok (.if_icmp .ge 31, 3) := by decide +kernel
theorem dX9_cancel_79 : decode cX9_cancel 79 = .ok (.aload_n 0, 1) := by decide +kernel
theorem dX9_cancel_80 : decode cX9_cancel 80 = .ok (.getfield 17, 3) := by decide +kernel
theorem dX9_cancel_83 : decode cX9_cancel 83 = .ok (.iload_n 3, 1) := by decide +kernel
theorem dX9_cancel_84 : decode cX9_cancel 84 = .ok (.iload 4, 2) := by decide +kernel
theorem dX9_cancel_86 : decode cX9_cancel 86 = .ok (.iadd, 1) := by decide +kernel
theorem dX9_cancel_87 : decode cX9_cancel 87 = .ok (.aload_n 0, 1) := by decide +kernel
theorem dX9_cancel_88 : decode cX9_cancel 88 = .ok (.getfield 17, 3) := by decide +kernel
theorem dX9_cancel_91 : decode cX9_cancel 91 = .ok (.iload_n 1, 1) := by decide +kernel
theorem dX9_cancel_92 : decode cX9_cancel 92 = .ok (.iload_n 2, 1) := by decide +kernel
theorem dX9_cancel_93 : decode cX9_cancel 93 = .ok (.invokestatic 188, 3) := by decide +kernel
theorem dX9_cancel_96 : decode cX9_cancel 96 = .ok (.iload 4, 2) := by decide +kernel
theorem dX9_cancel_98 : decode cX9_cancel 98 = .ok (.iadd, 1) := by decide +kernel
theorem dX9_cancel_99 : decode cX9_cancel 99 = .ok (.iaload, 1) := by decide +kernel
theorem dX9_cancel_100 : decode cX9_cancel 100 = .ok (.iastore, 1) := by decide +kernel
theorem dX9_cancel_101 : decode cX9_cancel 101 = .ok (.iinc 4 1, 3) := by decide +kernel
theorem dX9_cancel_104 : decode cX9_cancel 104 = .ok (.goto (-31), 3) := by decide +kernel
theorem dX9_cancel_107 : decode cX9_cancel 107 = .ok (.aload_n 0, 1) := by decide +kernel
theorem dX9_cancel_108 : decode cX9_cancel 108 = .ok (.getfield 17, 3) := by decide +kernel
theorem dX9_cancel_111 : decode cX9_cancel 111 = .ok (.iload_n 3, 1) := by decide +kernel
theorem dX9_cancel_112 : decode cX9_cancel 112 = .ok (.iconst 3, 1) := by decide +kernel
theorem dX9_cancel_113 : decode cX9_cancel 113 = .ok (.iadd, 1) := by decide +kernel
theorem dX9_cancel_114 : decode cX9_cancel 114 = .ok (.aload_n 0, 1) := by decide +kernel
theorem dX9_cancel_115 : decode cX9_cancel 115 = .ok (.getfield 17, 3) := by decide +kernel
theorem dX9_cancel_118 : decode cX9_cancel 118 = .ok (.iload_n 1, 1) := by decide +kernel
theorem dX9_cancel_119 : decode cX9_cancel 119 = .ok (.invokestatic 44, 3) := by decide +kernel
theorem dX9_cancel_122 : decode cX9_cancel 122 = .ok (.iconst 3, 1) := by decide +kernel
theorem dX9_cancel_123 : decode cX9_cancel 123 = .ok (.iadd, 1) := by decide +kernel
theorem dX9_cancel_124 : decode cX9_cancel 124 = .ok (.iaload, 1) := by decide +kernel
theorem dX9_cancel_125 : decode cX9_cancel 125 = .ok (.iastore, 1) := by decide +kernel
theorem dX9_cancel_126 : decode cX9_cancel 126 = .ok (.aload_n 0, 1) := by decide +kernel
theorem dX9_cancel_127 : decode cX9_cancel 127 = .ok (.getfield 17, 3) := by decide +kernel
theorem dX9_cancel_130 : decode cX9_cancel 130 = .ok (.iconst 5, 1) := by decide +kernel
theorem dX9_cancel_131 : decode cX9_cancel 131 = .ok (.dup2, 1) := by decide +kernel
theorem dX9_cancel_132 : decode cX9_cancel 132 = .ok (.iaload, 1) := by decide +kernel
theorem dX9_cancel_133 : decode cX9_cancel 133 = .ok (.iconst 1, 1) := by decide +kernel
theorem dX9_cancel_134 : decode cX9_cancel 134 = .ok (.iadd, 1) := by decide +kernel
theorem dX9_cancel_135 : decode cX9_cancel 135 = .ok (.iastore, 1) := by decide +kernel
theorem dX9_cancel_136 : decode cX9_cancel 136 = .ok (.iinc 2 1, 3) := by decide +kernel
theorem dX9_cancel_139 : decode cX9_cancel 139 = .ok (.goto (-91), 3) := by decide +kernel
theorem dX9_cancel_142 : decode cX9_cancel 142 = .ok (.aload_n 0, 1) := by decide +kernel
theorem dX9_cancel_143 : decode cX9_cancel 143 = .ok (.getfield 17, 3) := by decide +kernel
theorem dX9_cancel_146 : decode cX9_cancel 146 = .ok (.iload_n 1, 1) := by decide +kernel
theorem dX9_cancel_147 : decode cX9_cancel 147 = .ok (.invokestatic 44, 3) := by decide +kernel
theorem dX9_cancel_150 : decode cX9_cancel 150 = .ok (.iconst 4, 1) := by decide +kernel
theorem dX9_cancel_151 : decode cX9_cancel 151 = .ok (.iadd, 1) := by decide +kernel
theorem dX9_cancel_152 : decode cX9_cancel 152 = .ok (.iconst 2, 1) := by decide +kernel
theorem dX9_cancel_153 : decode cX9_cancel 153 = .ok (.iastore, 1) := by decide +kernel
theorem dX9_cancel_154 : decode cX9_cancel 154 = .ok (.aload_n 0, 1) := by decide +kernel
theorem dX9_cancel_155 : decode cX9_cancel 155 = .ok (.getfield 17, 3) := by decide +kernel
theorem dX9_cancel_158 : decode cX9_cancel 158 = .ok (.iload_n 1, 1) := by decide +kernel
theorem dX9_cancel_159 : decode cX9_cancel 159 = .ok (.invokestatic 44, 3) := by decide +kernel
theorem dX9_cancel_162 : decode cX9_cancel 162 = .ok (.iconst 5, 1) := by decide +kernel
theorem dX9_cancel_163 : decode cX9_cancel 163 = .ok (.iadd, 1) := by decide +kernel
theorem dX9_cancel_164 : decode cX9_cancel 164 = .ok (.iconst 0, 1) := by decide +kernel
theorem dX9_cancel_165 : decode cX9_cancel 165 = .ok (.iastore, 1) := by decide +kernel
theorem dX9_cancel_166 : decode cX9_cancel 166 = .ok (.aload_n 0, 1) := by decide +kernel
theorem dX9_cancel_167 : decode cX9_cancel 167 = .ok (.getfield 17, 3) := by decide +kernel
theorem dX9_cancel_170 : decode cX9_cancel 170 = .ok (.iconst 5, 1) := by decide +kernel
theorem dX9_cancel_171 : decode cX9_cancel 171 = .ok (.iaload, 1) := by decide +kernel
theorem dX9_cancel_172 : decode cX9_cancel 172 = .ok (.ireturn, 1) := by decide +kernel
theorem dX9_goodFor_0 : decode cX9_goodFor 0 = .ok (.sipush 723, 3) := by decide +kernel
theorem dX9_goodFor_3 : decode cX9_goodFor 3 = .ok (.iconst 4, 1) := by decide +kernel
theorem dX9_goodFor_4 : decode cX9_goodFor 4 = .ok (.iload_n 1, 1) := by decide +kernel
theorem dX9_goodFor_5 : decode cX9_goodFor 5 = .ok (.imul, 1) := by decide +kernel
theorem dX9_goodFor_6 : decode cX9_goodFor 6 = .ok (.iadd, 1) := by decide +kernel
theorem dX9_goodFor_7 : decode cX9_goodFor 7 = .ok (.istore_n 2, 1) := by decide +kernel
theorem dX9_goodFor_8 : decode cX9_goodFor 8 = .ok (.iconst 0, 1) := by decide +kernel
theorem dX9_goodFor_9 : decode cX9_goodFor 9 = .ok (.istore_n 3, 1) := by decide +kernel
theorem dX9_goodFor_10 : decode cX9_goodFor 10 = .ok (.iload_n 3, 1) := by decide +kernel
theorem dX9_goodFor_11 : decode cX9_goodFor 11 = .ok (.aload_n 0, 1) := by decide +kernel
theorem dX9_goodFor_12 : decode cX9_goodFor 12 = .ok (.getfield 17, 3) := by decide +kernel
theorem dX9_goodFor_15 : decode cX9_goodFor 15 = .ok (.iconst 0, 1) := by decide +kernel
theorem dX9_goodFor_16 : decode cX9_goodFor 16 = .ok (.iaload, 1) := by decide +kernel
theorem dX9_goodFor_17 : decode cX9_goodFor 17 = .ok (.if_icmp .ge 55, 3) := by decide +kernel
theorem dX9_goodFor_20 : decode cX9_goodFor 20 = .ok (.aload_n 0, 1) := by decide +kernel
theorem dX9_goodFor_21 : decode cX9_goodFor 21 = .ok (.getfield 17, 3) := by decide +kernel
theorem dX9_goodFor_24 : decode cX9_goodFor 24 = .ok (.iload_n 3, 1) := by decide +kernel
theorem dX9_goodFor_25 : decode cX9_goodFor 25 = .ok (.invokestatic 44, 3) := by decide +kernel
theorem dX9_goodFor_28 : decode cX9_goodFor 28 = .ok (.iconst 3, 1) := by decide +kernel
theorem dX9_goodFor_29 : decode cX9_goodFor 29 = .ok (.iadd, 1) := by decide +kernel
theorem dX9_goodFor_30 : decode cX9_goodFor 30 = .ok (.iaload, 1) := by decide +kernel
theorem dX9_goodFor_31 : decode cX9_goodFor 31 = .ok (.aload_n 0, 1) := by decide +kernel
theorem dX9_goodFor_32 : decode cX9_goodFor 32 = .ok (.getfield 17, 3) := by decide +kernel
theorem dX9_goodFor_35 : decode cX9_goodFor 35 = .ok (.iload_n 2, 1) := by decide +kernel
theorem dX9_goodFor_36 : decode cX9_goodFor 36 = .ok (.iconst 3, 1) := by decide +kernel
theorem dX9_goodFor_37 : decode cX9_goodFor 37 = .ok (.iadd, 1) := by decide +kernel
theorem dX9_goodFor_38 : decode cX9_goodFor 38 = .ok (.iaload, 1) := by decide +kernel
theorem dX9_goodFor_39 : decode cX9_goodFor 39 = .ok (.if_icmp .lt 27, 3) := by decide +kernel
theorem dX9_goodFor_42 : decode cX9_goodFor 42 = .ok (.aload_n 0, 1) := by decide +kernel
theorem dX9_goodFor_43 : decode cX9_goodFor 43 = .ok (.aload_n 0, 1) := by decide +kernel
theorem dX9_goodFor_44 : decode cX9_goodFor 44 = .ok (.getfield 17, 3) := by decide +kernel
theorem dX9_goodFor_47 : decode cX9_goodFor 47 = .ok (.iload_n 2, 1) := by decide +kernel
theorem dX9_goodFor_48 : decode cX9_goodFor 48 = .ok (.iaload, 1) := by decide +kernel
theorem dX9_goodFor_49 : decode cX9_goodFor 49 = .ok (.aload_n 0, 1) := by decide +kernel
theorem dX9_goodFor_50 : decode cX9_goodFor 50 = .ok (.getfield 17, 3) := by decide +kernel
theorem dX9_goodFor_53 : decode cX9_goodFor 53 = .ok (.iload_n 2, 1) := by decide +kernel
theorem dX9_goodFor_54 : decode cX9_goodFor 54 = .ok (.iconst 1, 1) := by decide +kernel
theorem dX9_goodFor_55 : decode cX9_goodFor 55 = .ok (.iadd, 1) := by decide +kernel
theorem dX9_goodFor_56 : decode cX9_goodFor 56 = .ok (.iaload, 1) := by decide +kernel
theorem dX9_goodFor_57 : decode cX9_goodFor 57 = .ok (.iload_n 3, 1) := by decide +kernel
theorem dX9_goodFor_58 : decode cX9_goodFor 58 = .ok (.invokevirtual 225, 3) := by decide +kernel
theorem dX9_goodFor_61 : decode cX9_goodFor 61 = .ok (.ifCond .ne 5, 3) := by decide +kernel
theorem dX9_goodFor_64 : decode cX9_goodFor 64 = .ok (.iload_n 3, 1) := by decide +kernel
theorem dX9_goodFor_65 : decode cX9_goodFor 65 = .ok (.ireturn, 1) := by decide +kernel
theorem dX9_goodFor_66 : decode cX9_goodFor 66 = .ok (.iinc 3 1, 3) := by decide +kernel
theorem dX9_goodFor_69 : decode cX9_goodFor 69 = .ok (.goto (-59), 3) := by decide +kernel
theorem dX9_goodFor_72 : decode cX9_goodFor 72 = .ok (.iconst (-1), 1) := by decide +kernel
theorem dX9_goodFor_73 : decode cX9_goodFor 73 = .ok (.ireturn, 1) := by decide +kernel
theorem dX9_makeGood_0 : decode cX9_makeGood 0 = .ok (.aload_n 0, 1) := by decide +kernel
theorem dX9_makeGood_1 : decode cX9_makeGood 1 = .ok (.iconst 0, 1) := by decide +kernel
theorem dX9_makeGood_2 : decode cX9_makeGood 2 = .ok (.putfield 41, 3) := by decide +kernel
theorem dX9_makeGood_5 : decode cX9_makeGood 5 = .ok (.aload_n 0, 1) := by decide +kernel
theorem dX9_makeGood_6 : decode cX9_makeGood 6 = .ok (.invokevirtual 178, 3) := by decide +kernel
theorem dX9_makeGood_9 : decode cX9_makeGood 9 = .ok (.aload_n 0, 1) := by decide +kernel
theorem dX9_makeGood_10 : decode cX9_makeGood 10 = .ok (.getfield 17, 3) := by decide +kernel
theorem dX9_makeGood_13 : decode cX9_makeGood 13 = .ok (.iconst 5, 1) := by decide +kernel
theorem dX9_makeGood_14 : decode cX9_makeGood 14 = .ok (.iaload, 1) := by decide +kernel
theorem dX9_makeGood_15 : decode cX9_makeGood 15 = .ok (.istore_n 1, 1) := by decide +kernel
theorem dX9_makeGood_16 : decode cX9_makeGood 16 = .ok (.iconst 0, 1) := by decide +kernel
theorem dX9_makeGood_17 : decode cX9_makeGood 17 = .ok (.istore_n 2, 1) := by decide +kernel
theorem dX9_makeGood_18 : decode cX9_makeGood 18 = .ok (.iconst 0, 1) := by decide +kernel
theorem dX9_makeGood_19 : decode cX9_makeGood 19 = .ok (.istore_n 3, 1) := by decide +kernel
theorem dX9_makeGood_20 : decode cX9_makeGood 20 = .ok (.iload_n 3, 1) := by decide +kernel
theorem dX9_makeGood_21 : decode cX9_makeGood 21 = .ok (.iload_n 1, 1) := by decide +kernel
theorem dX9_makeGood_22 : decode cX9_makeGood 22 = .ok (.if_icmp .ge 125, 3) := by decide +kernel
theorem dX9_makeGood_25 : decode cX9_makeGood 25 = .ok (.sipush 723, 3) := by decide +kernel
theorem dX9_makeGood_28 : decode cX9_makeGood 28 = .ok (.iconst 4, 1) := by decide +kernel
theorem dX9_makeGood_29 : decode cX9_makeGood 29 = .ok (.iload_n 3, 1) := by decide +kernel
theorem dX9_makeGood_30 : decode cX9_makeGood 30 = .ok (.imul, 1) := by decide +kernel
theorem dX9_makeGood_31 : decode cX9_makeGood 31 = .ok (.iadd, 1) := by decide +kernel
theorem dX9_makeGood_32 : decode cX9_makeGood 32 = .ok (.istore 4, 2) := by decide +kernel
theorem dX9_makeGood_34 : decode cX9_makeGood 34 = .ok (.sipush 723, 3) := by decide +kernel
theorem dX9_makeGood_37 : decode cX9_makeGood 37 = .ok (.iconst 4, 1) := by decide +kernel
theorem dX9_makeGood_38 : decode cX9_makeGood 38 = .ok (.iload_n 2, 1) := by decide +kernel
theorem dX9_makeGood_39 : decode cX9_makeGood 39 = .ok (.imul, 1) := by decide +kernel
theorem dX9_makeGood_40 : decode cX9_makeGood 40 = .ok (.iadd, 1) := by decide +kernel
theorem dX9_makeGood_41 : decode cX9_makeGood 41 = .ok (.istore 5, 2) := by decide +kernel
theorem dX9_makeGood_43 : decode cX9_makeGood 43 = .ok (.aload_n 0, 1) := by decide +kernel
theorem dX9_makeGood_44 : decode cX9_makeGood 44 = .ok (.iload_n 3, 1) := by decide +kernel
theorem dX9_makeGood_45 : decode cX9_makeGood 45 = .ok (.invokevirtual 278, 3) := by decide +kernel
theorem dX9_makeGood_48 : decode cX9_makeGood 48 = .ok (.istore 6, 2) := by decide +kernel
theorem dX9_makeGood_50 : decode cX9_makeGood 50 = .ok (.iload 6, 2) := by decide +kernel
theorem dX9_makeGood_52 : decode cX9_makeGood 52 = .ok (.iconst (-1), 1) := by decide +kernel
theorem dX9_makeGood_53 : decode cX9_makeGood 53 = .ok (.if_icmp .eq 50, 3) := by decide +kernel
theorem dX9_makeGood_56 : decode cX9_makeGood 56 = .ok (.aload_n 0, 1) := by decide +kernel
theorem dX9_makeGood_57 : decode cX9_makeGood 57 = .ok (.iload 6, 2) := by decide +kernel
theorem dX9_makeGood_59 : decode cX9_makeGood 59 = .ok (.aload_n 0, 1) := by decide +kernel
theorem dX9_makeGood_60 : decode cX9_makeGood 60 = .ok (.aload_n 0, 1) := by decide +kernel
theorem dX9_makeGood_61 : decode cX9_makeGood 61 = .ok (.getfield 17, 3) := by decide +kernel
theorem dX9_makeGood_64 : decode cX9_makeGood 64 = .ok (.iload 4, 2) := by decide +kernel
theorem dX9_makeGood_66 : decode cX9_makeGood 66 = .ok (.iaload, 1) := by decide +kernel
theorem dX9_makeGood_67 : decode cX9_makeGood 67 = .ok (.iload 6, 2) := by decide +kernel
theorem dX9_makeGood_69 : decode cX9_makeGood 69 = .ok (.invokevirtual 205, 3) := by decide +kernel
theorem dX9_makeGood_72 : decode cX9_makeGood 72 = .ok (.aload_n 0, 1) := by decide +kernel
theorem dX9_makeGood_73 : decode cX9_makeGood 73 = .ok (.getfield 17, 3) := by decide +kernel
theorem dX9_makeGood_76 : decode cX9_makeGood 76 = .ok (.iload 4, 2) := by decide +kernel
theorem dX9_makeGood_78 : decode cX9_makeGood 78 = .ok (.iaload, 1) := by decide +kernel
theorem dX9_makeGood_79 : decode cX9_makeGood 79 = .ok (.aload_n 0, 1) := by decide +kernel
theorem dX9_makeGood_80 : decode cX9_makeGood 80 = .ok (.getfield 17, 3) := by decide +kernel
theorem dX9_makeGood_83 : decode cX9_makeGood 83 = .ok (.iload 4, 2) := by decide +kernel
theorem dX9_makeGood_85 : decode cX9_makeGood 85 = .ok (.iconst 1, 1) := by decide +kernel
theorem dX9_makeGood_86 : decode cX9_makeGood 86 = .ok (.iadd, 1) := by decide +kernel
theorem dX9_makeGood_87 : decode cX9_makeGood 87 = .ok (.iaload, 1) := by decide +kernel
theorem dX9_makeGood_88 : decode cX9_makeGood 88 = .ok (.aload_n 0, 1) := by decide +kernel
theorem dX9_makeGood_89 : decode cX9_makeGood 89 = .ok (.getfield 17, 3) := by decide +kernel
theorem dX9_makeGood_92 : decode cX9_makeGood 92 = .ok (.iload 4, 2) := by decide +kernel
theorem dX9_makeGood_94 : decode cX9_makeGood 94 = .ok (.iconst 2, 1) := by decide +kernel
theorem dX9_makeGood_95 : decode cX9_makeGood 95 = .ok (.iadd, 1) := by decide +kernel
theorem dX9_makeGood_96 : decode cX9_makeGood 96 = .ok (.iaload, 1) := by decide +kernel
theorem dX9_makeGood_97 : decode cX9_makeGood 97 = .ok (.invokevirtual 265, 3) := by decide +kernel
theorem dX9_makeGood_100 : decode cX9_makeGood 100 = .ok (.goto 41, 3) := by decide +kernel
theorem dX9_makeGood_103 : decode cX9_makeGood 103 = .ok (.iconst 0, 1) := by decide +kernel
theorem dX9_makeGood_104 : decode cX9_makeGood 104 = .ok (.istore 7, 2) := by decide +kernel
theorem dX9_makeGood_106 : decode cX9_makeGood 106 = .ok (.iload 7, 2) := by decide +kernel
theorem dX9_makeGood_108 : decode cX9_makeGood 108 = .ok (.iconst 4, 1) := by decide +kernel
theorem dX9_makeGood_109 : decode cX9_makeGood 109 = .ok (.if_icmp .ge 29, 3) := by decide +kernel
theorem dX9_makeGood_112 : decode cX9_makeGood 112 = .ok (.aload_n 0, 1) := by decide +kernel
theorem dX9_makeGood_113 : decode cX9_makeGood 113 = .ok (.getfield 17, 3) := by decide +kernel
theorem dX9_makeGood_116 : decode cX9_makeGood 116 = .ok (.iload 5, 2) := by decide +kernel
theorem dX9_makeGood_118 : decode cX9_makeGood 118 = .ok (.iload 7, 2) := by decide +kernel
theorem dX9_makeGood_120 : decode cX9_makeGood 120 = .ok (.iadd, 1) := by decide +kernel
theorem dX9_makeGood_121 : decode cX9_makeGood 121 = .ok (.aload_n 0, 1) := by decide +kernel
theorem dX9_makeGood_122 : decode cX9_makeGood 122 = .ok (.getfield 17, 3) := by decide +kernel
theorem dX9_makeGood_125 : decode cX9_makeGood 125 = .ok (.iload 4, 2) := by decide +kernel
theorem dX9_makeGood_127 : decode cX9_makeGood 127 = .ok (.iload 7, 2) := by decide +kernel
theorem dX9_makeGood_129 : decode cX9_makeGood 129 = .ok (.iadd, 1) := by decide +kernel
theorem dX9_makeGood_130 : decode cX9_makeGood 130 = .ok (.iaload, 1) := by decide +kernel
theorem dX9_makeGood_131 : decode cX9_makeGood 131 = .ok (.iastore, 1) := by decide +kernel
theorem dX9_makeGood_132 : decode cX9_makeGood 132 = .ok (.iinc 7 1, 3) := by decide +kernel
theorem dX9_makeGood_135 : decode cX9_makeGood 135 = .ok (.goto (-29), 3) := by decide +kernel
theorem dX9_makeGood_138 : decode cX9_makeGood 138 = .ok (.iinc 2 1, 3) := by decide +kernel
theorem dX9_makeGood_141 : decode cX9_makeGood 141 = .ok (.iinc 3 1, 3) := by decide +kernel
theorem dX9_makeGood_144 : decode cX9_makeGood 144 = .ok (.goto (-124), 3) := by decide +kernel
theorem dX9_makeGood_147 : decode cX9_makeGood 147 = .ok (.aload_n 0, 1) := by decide +kernel
theorem dX9_makeGood_148 : decode cX9_makeGood 148 = .ok (.getfield 17, 3) := by decide +kernel
theorem dX9_makeGood_151 : decode cX9_makeGood 151 = .ok (.iconst 5, 1) := by decide +kernel
theorem dX9_makeGood_152 : decode cX9_makeGood 152 = .ok (.iload_n 2, 1) := by decide +kernel
theorem dX9_makeGood_153 : decode cX9_makeGood 153 = .ok (.iastore, 1) := by decide +kernel
theorem dX9_makeGood_154 : decode cX9_makeGood 154 = .ok (.iload_n 1, 1) := by decide +kernel
theorem dX9_makeGood_155 : decode cX9_makeGood 155 = .ok (.iload_n 2, 1) := by decide +kernel
theorem dX9_makeGood_156 : decode cX9_makeGood 156 = .ok (.isub, 1) := by decide +kernel
theorem dX9_makeGood_157 : decode cX9_makeGood 157 = .ok (.ireturn, 1) := by decide +kernel
theorem dX9_campaign_0 : decode cX9_campaign 0 = .ok (.aload_n 0, 1) := by decide +kernel
theorem dX9_campaign_1 : decode cX9_campaign 1 = .ok (.iconst 0, 1) := by decide +kernel
theorem dX9_campaign_2 : decode cX9_campaign 2 = .ok (.putfield 41, 3) := by decide +kernel
theorem dX9_campaign_5 : decode cX9_campaign 5 = .ok (.aload_n 0, 1) := by decide +kernel
theorem dX9_campaign_6 : decode cX9_campaign 6 = .ok (.iload_n 1, 1) := by decide +kernel
theorem dX9_campaign_7 : decode cX9_campaign 7 = .ok (.invokevirtual 232, 3) := by decide +kernel
theorem dX9_campaign_10 : decode cX9_campaign 10 = .ok (.ifCond .ne 34, 3) := by decide +kernel
theorem dX9_campaign_13 : decode cX9_campaign 13 = .ok (.aload_n 0, 1) := by decide +kernel
theorem dX9_campaign_14 : decode cX9_campaign 14 = .ok (.iload_n 2, 1) := by decide +kernel
theorem dX9_campaign_15 : decode cX9_campaign 15 = .ok (.invokevirtual 238, 3) := by decide +kernel
theorem dX9_campaign_18 : decode cX9_campaign 18 = .ok (.ifCond .ne 26, 3) := by decide +kernel
theorem dX9_campaign_21 : decode cX9_campaign 21 = .ok (.aload_n 0, 1) := by decide +kernel
theorem dX9_campaign_22 : decode cX9_campaign 22 = .ok (.iload_n 3, 1) := by decide +kernel
theorem dX9_campaign_23 : decode cX9_campaign 23 = .ok (.iconst 1, 1) := by decide +kernel
theorem dX9_campaign_24 : decode cX9_campaign 24 = .ok (.bipush 20, 2) := by decide +kernel
theorem dX9_campaign_26 : decode cX9_campaign 26 = .ok (.invokestatic 66, 3) := by decide +kernel
theorem dX9_campaign_29 : decode cX9_campaign 29 = .ok (.ifCond .ne 7, 3) := by decide +kernel
theorem dX9_campaign_32 : decode cX9_campaign 32 = .ok (.iconst 1, 1) := by decide +kernel
theorem dX9_campaign_33 : decode cX9_campaign 33 = .ok (.goto 4, 3) := by decide +kernel
theorem dX9_campaign_36 : decode cX9_campaign 36 = .ok (.iconst 0, 1) := by decide +kernel
theorem dX9_campaign_37 : decode cX9_campaign 37 = .ok (.iconst 2, 1) := by decide +kernel
theorem dX9_campaign_38 : decode cX9_campaign 38 = .ok (.invokevirtual 166, 3) := by decide +kernel
theorem dX9_campaign_41 : decode cX9_campaign 41 = .ok (.ifCond .eq 5, 3) := by decide +kernel
theorem dX9_campaign_44 : decode cX9_campaign 44 = .ok (.iconst 0, 1) := by decide +kernel
theorem dX9_campaign_45 : decode cX9_campaign 45 = .ok (.ireturn, 1) := by decide +kernel
theorem dX9_campaign_46 : decode cX9_campaign 46 = .ok (.aload_n 0, 1) := by decide +kernel
theorem dX9_campaign_47 : decode cX9_campaign 47 = .ok (.invokevirtual 178, 3) := by decide +kernel
theorem dX9_campaign_50 : decode cX9_campaign 50 = .ok (.iconst 0, 1) := by decide +kernel
theorem dX9_campaign_51 : decode cX9_campaign 51 = .ok (.istore 4, 2) := by decide +kernel
theorem dX9_campaign_53 : decode cX9_campaign 53 = .ok (.aload_n 0, 1) := by decide +kernel
theorem dX9_campaign_54 : decode cX9_campaign 54 = .ok (.iload_n 1, 1) := by decide +kernel
theorem dX9_campaign_55 : decode cX9_campaign 55 = .ok (.iload_n 2, 1) := by decide +kernel
theorem dX9_campaign_56 : decode cX9_campaign 56 = .ok (.invokevirtual 247, 3) := by decide +kernel
theorem dX9_campaign_59 : decode cX9_campaign 59 = .ok (.istore 5, 2) := by decide +kernel
theorem dX9_campaign_61 : decode cX9_campaign 61 = .ok (.iload 5, 2) := by decide +kernel
theorem dX9_campaign_63 : decode cX9_campaign 63 = .ok (.iconst (-1), 1) := by decide +kernel
theorem dX9_campaign_64 : decode cX9_campaign 64 = .ok (.if_icmp .eq 33, 3) := by decide +kernel
theorem dX9_campaign_67 : decode cX9_campaign 67 = .ok (.iload 4, 2) := by decide +kernel
theorem dX9_campaign_69 : decode cX9_campaign 69 = .ok (.iload_n 3, 1) := by decide +kernel
theorem dX9_campaign_70 : decode cX9_campaign 70 = .ok (.if_icmp .ge 27, 3) := by decide +kernel
theorem dX9_campaign_73 : decode cX9_campaign 73 = .ok (.aload_n 0, 1) := by decide +kernel
theorem dX9_campaign_74 : decode cX9_campaign 74 = .ok (.iload_n 1, 1) := by decide +kernel
theorem dX9_campaign_75 : decode cX9_campaign 75 = .ok (.iload_n 2, 1) := by decide +kernel
theorem dX9_campaign_76 : decode cX9_campaign 76 = .ok (.iload 5, 2) := by decide +kernel
theorem dX9_campaign_78 : decode cX9_campaign 78 = .ok (.invokevirtual 269, 3) := by decide +kernel
theorem dX9_campaign_81 : decode cX9_campaign 81 = .ok (.istore 6, 2) := by decide +kernel
theorem dX9_campaign_83 : decode cX9_campaign 83 = .ok (.iinc 4 1, 3) := by decide +kernel
theorem dX9_campaign_86 : decode cX9_campaign 86 = .ok (.aload_n 0, 1) := by decide +kernel
theorem dX9_campaign_87 : decode cX9_campaign 87 = .ok (.iload_n 1, 1) := by decide +kernel
theorem dX9_campaign_88 : decode cX9_campaign 88 = .ok (.iload_n 2, 1) := by decide +kernel
theorem dX9_campaign_89 : decode cX9_campaign 89 = .ok (.invokevirtual 247, 3) := by decide +kernel
theorem dX9_campaign_92 : decode cX9_campaign 92 = .ok (.istore 5, 2) := by decide +kernel
theorem dX9_campaign_94 : decode cX9_campaign 94 = .ok (.goto (-33), 3) := by decide +kernel
theorem dX9_campaign_97 : decode cX9_campaign 97 = .ok (.iload 4, 2) := by decide +kernel
theorem dX9_campaign_99 : decode cX9_campaign 99 = .ok (.ireturn, 1) := by decide +kernel
theorem dX9_setCap_0 : decode cX9_setCap 0 = .ok (.aload_n 0, 1) := by decide +kernel
theorem dX9_setCap_1 : decode cX9_setCap 1 = .ok (.iconst 0, 1) := by decide +kernel
theorem dX9_setCap_2 : decode cX9_setCap 2 = .ok (.putfield 41, 3) := by decide +kernel
theorem dX9_setCap_5 : decode cX9_setCap 5 = .ok (.aload_n 0, 1) := by decide +kernel
theorem dX9_setCap_6 : decode cX9_setCap 6 = .ok (.iload_n 1, 1) := by decide +kernel
theorem dX9_setCap_7 : decode cX9_setCap 7 = .ok (.invokevirtual 232, 3) := by decide +kernel
theorem dX9_setCap_10 : decode cX9_setCap 10 = .ok (.ifCond .ne 26, 3) := by decide +kernel
theorem dX9_setCap_13 : decode cX9_setCap 13 = .ok (.aload_n 0, 1) := by decide +kernel
theorem dX9_setCap_14 : decode cX9_setCap 14 = .ok (.iload_n 2, 1) := by decide +kernel
theorem dX9_setCap_15 : decode cX9_setCap 15 = .ok (.iconst 1, 1) := by decide +kernel
theorem dX9_setCap_16 : decode cX9_setCap 16 = .ok (.bipush 9, 2) := by decide +kernel
theorem dX9_setCap_18 : decode cX9_setCap 18 = .ok (.invokestatic 66, 3) := by decide +kernel
theorem dX9_setCap_21 : decode cX9_setCap 21 = .ok (.ifCond .ne 7, 3) := by decide +kernel
theorem dX9_setCap_24 : decode cX9_setCap 24 = .ok (.iconst 1, 1) := by decide +kernel
theorem dX9_setCap_25 : decode cX9_setCap 25 = .ok (.goto 4, 3) := by decide +kernel
theorem dX9_setCap_28 : decode cX9_setCap 28 = .ok (.iconst 0, 1) := by decide +kernel
theorem dX9_setCap_29 : decode cX9_setCap 29 = .ok (.iconst 2, 1) := by decide +kernel
theorem dX9_setCap_30 : decode cX9_setCap 30 = .ok (.invokevirtual 166, 3) := by decide +kernel
theorem dX9_setCap_33 : decode cX9_setCap 33 = .ok (.ifCond .eq 5, 3) := by decide +kernel
theorem dX9_setCap_36 : decode cX9_setCap 36 = .ok (.iconst 0, 1) := by decide +kernel
theorem dX9_setCap_37 : decode cX9_setCap 37 = .ok (.ireturn, 1) := by decide +kernel
theorem dX9_setCap_38 : decode cX9_setCap 38 = .ok (.aload_n 0, 1) := by decide +kernel
theorem dX9_setCap_39 : decode cX9_setCap 39 = .ok (.invokevirtual 178, 3) := by decide +kernel
theorem dX9_setCap_42 : decode cX9_setCap 42 = .ok (.aload_n 0, 1) := by decide +kernel
theorem dX9_setCap_43 : decode cX9_setCap 43 = .ok (.getfield 17, 3) := by decide +kernel
theorem dX9_setCap_46 : decode cX9_setCap 46 = .ok (.sipush 607, 3) := by decide +kernel
theorem dX9_setCap_49 : decode cX9_setCap 49 = .ok (.iconst 2, 1) := by decide +kernel
theorem dX9_setCap_50 : decode cX9_setCap 50 = .ok (.iload_n 1, 1) := by decide +kernel
theorem dX9_setCap_51 : decode cX9_setCap 51 = .ok (.imul, 1) := by decide +kernel
theorem dX9_setCap_52 : decode cX9_setCap 52 = .ok (.iadd, 1) := by decide +kernel
theorem dX9_setCap_53 : decode cX9_setCap 53 = .ok (.iconst 1, 1) := by decide +kernel
theorem dX9_setCap_54 : decode cX9_setCap 54 = .ok (.iadd, 1) := by decide +kernel
theorem dX9_setCap_55 : decode cX9_setCap 55 = .ok (.iaload, 1) := by decide +kernel
theorem dX9_setCap_56 : decode cX9_setCap 56 = .ok (.istore_n 3, 1) := by decide +kernel
theorem dX9_setCap_57 : decode cX9_setCap 57 = .ok (.aload_n 0, 1) := by decide +kernel
theorem dX9_setCap_58 : decode cX9_setCap 58 = .ok (.getfield 17, 3) := by decide +kernel
theorem dX9_setCap_61 : decode cX9_setCap 61 = .ok (.sipush 607, 3) := by decide +kernel
theorem dX9_setCap_64 : decode cX9_setCap 64 = .ok (.iconst 2, 1) := by decide +kernel
theorem dX9_setCap_65 : decode cX9_setCap 65 = .ok (.iload_n 1, 1) := by decide +kernel
theorem dX9_setCap_66 : decode cX9_setCap 66 = .ok (.imul, 1) := by decide +kernel
theorem dX9_setCap_67 : decode cX9_setCap 67 = .ok (.iadd, 1) := by decide +kernel
theorem dX9_setCap_68 : decode cX9_setCap 68 = .ok (.iconst 1, 1) := by decide +kernel
theorem dX9_setCap_69 : decode cX9_setCap 69 = .ok (.iadd, 1) := by decide +kernel
theorem dX9_setCap_70 : decode cX9_setCap 70 = .ok (.iload_n 2, 1) := by decide +kernel
theorem dX9_setCap_71 : decode cX9_setCap 71 = .ok (.iastore, 1) := by decide +kernel
theorem dX9_setCap_72 : decode cX9_setCap 72 = .ok (.iload_n 3, 1) := by decide +kernel
theorem dX9_setCap_73 : decode cX9_setCap 73 = .ok (.ireturn, 1) := by decide +kernel
theorem dX9_undo_0 : decode cX9_undo 0 = .ok (.aload_n 0, 1) := by decide +kernel
theorem dX9_undo_1 : decode cX9_undo 1 = .ok (.iconst 0, 1) := by decide +kernel
theorem dX9_undo_2 : decode cX9_undo 2 = .ok (.putfield 41, 3) := by decide +kernel
theorem dX9_undo_5 : decode cX9_undo 5 = .ok (.aload_n 0, 1) := by decide +kernel
theorem dX9_undo_6 : decode cX9_undo 6 = .ok (.getfield 262, 3) := by decide +kernel
theorem dX9_undo_9 : decode cX9_undo 9 = .ok (.ifCond .ne 5, 3) := by decide +kernel
theorem dX9_undo_12 : decode cX9_undo 12 = .ok (.iconst (-1), 1) := by decide +kernel
theorem dX9_undo_13 : decode cX9_undo 13 = .ok (.ireturn, 1) := by decide +kernel
theorem dX9_undo_14 : decode cX9_undo 14 = .ok (.aload_n 0, 1) := by decide +kernel
theorem dX9_undo_15 : decode cX9_undo 15 = .ok (.dup, 1) := by decide +kernel
theorem dX9_undo_16 : decode cX9_undo 16 = .ok (.getfield 262, 3) := by decide +kernel
theorem dX9_undo_19 : decode cX9_undo 19 = .ok (.iconst 1, 1) := by decide +kernel
theorem dX9_undo_20 : decode cX9_undo 20 = .ok (.isub, 1) := by decide +kernel
theorem dX9_undo_21 : decode cX9_undo 21 = .ok (.putfield 262, 3) := by decide +kernel
theorem dX9_undo_24 : decode cX9_undo 24 = .ok (.aload_n 0, 1) := by decide +kernel
theorem dX9_undo_25 : decode cX9_undo 25 = .ok (.getfield 25, 3) := by decide +kernel
theorem dX9_undo_28 : decode cX9_undo 28 = .ok (.aload_n 0, 1) := by decide +kernel
theorem dX9_undo_29 : decode cX9_undo 29 = .ok (.getfield 262, 3) := by decide +kernel
theorem dX9_undo_32 : decode cX9_undo 32 = .ok (.aaload, 1) := by decide +kernel
theorem dX9_undo_33 : decode cX9_undo 33 = .ok (.aload_n 0, 1) := by decide +kernel
theorem dX9_undo_34 : decode cX9_undo 34 = .ok (.getfield 17, 3) := by decide +kernel
theorem dX9_undo_37 : decode cX9_undo 37 = .ok (.invokestatic 181, 3) := by decide +kernel
theorem dX9_undo_40 : decode cX9_undo 40 = .ok (.aload_n 0, 1) := by decide +kernel
theorem dX9_undo_41 : decode cX9_undo 41 = .ok (.getfield 262, 3) := by decide +kernel
theorem dX9_undo_44 : decode cX9_undo 44 = .ok (.ireturn, 1) := by decide +kernel
theorem dX9_checksum_0 : decode cX9_checksum 0 = .ok (.aload_n 0, 1) := by decide +kernel
theorem dX9_checksum_1 : decode cX9_checksum 1 = .ok (.iconst 0, 1) := by decide +kernel
theorem dX9_checksum_2 : decode cX9_checksum 2 = .ok (.putfield 41, 3) := by decide +kernel
theorem dX9_checksum_5 : decode cX9_checksum 5 = .ok (.lconst 0, 1) := by decide +kernel
theorem dX9_checksum_6 : decode cX9_checksum 6 = .ok (.lstore_n 1, 1) := by decide +kernel
theorem dX9_checksum_7 : decode cX9_checksum 7 = .ok (.iconst 0, 1) := by decide +kernel
theorem dX9_checksum_8 : decode cX9_checksum 8 = .ok (.istore_n 3, 1) := by decide +kernel
theorem dX9_checksum_9 : decode cX9_checksum 9 = .ok (.iload_n 3, 1) := by decide +kernel
theorem dX9_checksum_10 : decode cX9_checksum 10 = .ok (.aload_n 0, 1) := by decide +kernel
theorem dX9_checksum_11 : decode cX9_checksum 11 = .ok (.getfield 17, 3) := by decide +kernel
theorem dX9_checksum_14 : decode cX9_checksum 14 = .ok (.iconst 0, 1) := by decide +kernel
theorem dX9_checksum_15 : decode cX9_checksum 15 = .ok (.iaload, 1) := by decide +kernel
theorem dX9_checksum_16 : decode cX9_checksum 16 = .ok (.if_icmp .ge 70, 3) := by decide +kernel
theorem dX9_checksum_19 : decode cX9_checksum 19 = .ok (.ldc2_w 281, 3) := by decide +kernel
theorem dX9_checksum_22 : decode cX9_checksum 22 = .ok (.lload_n 1, 1) := by decide +kernel
theorem dX9_checksum_23 : decode cX9_checksum 23 = .ok (.lmul, 1) := by decide +kernel
theorem dX9_checksum_24 : decode cX9_checksum 24 = .ok (.aload_n 0, 1) := by decide +kernel
theorem dX9_checksum_25 : decode cX9_checksum 25 = .ok (.getfield 17, 3) := by decide +kernel
theorem dX9_checksum_28 : decode cX9_checksum 28 = .ok (.iload_n 3, 1) := by decide +kernel
theorem dX9_checksum_29 : decode cX9_checksum 29 = .ok (.invokestatic 44, 3) := by decide +kernel
theorem dX9_checksum_32 : decode cX9_checksum 32 = .ok (.iconst 4, 1) := by decide +kernel
theorem dX9_checksum_33 : decode cX9_checksum 33 = .ok (.iadd, 1) := by decide +kernel
theorem dX9_checksum_34 : decode cX9_checksum 34 = .ok (.iaload, 1) := by decide +kernel
theorem dX9_checksum_35 : decode cX9_checksum 35 = .ok (.i2l, 1) := by decide +kernel
theorem dX9_checksum_36 : decode cX9_checksum 36 = .ok (.ladd, 1) := by decide +kernel
theorem dX9_checksum_37 : decode cX9_checksum 37 = .ok (.lstore_n 1, 1) := by decide +kernel
theorem dX9_checksum_38 : decode cX9_checksum 38 = .ok (.iconst 0, 1) := by decide +kernel
theorem dX9_checksum_39 : decode cX9_checksum 39 = .ok (.istore 4, 2) := by decide +kernel
theorem dX9_checksum_41 : decode cX9_checksum 41 = .ok (.iload 4, 2) := by decide +kernel
theorem dX9_checksum_43 : decode cX9_checksum 43 = .ok (.iconst 3, 1) := by decide +kernel
theorem dX9_checksum_44 : decode cX9_checksum 44 = .ok (.aload_n 0, 1) := by decide +kernel
theorem dX9_checksum_45 : decode cX9_checksum 45 = .ok (.iload_n 3, 1) := by decide +kernel
theorem dX9_checksum_46 : decode cX9_checksum 46 = .ok (.invokevirtual 185, 3) := by decide +kernel
theorem dX9_checksum_49 : decode cX9_checksum 49 = .ok (.imul, 1) := by decide +kernel
theorem dX9_checksum_50 : decode cX9_checksum 50 = .ok (.if_icmp .ge 30, 3) := by decide +kernel
theorem dX9_checksum_53 : decode cX9_checksum 53 = .ok (.ldc2_w 281, 3) := by decide +kernel
theorem dX9_checksum_56 : decode cX9_checksum 56 = .ok (.lload_n 1, 1) := by decide +kernel
theorem dX9_checksum_57 : decode cX9_checksum 57 = .ok (.lmul, 1) := by decide +kernel
theorem dX9_checksum_58 : decode cX9_checksum 58 = .ok (.aload_n 0, 1) := by decide +kernel
theorem dX9_checksum_59 : decode cX9_checksum 59 = .ok (.getfield 17, 3) := by decide +kernel
theorem dX9_checksum_62 : decode cX9_checksum 62 = .ok (.iload_n 3, 1) := by decide +kernel
theorem dX9_checksum_63 : decode cX9_checksum 63 = .ok (.iconst 0, 1) := by decide +kernel
theorem dX9_checksum_64 : decode cX9_checksum 64 = .ok (.invokestatic 188, 3) := by decide +kernel
theorem dX9_checksum_67 : decode cX9_checksum 67 = .ok (.iload 4, 2) := by decide +kernel
theorem dX9_checksum_69 : decode cX9_checksum 69 = .ok (.iadd, 1) := by decide +kernel
theorem dX9_checksum_70 : decode cX9_checksum 70 = .ok (.iaload, 1) := by decide +kernel
theorem dX9_checksum_71 : decode cX9_checksum 71 = .ok (.i2l, 1) := by decide +kernel
theorem dX9_checksum_72 : decode cX9_checksum 72 = .ok (.ladd, 1) := by decide +kernel
theorem dX9_checksum_73 : decode cX9_checksum 73 = .ok (.lstore_n 1, 1) := by decide +kernel
theorem dX9_checksum_74 : decode cX9_checksum 74 = .ok (.iinc 4 1, 3) := by decide +kernel
theorem dX9_checksum_77 : decode cX9_checksum 77 = .ok (.goto (-36), 3) := by decide +kernel
theorem dX9_checksum_80 : decode cX9_checksum 80 = .ok (.iinc 3 1, 3) := by decide +kernel
theorem dX9_checksum_83 : decode cX9_checksum 83 = .ok (.goto (-74), 3) := by decide +kernel
theorem dX9_checksum_86 : decode cX9_checksum 86 = .ok (.iconst 0, 1) := by decide +kernel
theorem dX9_checksum_87 : decode cX9_checksum 87 = .ok (.istore_n 3, 1) := by decide +kernel
theorem dX9_checksum_88 : decode cX9_checksum 88 = .ok (.iload_n 3, 1) := by decide +kernel
theorem dX9_checksum_89 : decode cX9_checksum 89 = .ok (.iconst 4, 1) := by decide +kernel
theorem dX9_checksum_90 : decode cX9_checksum 90 = .ok (.aload_n 0, 1) := by decide +kernel
theorem dX9_checksum_91 : decode cX9_checksum 91 = .ok (.getfield 17, 3) := by decide +kernel
theorem dX9_checksum_94 : decode cX9_checksum 94 = .ok (.iconst 5, 1) := by decide +kernel
theorem dX9_checksum_95 : decode cX9_checksum 95 = .ok (.iaload, 1) := by decide +kernel
theorem dX9_checksum_96 : decode cX9_checksum 96 = .ok (.imul, 1) := by decide +kernel
theorem dX9_checksum_97 : decode cX9_checksum 97 = .ok (.if_icmp .ge 27, 3) := by decide +kernel
theorem dX9_checksum_100 : decode cX9_checksum 100 = .ok (.ldc2_w 281, 3) := by decide +kernel
theorem dX9_checksum_103 : decode cX9_checksum 103 = .ok (.lload_n 1, 1) := by decide +kernel
theorem dX9_checksum_104 : decode cX9_checksum 104 = .ok (.lmul, 1) := by decide +kernel
theorem dX9_checksum_105 : decode cX9_checksum 105 = .ok (.aload_n 0, 1) := by decide +kernel
theorem dX9_checksum_106 : decode cX9_checksum 106 = .ok (.getfield 17, 3) := by decide +kernel
theorem dX9_checksum_109 : decode cX9_checksum 109 = .ok (.sipush 723, 3) := by decide +kernel
theorem dX9_checksum_112 : decode cX9_checksum 112 = .ok (.iload_n 3, 1) := by decide +kernel
theorem dX9_checksum_113 : decode cX9_checksum 113 = .ok (.iadd, 1) := by decide +kernel
theorem dX9_checksum_114 : decode cX9_checksum 114 = .ok (.iaload, 1) := by decide +kernel
theorem dX9_checksum_115 : decode cX9_checksum 115 = .ok (.i2l, 1) := by decide +kernel
theorem dX9_checksum_116 : decode cX9_checksum 116 = .ok (.ladd, 1) := by decide +kernel
theorem dX9_checksum_117 : decode cX9_checksum 117 = .ok (.lstore_n 1, 1) := by decide +kernel
theorem dX9_checksum_118 : decode cX9_checksum 118 = .ok (.iinc 3 1, 3) := by decide +kernel
theorem dX9_checksum_121 : decode cX9_checksum 121 = .ok (.goto (-33), 3) := by decide +kernel
theorem dX9_checksum_124 : decode cX9_checksum 124 = .ok (.iconst 0, 1) := by decide +kernel
theorem dX9_checksum_125 : decode cX9_checksum 125 = .ok (.istore_n 3, 1) := by decide +kernel
theorem dX9_checksum_126 : decode cX9_checksum 126 = .ok (.iload_n 3, 1) := by decide +kernel
theorem dX9_checksum_127 : decode cX9_checksum 127 = .ok (.aload_n 0, 1) := by decide +kernel
theorem dX9_checksum_128 : decode cX9_checksum 128 = .ok (.getfield 17, 3) := by decide +kernel
theorem dX9_checksum_131 : decode cX9_checksum 131 = .ok (.iconst 1, 1) := by decide +kernel
theorem dX9_checksum_132 : decode cX9_checksum 132 = .ok (.iaload, 1) := by decide +kernel
theorem dX9_checksum_133 : decode cX9_checksum 133 = .ok (.if_icmp .ge 31, 3) := by decide +kernel
theorem dX9_checksum_136 : decode cX9_checksum 136 = .ok (.ldc2_w 281, 3) := by decide +kernel
theorem dX9_checksum_139 : decode cX9_checksum 139 = .ok (.lload_n 1, 1) := by decide +kernel
theorem dX9_checksum_140 : decode cX9_checksum 140 = .ok (.lmul, 1) := by decide +kernel
theorem dX9_checksum_141 : decode cX9_checksum 141 = .ok (.aload_n 0, 1) := by decide +kernel
theorem dX9_checksum_142 : decode cX9_checksum 142 = .ok (.getfield 17, 3) := by decide +kernel
theorem dX9_checksum_145 : decode cX9_checksum 145 = .ok (.sipush 607, 3) := by decide +kernel
theorem dX9_checksum_148 : decode cX9_checksum 148 = .ok (.iconst 2, 1) := by decide +kernel
theorem dX9_checksum_149 : decode cX9_checksum 149 = .ok (.iload_n 3, 1) := by decide +kernel
theorem dX9_checksum_150 : decode cX9_checksum 150 = .ok (.imul, 1) := by decide +kernel
theorem dX9_checksum_151 : decode cX9_checksum 151 = .ok (.iadd, 1) := by decide +kernel
theorem dX9_checksum_152 : decode cX9_checksum 152 = .ok (.iconst 1, 1) := by decide +kernel
theorem dX9_checksum_153 : decode cX9_checksum 153 = .ok (.iadd, 1) := by decide +kernel
theorem dX9_checksum_154 : decode cX9_checksum 154 = .ok (.iaload, 1) := by decide +kernel
theorem dX9_checksum_155 : decode cX9_checksum 155 = .ok (.i2l, 1) := by decide +kernel
theorem dX9_checksum_156 : decode cX9_checksum 156 = .ok (.ladd, 1) := by decide +kernel
theorem dX9_checksum_157 : decode cX9_checksum 157 = .ok (.lstore_n 1, 1) := by decide +kernel
theorem dX9_checksum_158 : decode cX9_checksum 158 = .ok (.iinc 3 1, 3) := by decide +kernel
theorem dX9_checksum_161 : decode cX9_checksum 161 = .ok (.goto (-35), 3) := by decide +kernel
theorem dX9_checksum_164 : decode cX9_checksum 164 = .ok (.ldc2_w 281, 3) := by decide +kernel
theorem dX9_checksum_167 : decode cX9_checksum 167 = .ok (.lload_n 1, 1) := by decide +kernel
theorem dX9_checksum_168 : decode cX9_checksum 168 = .ok (.lmul, 1) := by decide +kernel
theorem dX9_checksum_169 : decode cX9_checksum 169 = .ok (.aload_n 0, 1) := by decide +kernel
theorem dX9_checksum_170 : decode cX9_checksum 170 = .ok (.getfield 17, 3) := by decide +kernel
theorem dX9_checksum_173 : decode cX9_checksum 173 = .ok (.bipush 6, 2) := by decide +kernel
theorem dX9_checksum_175 : decode cX9_checksum 175 = .ok (.iaload, 1) := by decide +kernel
theorem dX9_checksum_176 : decode cX9_checksum 176 = .ok (.i2l, 1) := by decide +kernel
theorem dX9_checksum_177 : decode cX9_checksum 177 = .ok (.ladd, 1) := by decide +kernel
theorem dX9_checksum_178 : decode cX9_checksum 178 = .ok (.lreturn, 1) := by decide +kernel
theorem dL_load_0 : decode cL_load 0 = .ok (.aload_n 2, 1) := by decide +kernel
theorem dL_load_1 : decode cL_load 1 = .ok (.iconst 0, 1) := by decide +kernel
theorem dL_load_2 : decode cL_load 2 = .ok (.aload_n 0, 1) := by decide +kernel
theorem dL_load_3 : decode cL_load 3 = .ok (.iload_n 1, 1) := by decide +kernel
theorem dL_load_4 : decode cL_load 4 = .ok (.invokevirtual 7, 3) := by decide +kernel
theorem dL_load_7 : decode cL_load 7 = .ok (.i2l, 1) := by decide +kernel
theorem dL_load_8 : decode cL_load 8 = .ok (.lastore, 1) := by decide +kernel
theorem dL_load_9 : decode cL_load 9 = .ok (.goto 6, 3) := by decide +kernel
theorem dL_load_12 : decode cL_load 12 = .ok (.astore_n 3, 1) := by decide +kernel
theorem dL_load_13 : decode cL_load 13 = .ok (.iconst 1, 1) := by decide +kernel
theorem dL_load_14 : decode cL_load 14 = .ok (.ireturn, 1) := by decide +kernel
theorem dL_load_15 : decode cL_load 15 = .ok (.iconst 0, 1) := by decide +kernel
theorem dL_load_16 : decode cL_load 16 = .ok (.ireturn, 1) := by decide +kernel
theorem dL_breakOf_0 : decode cL_breakOf 0 = .ok (.aload_n 3, 1) := by decide +kernel
theorem dL_breakOf_1 : decode cL_breakOf 1 = .ok (.iconst 0, 1) := by decide +kernel
theorem dL_breakOf_2 : decode cL_breakOf 2 = .ok (.aload_n 0, 1) := by decide +kernel
theorem dL_breakOf_3 : decode cL_breakOf 3 = .ok (.iload_n 1, 1) := by decide +kernel
theorem dL_breakOf_4 : decode cL_breakOf 4 = .ok (.iload_n 2, 1) := by decide +kernel
theorem dL_breakOf_5 : decode cL_breakOf 5 = .ok (.invokevirtual 15, 3) := by decide +kernel
theorem dL_breakOf_8 : decode cL_breakOf 8 = .ok (.i2l, 1) := by decide +kernel
theorem dL_breakOf_9 : decode cL_breakOf 9 = .ok (.lastore, 1) := by decide +kernel
theorem dL_breakOf_10 : decode cL_breakOf 10 = .ok (.goto 11, 3) := by decide +kernel
theorem dL_breakOf_13 : decode cL_breakOf 13 = .ok (.astore 4, 2) := by decide +kernel
theorem dL_breakOf_15 : decode cL_breakOf 15 = .ok (.iconst 1, 1) := by decide +kernel
theorem dL_breakOf_16 : decode cL_breakOf 16 = .ok (.ireturn, 1) := by decide +kernel
theorem dL_breakOf_17 : decode cL_breakOf 17 = .ok (.astore 4, 2) := by decide +kernel
theorem dL_breakOf_19 : decode cL_breakOf 19 = .ok (.iconst 2, 1) := by decide +kernel
theorem dL_breakOf_20 : decode cL_breakOf 20 = .ok (.ireturn, 1) := by decide +kernel
theorem dL_breakOf_21 : decode cL_breakOf 21 = .ok (.iconst 0, 1) := by decide +kernel
theorem dL_breakOf_22 : decode cL_breakOf 22 = .ok (.ireturn, 1) := by decide +kernel
theorem dL_spot_0 : decode cL_spot 0 = .ok (.aload 4, 2) := by decide +kernel
theorem dL_spot_2 : decode cL_spot 2 = .ok (.iconst 0, 1) := by decide +kernel
theorem dL_spot_3 : decode cL_spot 3 = .ok (.aload_n 0, 1) := by decide +kernel
theorem dL_spot_4 : decode cL_spot 4 = .ok (.iload_n 1, 1) := by decide +kernel
theorem dL_spot_5 : decode cL_spot 5 = .ok (.iload_n 2, 1) := by decide +kernel
theorem dL_spot_6 : decode cL_spot 6 = .ok (.iload_n 3, 1) := by decide +kernel
theorem dL_spot_7 : decode cL_spot 7 = .ok (.invokevirtual 21, 3) := by decide +kernel
theorem dL_spot_10 : decode cL_spot 10 = .ok (.i2l, 1) := by decide +kernel
theorem dL_spot_11 : decode cL_spot 11 = .ok (.lastore, 1) := by decide +kernel
theorem dL_spot_12 : decode cL_spot 12 = .ok (.goto 15, 3) := by decide +kernel
theorem dL_spot_15 : decode cL_spot 15 = .ok (.astore 5, 2) := by decide +kernel
theorem dL_spot_17 : decode cL_spot 17 = .ok (.iconst 1, 1) := by decide +kernel
theorem dL_spot_18 : decode cL_spot 18 = .ok (.ireturn, 1) := by decide +kernel
theorem dL_spot_19 : decode cL_spot 19 = .ok (.astore 5, 2) := by decide +kernel
theorem dL_spot_21 : decode cL_spot 21 = .ok (.iconst 2, 1) := by decide +kernel
theorem dL_spot_22 : decode cL_spot 22 = .ok (.ireturn, 1) := by decide +kernel
theorem dL_spot_23 : decode cL_spot 23 = .ok (.astore 5, 2) := by decide +kernel
theorem dL_spot_25 : decode cL_spot 25 = .ok (.iconst 3, 1) := by decide +kernel
theorem dL_spot_26 : decode cL_spot 26 = .ok (.ireturn, 1) := by decide +kernel
theorem dL_spot_27 : decode cL_spot 27 = .ok (.iconst 0, 1) := by decide +kernel
theorem dL_spot_28 : decode cL_spot 28 = .ok (.ireturn, 1) := by decide +kernel
theorem dL_sponsor_0 : decode cL_sponsor 0 = .ok (.aload_n 3, 1) := by decide +kernel
theorem dL_sponsor_1 : decode cL_sponsor 1 = .ok (.iconst 0, 1) := by decide +kernel
theorem dL_sponsor_2 : decode cL_sponsor 2 = .ok (.aload_n 0, 1) := by decide +kernel
theorem dL_sponsor_3 : decode cL_sponsor 3 = .ok (.iload_n 1, 1) := by decide +kernel
theorem dL_sponsor_4 : decode cL_sponsor 4 = .ok (.iload_n 2, 1) := by decide +kernel
theorem dL_sponsor_5 : decode cL_sponsor 5 = .ok (.invokevirtual 27, 3) := by decide +kernel
theorem dL_sponsor_8 : decode cL_sponsor 8 = .ok (.i2l, 1) := by decide +kernel
theorem dL_sponsor_9 : decode cL_sponsor 9 = .ok (.lastore, 1) := by decide +kernel
theorem dL_sponsor_10 : decode cL_sponsor 10 = .ok (.goto 11, 3) := by decide +kernel
theorem dL_sponsor_13 : decode cL_sponsor 13 = .ok (.astore 4, 2) := by decide +kernel
theorem dL_sponsor_15 : decode cL_sponsor 15 = .ok (.iconst 1, 1) := by decide +kernel
theorem dL_sponsor_16 : decode cL_sponsor 16 = .ok (.ireturn, 1) := by decide +kernel
theorem dL_sponsor_17 : decode cL_sponsor 17 = .ok (.astore 4, 2) := by decide +kernel
theorem dL_sponsor_19 : decode cL_sponsor 19 = .ok (.iconst 2, 1) := by decide +kernel
theorem dL_sponsor_20 : decode cL_sponsor 20 = .ok (.ireturn, 1) := by decide +kernel
theorem dL_sponsor_21 : decode cL_sponsor 21 = .ok (.iconst 0, 1) := by decide +kernel
theorem dL_sponsor_22 : decode cL_sponsor 22 = .ok (.ireturn, 1) := by decide +kernel
theorem dL_isBanned_0 : decode cL_isBanned 0 = .ok (.aload_n 3, 1) := by decide +kernel
theorem dL_isBanned_1 : decode cL_isBanned 1 = .ok (.iconst 0, 1) := by decide +kernel
theorem dL_isBanned_2 : decode cL_isBanned 2 = .ok (.aload_n 0, 1) := by decide +kernel
theorem dL_isBanned_3 : decode cL_isBanned 3 = .ok (.iload_n 1, 1) := by decide +kernel
theorem dL_isBanned_4 : decode cL_isBanned 4 = .ok (.iload_n 2, 1) := by decide +kernel
theorem dL_isBanned_5 : decode cL_isBanned 5 = .ok (.invokevirtual 30, 3) := by decide +kernel
theorem dL_isBanned_8 : decode cL_isBanned 8 = .ok (.ifCond .eq 7, 3) := by decide +kernel
theorem dL_isBanned_11 : decode cL_isBanned 11 = .ok (.lconst 1, 1) := by decide +kernel
theorem dL_isBanned_12 : decode cL_isBanned 12 = .ok (.goto 4, 3) := by decide +kernel
theorem dL_isBanned_15 : decode cL_isBanned 15 = .ok (.lconst 0, 1) := by decide +kernel
theorem dL_isBanned_16 : decode cL_isBanned 16 = .ok (.lastore, 1) := by decide +kernel
theorem dL_isBanned_17 : decode cL_isBanned 17 = .ok (.goto 7, 3) := by decide +kernel
theorem dL_isBanned_20 : decode cL_isBanned 20 = .ok (.astore 4, 2) := by decide +kernel
theorem dL_isBanned_22 : decode cL_isBanned 22 = .ok (.iconst 1, 1) := by decide +kernel
theorem dL_isBanned_23 : decode cL_isBanned 23 = .ok (.ireturn, 1) := by decide +kernel
theorem dL_isBanned_24 : decode cL_isBanned 24 = .ok (.iconst 0, 1) := by decide +kernel
theorem dL_isBanned_25 : decode cL_isBanned 25 = .ok (.ireturn, 1) := by decide +kernel
theorem dL_spotsOn_0 : decode cL_spotsOn 0 = .ok (.aload_n 3, 1) := by decide +kernel
theorem dL_spotsOn_1 : decode cL_spotsOn 1 = .ok (.iconst 0, 1) := by decide +kernel
theorem dL_spotsOn_2 : decode cL_spotsOn 2 = .ok (.aload_n 0, 1) := by decide +kernel
theorem dL_spotsOn_3 : decode cL_spotsOn 3 = .ok (.iload_n 1, 1) := by decide +kernel
theorem dL_spotsOn_4 : decode cL_spotsOn 4 = .ok (.iload_n 2, 1) := by decide +kernel
theorem dL_spotsOn_5 : decode cL_spotsOn 5 = .ok (.invokevirtual 34, 3) := by decide +kernel
theorem dL_spotsOn_8 : decode cL_spotsOn 8 = .ok (.i2l, 1) := by decide +kernel
theorem dL_spotsOn_9 : decode cL_spotsOn 9 = .ok (.lastore, 1) := by decide +kernel
theorem dL_spotsOn_10 : decode cL_spotsOn 10 = .ok (.goto 11, 3) := by decide +kernel
theorem dL_spotsOn_13 : decode cL_spotsOn 13 = .ok (.astore 4, 2) := by decide +kernel
theorem dL_spotsOn_15 : decode cL_spotsOn 15 = .ok (.iconst 1, 1) := by decide +kernel
theorem dL_spotsOn_16 : decode cL_spotsOn 16 = .ok (.ireturn, 1) := by decide +kernel
theorem dL_spotsOn_17 : decode cL_spotsOn 17 = .ok (.astore 4, 2) := by decide +kernel
theorem dL_spotsOn_19 : decode cL_spotsOn 19 = .ok (.iconst 2, 1) := by decide +kernel
theorem dL_spotsOn_20 : decode cL_spotsOn 20 = .ok (.ireturn, 1) := by decide +kernel
theorem dL_spotsOn_21 : decode cL_spotsOn 21 = .ok (.iconst 0, 1) := by decide +kernel
theorem dL_spotsOn_22 : decode cL_spotsOn 22 = .ok (.ireturn, 1) := by decide +kernel
theorem dL_reason_0 : decode cL_reason 0 = .ok (.aload 4, 2) := by decide +kernel
theorem dL_reason_2 : decode cL_reason 2 = .ok (.iconst 0, 1) := by decide +kernel
theorem dL_reason_3 : decode cL_reason 3 = .ok (.aload_n 0, 1) := by decide +kernel
theorem dL_reason_4 : decode cL_reason 4 = .ok (.iload_n 1, 1) := by decide +kernel
theorem dL_reason_5 : decode cL_reason 5 = .ok (.iload_n 2, 1) := by decide +kernel
theorem dL_reason_6 : decode cL_reason 6 = .ok (.iload_n 3, 1) := by decide +kernel
theorem dL_reason_7 : decode cL_reason 7 = .ok (.invokevirtual 37, 3) := by decide +kernel
theorem dL_reason_10 : decode cL_reason 10 = .ok (.i2l, 1) := by decide +kernel
theorem dL_reason_11 : decode cL_reason 11 = .ok (.lastore, 1) := by decide +kernel
theorem dL_reason_12 : decode cL_reason 12 = .ok (.goto 11, 3) := by decide +kernel
theorem dL_reason_15 : decode cL_reason 15 = .ok (.astore 5, 2) := by decide +kernel
theorem dL_reason_17 : decode cL_reason 17 = .ok (.iconst 1, 1) := by decide +kernel
theorem dL_reason_18 : decode cL_reason 18 = .ok (.ireturn, 1) := by decide +kernel
theorem dL_reason_19 : decode cL_reason 19 = .ok (.astore 5, 2) := by decide +kernel
theorem dL_reason_21 : decode cL_reason 21 = .ok (.iconst 2, 1) := by decide +kernel
theorem dL_reason_22 : decode cL_reason 22 = .ok (.ireturn, 1) := by decide +kernel
theorem dL_reason_23 : decode cL_reason 23 = .ok (.iconst 0, 1) := by decide +kernel
theorem dL_reason_24 : decode cL_reason 24 = .ok (.ireturn, 1) := by decide +kernel
theorem dL_price_0 : decode cL_price 0 = .ok (.aload 4, 2) := by decide +kernel
theorem dL_price_2 : decode cL_price 2 = .ok (.iconst 0, 1) := by decide +kernel
theorem dL_price_3 : decode cL_price 3 = .ok (.aload_n 0, 1) := by decide +kernel
theorem dL_price_4 : decode cL_price 4 = .ok (.iload_n 1, 1) := by decide +kernel
theorem dL_price_5 : decode cL_price 5 = .ok (.iload_n 2, 1) := by decide +kernel
theorem dL_price_6 : decode cL_price 6 = .ok (.iload_n 3, 1) := by decide +kernel
theorem dL_price_7 : decode cL_price 7 = .ok (.invokevirtual 40, 3) := by decide +kernel
theorem dL_price_10 : decode cL_price 10 = .ok (.i2l, 1) := by decide +kernel
theorem dL_price_11 : decode cL_price 11 = .ok (.lastore, 1) := by decide +kernel
theorem dL_price_12 : decode cL_price 12 = .ok (.goto 11, 3) := by decide +kernel
theorem dL_price_15 : decode cL_price 15 = .ok (.astore 5, 2) := by decide +kernel
theorem dL_price_17 : decode cL_price 17 = .ok (.iconst 1, 1) := by decide +kernel
theorem dL_price_18 : decode cL_price 18 = .ok (.ireturn, 1) := by decide +kernel
theorem dL_price_19 : decode cL_price 19 = .ok (.astore 5, 2) := by decide +kernel
theorem dL_price_21 : decode cL_price 21 = .ok (.iconst 2, 1) := by decide +kernel
theorem dL_price_22 : decode cL_price 22 = .ok (.ireturn, 1) := by decide +kernel
theorem dL_price_23 : decode cL_price 23 = .ok (.iconst 0, 1) := by decide +kernel
theorem dL_price_24 : decode cL_price 24 = .ok (.ireturn, 1) := by decide +kernel
theorem dL_cheapest_0 : decode cL_cheapest 0 = .ok (.aload_n 3, 1) := by decide +kernel
theorem dL_cheapest_1 : decode cL_cheapest 1 = .ok (.iconst 0, 1) := by decide +kernel
theorem dL_cheapest_2 : decode cL_cheapest 2 = .ok (.aload_n 0, 1) := by decide +kernel
theorem dL_cheapest_3 : decode cL_cheapest 3 = .ok (.iload_n 1, 1) := by decide +kernel
theorem dL_cheapest_4 : decode cL_cheapest 4 = .ok (.iload_n 2, 1) := by decide +kernel
theorem dL_cheapest_5 : decode cL_cheapest 5 = .ok (.invokevirtual 43, 3) := by decide +kernel
theorem dL_cheapest_8 : decode cL_cheapest 8 = .ok (.i2l, 1) := by decide +kernel
theorem dL_cheapest_9 : decode cL_cheapest 9 = .ok (.lastore, 1) := by decide +kernel
theorem dL_cheapest_10 : decode cL_cheapest 10 = .ok (.goto 11, 3) := by decide +kernel
theorem dL_cheapest_13 : decode cL_cheapest 13 = .ok (.astore 4, 2) := by decide +kernel
theorem dL_cheapest_15 : decode cL_cheapest 15 = .ok (.iconst 1, 1) := by decide +kernel
theorem dL_cheapest_16 : decode cL_cheapest 16 = .ok (.ireturn, 1) := by decide +kernel
theorem dL_cheapest_17 : decode cL_cheapest 17 = .ok (.astore 4, 2) := by decide +kernel
theorem dL_cheapest_19 : decode cL_cheapest 19 = .ok (.iconst 2, 1) := by decide +kernel
theorem dL_cheapest_20 : decode cL_cheapest 20 = .ok (.ireturn, 1) := by decide +kernel
theorem dL_cheapest_21 : decode cL_cheapest 21 = .ok (.iconst 0, 1) := by decide +kernel
theorem dL_cheapest_22 : decode cL_cheapest 22 = .ok (.ireturn, 1) := by decide +kernel
theorem dL_widest_0 : decode cL_widest 0 = .ok (.aload_n 3, 1) := by decide +kernel
theorem dL_widest_1 : decode cL_widest 1 = .ok (.iconst 0, 1) := by decide +kernel
theorem dL_widest_2 : decode cL_widest 2 = .ok (.aload_n 0, 1) := by decide +kernel
theorem dL_widest_3 : decode cL_widest 3 = .ok (.iload_n 1, 1) := by decide +kernel
theorem dL_widest_4 : decode cL_widest 4 = .ok (.iload_n 2, 1) := by decide +kernel
theorem dL_widest_5 : decode cL_widest 5 = .ok (.invokevirtual 46, 3) := by decide +kernel
theorem dL_widest_8 : decode cL_widest 8 = .ok (.i2l, 1) := by decide +kernel
theorem dL_widest_9 : decode cL_widest 9 = .ok (.lastore, 1) := by decide +kernel
theorem dL_widest_10 : decode cL_widest 10 = .ok (.goto 11, 3) := by decide +kernel
theorem dL_widest_13 : decode cL_widest 13 = .ok (.astore 4, 2) := by decide +kernel
theorem dL_widest_15 : decode cL_widest 15 = .ok (.iconst 1, 1) := by decide +kernel
theorem dL_widest_16 : decode cL_widest 16 = .ok (.ireturn, 1) := by decide +kernel
theorem dL_widest_17 : decode cL_widest 17 = .ok (.astore 4, 2) := by decide +kernel
theorem dL_widest_19 : decode cL_widest 19 = .ok (.iconst 2, 1) := by decide +kernel
theorem dL_widest_20 : decode cL_widest 20 = .ok (.ireturn, 1) := by decide +kernel
theorem dL_widest_21 : decode cL_widest 21 = .ok (.iconst 0, 1) := by decide +kernel
theorem dL_widest_22 : decode cL_widest 22 = .ok (.ireturn, 1) := by decide +kernel
theorem dL_owedSpot_0 : decode cL_owedSpot 0 = .ok (.aload_n 3, 1) := by decide +kernel
theorem dL_owedSpot_1 : decode cL_owedSpot 1 = .ok (.iconst 0, 1) := by decide +kernel
theorem dL_owedSpot_2 : decode cL_owedSpot 2 = .ok (.aload_n 0, 1) := by decide +kernel
theorem dL_owedSpot_3 : decode cL_owedSpot 3 = .ok (.iload_n 1, 1) := by decide +kernel
theorem dL_owedSpot_4 : decode cL_owedSpot 4 = .ok (.iload_n 2, 1) := by decide +kernel
theorem dL_owedSpot_5 : decode cL_owedSpot 5 = .ok (.invokevirtual 49, 3) := by decide +kernel
theorem dL_owedSpot_8 : decode cL_owedSpot 8 = .ok (.i2l, 1) := by decide +kernel
theorem dL_owedSpot_9 : decode cL_owedSpot 9 = .ok (.lastore, 1) := by decide +kernel
theorem dL_owedSpot_10 : decode cL_owedSpot 10 = .ok (.goto 11, 3) := by decide +kernel
theorem dL_owedSpot_13 : decode cL_owedSpot 13 = .ok (.astore 4, 2) := by decide +kernel
theorem dL_owedSpot_15 : decode cL_owedSpot 15 = .ok (.iconst 1, 1) := by decide +kernel
theorem dL_owedSpot_16 : decode cL_owedSpot 16 = .ok (.ireturn, 1) := by decide +kernel
theorem dL_owedSpot_17 : decode cL_owedSpot 17 = .ok (.astore 4, 2) := by decide +kernel
theorem dL_owedSpot_19 : decode cL_owedSpot 19 = .ok (.iconst 2, 1) := by decide +kernel
theorem dL_owedSpot_20 : decode cL_owedSpot 20 = .ok (.ireturn, 1) := by decide +kernel
theorem dL_owedSpot_21 : decode cL_owedSpot 21 = .ok (.iconst 0, 1) := by decide +kernel
theorem dL_owedSpot_22 : decode cL_owedSpot 22 = .ok (.ireturn, 1) := by decide +kernel
theorem dL_arrangements_0 : decode cL_arrangements 0 = .ok (.aload_n 2, 1) := by decide +kernel
theorem dL_arrangements_1 : decode cL_arrangements 1 = .ok (.iconst 0, 1) := by decide +kernel
theorem dL_arrangements_2 : decode cL_arrangements 2 = .ok (.aload_n 0, 1) := by decide +kernel
theorem dL_arrangements_3 : decode cL_arrangements 3 = .ok (.iload_n 1, 1) := by decide +kernel
theorem dL_arrangements_4 : decode cL_arrangements 4 = .ok (.invokevirtual 52, 3) := by decide +kernel
theorem dL_arrangements_7 : decode cL_arrangements 7 = .ok (.i2l, 1) := by decide +kernel
theorem dL_arrangements_8 : decode cL_arrangements 8 = .ok (.lastore, 1) := by decide +kernel
theorem dL_arrangements_9 : decode cL_arrangements 9 = .ok (.goto 6, 3) := by decide +kernel
theorem dL_arrangements_12 : decode cL_arrangements 12 = .ok (.astore_n 3, 1) := by decide +kernel
theorem dL_arrangements_13 : decode cL_arrangements 13 = .ok (.iconst 1, 1) := by decide +kernel
theorem dL_arrangements_14 : decode cL_arrangements 14 = .ok (.ireturn, 1) := by decide +kernel
theorem dL_arrangements_15 : decode cL_arrangements 15 = .ok (.iconst 0, 1) := by decide +kernel
theorem dL_arrangements_16 : decode cL_arrangements 16 = .ok (.ireturn, 1) := by decide +kernel
theorem dL_arranged_0 : decode cL_arranged 0 = .ok (.aload_n 3, 1) := by decide +kernel
theorem dL_arranged_1 : decode cL_arranged 1 = .ok (.iconst 0, 1) := by decide +kernel
theorem dL_arranged_2 : decode cL_arranged 2 = .ok (.aload_n 0, 1) := by decide +kernel
theorem dL_arranged_3 : decode cL_arranged 3 = .ok (.iload_n 1, 1) := by decide +kernel
theorem dL_arranged_4 : decode cL_arranged 4 = .ok (.iload_n 2, 1) := by decide +kernel
theorem dL_arranged_5 : decode cL_arranged 5 = .ok (.invokevirtual 55, 3) := by decide +kernel
theorem dL_arranged_8 : decode cL_arranged 8 = .ok (.i2l, 1) := by decide +kernel
theorem dL_arranged_9 : decode cL_arranged 9 = .ok (.lastore, 1) := by decide +kernel
theorem dL_arranged_10 : decode cL_arranged 10 = .ok (.goto 11, 3) := by decide +kernel
theorem dL_arranged_13 : decode cL_arranged 13 = .ok (.astore 4, 2) := by decide +kernel
theorem dL_arranged_15 : decode cL_arranged 15 = .ok (.iconst 1, 1) := by decide +kernel
theorem dL_arranged_16 : decode cL_arranged 16 = .ok (.ireturn, 1) := by decide +kernel
theorem dL_arranged_17 : decode cL_arranged 17 = .ok (.astore 4, 2) := by decide +kernel
theorem dL_arranged_19 : decode cL_arranged 19 = .ok (.iconst 2, 1) := by decide +kernel
theorem dL_arranged_20 : decode cL_arranged 20 = .ok (.ireturn, 1) := by decide +kernel
theorem dL_arranged_21 : decode cL_arranged 21 = .ok (.iconst 0, 1) := by decide +kernel
theorem dL_arranged_22 : decode cL_arranged 22 = .ok (.ireturn, 1) := by decide +kernel
theorem dL_book_0 : decode cL_book 0 = .ok (.aload 4, 2) := by decide +kernel
theorem dL_book_2 : decode cL_book 2 = .ok (.iconst 0, 1) := by decide +kernel
theorem dL_book_3 : decode cL_book 3 = .ok (.aload_n 0, 1) := by decide +kernel
theorem dL_book_4 : decode cL_book 4 = .ok (.iload_n 1, 1) := by decide +kernel
theorem dL_book_5 : decode cL_book 5 = .ok (.iload_n 2, 1) := by decide +kernel
theorem dL_book_6 : decode cL_book 6 = .ok (.iload_n 3, 1) := by decide +kernel
theorem dL_book_7 : decode cL_book 7 = .ok (.invokevirtual 58, 3) := by decide +kernel
theorem dL_book_10 : decode cL_book 10 = .ok (.i2l, 1) := by decide +kernel
theorem dL_book_11 : decode cL_book 11 = .ok (.lastore, 1) := by decide +kernel
theorem dL_book_12 : decode cL_book 12 = .ok (.goto 11, 3) := by decide +kernel
theorem dL_book_15 : decode cL_book 15 = .ok (.astore 5, 2) := by decide +kernel
theorem dL_book_17 : decode cL_book 17 = .ok (.iconst 1, 1) := by decide +kernel
theorem dL_book_18 : decode cL_book 18 = .ok (.ireturn, 1) := by decide +kernel
theorem dL_book_19 : decode cL_book 19 = .ok (.astore 5, 2) := by decide +kernel
theorem dL_book_21 : decode cL_book 21 = .ok (.iconst 2, 1) := by decide +kernel
theorem dL_book_22 : decode cL_book 22 = .ok (.ireturn, 1) := by decide +kernel
theorem dL_book_23 : decode cL_book 23 = .ok (.iconst 0, 1) := by decide +kernel
theorem dL_book_24 : decode cL_book 24 = .ok (.ireturn, 1) := by decide +kernel
theorem dL_bookAnyhow_0 : decode cL_bookAnyhow 0 = .ok (.aload 4, 2) := by decide +kernel
theorem dL_bookAnyhow_2 : decode cL_bookAnyhow 2 = .ok (.iconst 0, 1) := by decide +kernel
theorem dL_bookAnyhow_3 : decode cL_bookAnyhow 3 = .ok (.aload_n 0, 1) := by decide +kernel
theorem dL_bookAnyhow_4 : decode cL_bookAnyhow 4 = .ok (.iload_n 1, 1) := by decide +kernel
theorem dL_bookAnyhow_5 : decode cL_bookAnyhow 5 = .ok (.iload_n 2, 1) := by decide +kernel
theorem dL_bookAnyhow_6 : decode cL_bookAnyhow 6 = .ok (.iload_n 3, 1) := by decide +kernel
theorem dL_bookAnyhow_7 : decode cL_bookAnyhow 7 = .ok (.invokevirtual 61, 3) := by decide +kernel
theorem dL_bookAnyhow_10 : decode cL_bookAnyhow 10 = .ok (.i2l, 1) := by decide +kernel
theorem dL_bookAnyhow_11 : decode cL_bookAnyhow 11 = .ok (.lastore, 1) := by decide +kernel
theorem dL_bookAnyhow_12 : decode cL_bookAnyhow 12 = .ok (.goto 11, 3) := by decide +kernel
theorem dL_bookAnyhow_15 : decode cL_bookAnyhow 15 = .ok (.astore 5, 2) := by decide +kernel
theorem dL_bookAnyhow_17 : decode cL_bookAnyhow 17 = .ok (.iconst 1, 1) := by decide +kernel
theorem dL_bookAnyhow_18 : decode cL_bookAnyhow 18 = .ok (.ireturn, 1) := by decide +kernel
theorem dL_bookAnyhow_19 : decode cL_bookAnyhow 19 = .ok (.astore 5, 2) := by decide +kernel
theorem dL_bookAnyhow_21 : decode cL_bookAnyhow 21 = .ok (.iconst 2, 1) := by decide +kernel
theorem dL_bookAnyhow_22 : decode cL_bookAnyhow 22 = .ok (.ireturn, 1) := by decide +kernel
theorem dL_bookAnyhow_23 : decode cL_bookAnyhow 23 = .ok (.iconst 0, 1) := by decide +kernel
theorem dL_bookAnyhow_24 : decode cL_bookAnyhow 24 = .ok (.ireturn, 1) := by decide +kernel
theorem dL_remove_0 : decode cL_remove 0 = .ok (.aload_n 3, 1) := by decide +kernel
theorem dL_remove_1 : decode cL_remove 1 = .ok (.iconst 0, 1) := by decide +kernel
theorem dL_remove_2 : decode cL_remove 2 = .ok (.aload_n 0, 1) := by decide +kernel
theorem dL_remove_3 : decode cL_remove 3 = .ok (.iload_n 1, 1) := by decide +kernel
theorem dL_remove_4 : decode cL_remove 4 = .ok (.iload_n 2, 1) := by decide +kernel
theorem dL_remove_5 : decode cL_remove 5 = .ok (.invokevirtual 64, 3) := by decide +kernel
theorem dL_remove_8 : decode cL_remove 8 = .ok (.i2l, 1) := by decide +kernel
theorem dL_remove_9 : decode cL_remove 9 = .ok (.lastore, 1) := by decide +kernel
theorem dL_remove_10 : decode cL_remove 10 = .ok (.goto 15, 3) := by decide +kernel
theorem dL_remove_13 : decode cL_remove 13 = .ok (.astore 4, 2) := by decide +kernel
theorem dL_remove_15 : decode cL_remove 15 = .ok (.iconst 1, 1) := by decide +kernel
theorem dL_remove_16 : decode cL_remove 16 = .ok (.ireturn, 1) := by decide +kernel
theorem dL_remove_17 : decode cL_remove 17 = .ok (.astore 4, 2) := by decide +kernel
theorem dL_remove_19 : decode cL_remove 19 = .ok (.iconst 2, 1) := by decide +kernel
theorem dL_remove_20 : decode cL_remove 20 = .ok (.ireturn, 1) := by decide +kernel
theorem dL_remove_21 : decode cL_remove 21 = .ok (.astore 4, 2) := by decide +kernel
theorem dL_remove_23 : decode cL_remove 23 = .ok (.iconst 3, 1) := by decide +kernel
theorem dL_remove_24 : decode cL_remove 24 = .ok (.ireturn, 1) := by decide +kernel
theorem dL_remove_25 : decode cL_remove 25 = .ok (.iconst 0, 1) := by decide +kernel
theorem dL_remove_26 : decode cL_remove 26 = .ok (.ireturn, 1) := by decide +kernel
theorem dL_air_0 : decode cL_air 0 = .ok (.aload_n 1, 1) := by decide +kernel
theorem dL_air_1 : decode cL_air 1 = .ok (.iconst 0, 1) := by decide +kernel
theorem dL_air_2 : decode cL_air 2 = .ok (.aload_n 0, 1) := by decide +kernel
theorem dL_air_3 : decode cL_air 3 = .ok (.invokevirtual 69, 3) := by decide +kernel
theorem dL_air_6 : decode cL_air 6 = .ok (.i2l, 1) := by decide +kernel
theorem dL_air_7 : decode cL_air 7 = .ok (.lastore, 1) := by decide +kernel
theorem dL_air_8 : decode cL_air 8 = .ok (.goto 6, 3) := by decide +kernel
theorem dL_air_11 : decode cL_air 11 = .ok (.astore_n 2, 1) := by decide +kernel
theorem dL_air_12 : decode cL_air 12 = .ok (.iconst 1, 1) := by decide +kernel
theorem dL_air_13 : decode cL_air 13 = .ok (.ireturn, 1) := by decide +kernel
theorem dL_air_14 : decode cL_air 14 = .ok (.iconst 0, 1) := by decide +kernel
theorem dL_air_15 : decode cL_air 15 = .ok (.ireturn, 1) := by decide +kernel
theorem dL_cancel_0 : decode cL_cancel 0 = .ok (.aload_n 2, 1) := by decide +kernel
theorem dL_cancel_1 : decode cL_cancel 1 = .ok (.iconst 0, 1) := by decide +kernel
theorem dL_cancel_2 : decode cL_cancel 2 = .ok (.aload_n 0, 1) := by decide +kernel
theorem dL_cancel_3 : decode cL_cancel 3 = .ok (.iload_n 1, 1) := by decide +kernel
theorem dL_cancel_4 : decode cL_cancel 4 = .ok (.invokevirtual 73, 3) := by decide +kernel
theorem dL_cancel_7 : decode cL_cancel 7 = .ok (.i2l, 1) := by decide +kernel
theorem dL_cancel_8 : decode cL_cancel 8 = .ok (.lastore, 1) := by decide +kernel
theorem dL_cancel_9 : decode cL_cancel 9 = .ok (.goto 9, 3) := by decide +kernel
theorem dL_cancel_12 : decode cL_cancel 12 = .ok (.astore_n 3, 1) := by decide +kernel
theorem dL_cancel_13 : decode cL_cancel 13 = .ok (.iconst 1, 1) := by decide +kernel
theorem dL_cancel_14 : decode cL_cancel 14 = .ok (.ireturn, 1) := by decide +kernel
theorem dL_cancel_15 : decode cL_cancel 15 = .ok (.astore_n 3, 1) := by decide +kernel
theorem dL_cancel_16 : decode cL_cancel 16 = .ok (.iconst 2, 1) := by decide +kernel
theorem dL_cancel_17 : decode cL_cancel 17 = .ok (.ireturn, 1) := by decide +kernel
theorem dL_cancel_18 : decode cL_cancel 18 = .ok (.iconst 0, 1) := by decide +kernel
theorem dL_cancel_19 : decode cL_cancel 19 = .ok (.ireturn, 1) := by decide +kernel
theorem dL_campaign_0 : decode cL_campaign 0 = .ok (.aload 4, 2) := by decide +kernel
theorem dL_campaign_2 : decode cL_campaign 2 = .ok (.iconst 0, 1) := by decide +kernel
theorem dL_campaign_3 : decode cL_campaign 3 = .ok (.aload_n 0, 1) := by decide +kernel
theorem dL_campaign_4 : decode cL_campaign 4 = .ok (.iload_n 1, 1) := by decide +kernel
theorem dL_campaign_5 : decode cL_campaign 5 = .ok (.iload_n 2, 1) := by decide +kernel
theorem dL_campaign_6 : decode cL_campaign 6 = .ok (.iload_n 3, 1) := by decide +kernel
theorem dL_campaign_7 : decode cL_campaign 7 = .ok (.invokevirtual 76, 3) := by decide +kernel
theorem dL_campaign_10 : decode cL_campaign 10 = .ok (.i2l, 1) := by decide +kernel
theorem dL_campaign_11 : decode cL_campaign 11 = .ok (.lastore, 1) := by decide +kernel
theorem dL_campaign_12 : decode cL_campaign 12 = .ok (.goto 11, 3) := by decide +kernel
theorem dL_campaign_15 : decode cL_campaign 15 = .ok (.astore 5, 2) := by decide +kernel
theorem dL_campaign_17 : decode cL_campaign 17 = .ok (.iconst 1, 1) := by decide +kernel
theorem dL_campaign_18 : decode cL_campaign 18 = .ok (.ireturn, 1) := by decide +kernel
theorem dL_campaign_19 : decode cL_campaign 19 = .ok (.astore 5, 2) := by decide +kernel
theorem dL_campaign_21 : decode cL_campaign 21 = .ok (.iconst 2, 1) := by decide +kernel
theorem dL_campaign_22 : decode cL_campaign 22 = .ok (.ireturn, 1) := by decide +kernel
theorem dL_campaign_23 : decode cL_campaign 23 = .ok (.iconst 0, 1) := by decide +kernel
theorem dL_campaign_24 : decode cL_campaign 24 = .ok (.ireturn, 1) := by decide +kernel
theorem dL_setCap_0 : decode cL_setCap 0 = .ok (.aload_n 3, 1) := by decide +kernel
theorem dL_setCap_1 : decode cL_setCap 1 = .ok (.iconst 0, 1) := by decide +kernel
theorem dL_setCap_2 : decode cL_setCap 2 = .ok (.aload_n 0, 1) := by decide +kernel
theorem dL_setCap_3 : decode cL_setCap 3 = .ok (.iload_n 1, 1) := by decide +kernel
theorem dL_setCap_4 : decode cL_setCap 4 = .ok (.iload_n 2, 1) := by decide +kernel
theorem dL_setCap_5 : decode cL_setCap 5 = .ok (.invokevirtual 79, 3) := by decide +kernel
theorem dL_setCap_8 : decode cL_setCap 8 = .ok (.i2l, 1) := by decide +kernel
theorem dL_setCap_9 : decode cL_setCap 9 = .ok (.lastore, 1) := by decide +kernel
theorem dL_setCap_10 : decode cL_setCap 10 = .ok (.goto 11, 3) := by decide +kernel
theorem dL_setCap_13 : decode cL_setCap 13 = .ok (.astore 4, 2) := by decide +kernel
theorem dL_setCap_15 : decode cL_setCap 15 = .ok (.iconst 1, 1) := by decide +kernel
theorem dL_setCap_16 : decode cL_setCap 16 = .ok (.ireturn, 1) := by decide +kernel
theorem dL_setCap_17 : decode cL_setCap 17 = .ok (.astore 4, 2) := by decide +kernel
theorem dL_setCap_19 : decode cL_setCap 19 = .ok (.iconst 2, 1) := by decide +kernel
theorem dL_setCap_20 : decode cL_setCap 20 = .ok (.ireturn, 1) := by decide +kernel
theorem dL_setCap_21 : decode cL_setCap 21 = .ok (.iconst 0, 1) := by decide +kernel
theorem dL_setCap_22 : decode cL_setCap 22 = .ok (.ireturn, 1) := by decide +kernel
theorem dL_law_0 : decode cL_law 0 = .ok (.new 8, 3) := by decide +kernel
theorem dL_law_3 : decode cL_law 3 = .ok (.dup, 1) := by decide +kernel
theorem dL_law_4 : decode cL_law 4 = .ok (.invokespecial 82, 3) := by decide +kernel
theorem dL_law_7 : decode cL_law 7 = .ok (.astore_n 1, 1) := by decide +kernel
theorem dL_law_8 : decode cL_law 8 = .ok (.new 83, 3) := by decide +kernel
theorem dL_law_11 : decode cL_law 11 = .ok (.dup, 1) := by decide +kernel
theorem dL_law_12 : decode cL_law 12 = .ok (.invokespecial 85, 3) := by decide +kernel
theorem dL_law_15 : decode cL_law 15 = .ok (.astore_n 2, 1) := by decide +kernel
theorem dL_law_16 : decode cL_law 16 = .ok (.iconst 1, 1) := by decide +kernel
theorem dL_law_17 : decode cL_law 17 = .ok (.newarray .long, 2) := by decide +kernel
theorem dL_law_19 : decode cL_law 19 = .ok (.astore_n 3, 1) := by decide +kernel
theorem dL_law_20 : decode cL_law 20 = .ok (.iconst 0, 1) := by decide +kernel
theorem dL_law_21 : decode cL_law 21 = .ok (.istore 4, 2) := by decide +kernel
theorem dL_law_23 : decode cL_law 23 = .ok (.iload 4, 2) := by decide +kernel
theorem dL_law_25 : decode cL_law 25 = .ok (.aload_n 0, 1) := by decide +kernel
theorem dL_law_26 : decode cL_law 26 = .ok (.arraylength, 1) := by decide +kernel
theorem dL_law_27 : decode cL_law 27 = .ok (.bipush 6, 2) := by decide +kernel
theorem dL_law_29 : decode cL_law 29 = .ok (.isub, 1) := by decide +kernel
