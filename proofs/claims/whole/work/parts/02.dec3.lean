theorem dX8_canGo_80 : decode cX8_canGo 80 = .ok (.goto 4, 3) := by decide +kernel
theorem dX8_canGo_83 : decode cX8_canGo 83 = .ok (.iconst 0, 1) := by decide +kernel
theorem dX8_canGo_84 : decode cX8_canGo 84 = .ok (.ireturn, 1) := by decide +kernel
theorem dX8_canGo_85 : decode cX8_canGo 85 = .ok (.iload_n 2, 1) := by decide +kernel
theorem dX8_canGo_86 : decode cX8_canGo 86 = .ok (.invokestatic 102, 3) := by decide +kernel
theorem dX8_canGo_89 : decode cX8_canGo 89 = .ok (.ireturn, 1) := by decide +kernel
theorem dX8_canGo_90 : decode cX8_canGo 90 = .ok (.iconst 0, 1) := by decide +kernel
theorem dX8_canGo_91 : decode cX8_canGo 91 = .ok (.ireturn, 1) := by decide +kernel
theorem dX8_ends_0 : decode cX8_ends 0 = .ok (.iload_n 1, 1) := by decide +kernel
theorem dX8_ends_1 : decode cX8_ends 1 = .ok (.ifCond .eq 10, 3) := by decide +kernel
theorem dX8_ends_4 : decode cX8_ends 4 = .ok (.iload_n 1, 1) := by decide +kernel
theorem dX8_ends_5 : decode cX8_ends 5 = .ok (.iconst 1, 1) := by decide +kernel
theorem dX8_ends_6 : decode cX8_ends 6 = .ok (.if_icmp .eq 5, 3) := by decide +kernel
theorem dX8_ends_9 : decode cX8_ends 9 = .ok (.iconst (-1), 1) := by decide +kernel
theorem dX8_ends_10 : decode cX8_ends 10 = .ok (.ireturn, 1) := by decide +kernel
theorem dX8_ends_11 : decode cX8_ends 11 = .ok (.aload_n 0, 1) := by decide +kernel
theorem dX8_ends_12 : decode cX8_ends 12 = .ok (.getfield 21, 3) := by decide +kernel
theorem dX8_ends_15 : decode cX8_ends 15 = .ok (.aload_n 0, 1) := by decide +kernel
theorem dX8_ends_16 : decode cX8_ends 16 = .ok (.getfield 12, 3) := by decide +kernel
theorem dX8_ends_19 : decode cX8_ends 19 = .ok (.invokevirtual 224, 3) := by decide +kernel
theorem dX8_ends_22 : decode cX8_ends 22 = .ok (.aload_n 0, 1) := by decide +kernel
theorem dX8_ends_23 : decode cX8_ends 23 = .ok (.invokevirtual 146, 3) := by decide +kernel
theorem dX8_ends_26 : decode cX8_ends 26 = .ok (.getfield 149, 3) := by decide +kernel
theorem dX8_ends_29 : decode cX8_ends 29 = .ok (.istore_n 2, 1) := by decide +kernel
theorem dX8_ends_30 : decode cX8_ends 30 = .ok (.iconst 0, 1) := by decide +kernel
theorem dX8_ends_31 : decode cX8_ends 31 = .ok (.istore_n 3, 1) := by decide +kernel
theorem dX8_ends_32 : decode cX8_ends 32 = .ok (.iload_n 3, 1) := by decide +kernel
theorem dX8_ends_33 : decode cX8_ends 33 = .ok (.aload_n 0, 1) := by decide +kernel
theorem dX8_ends_34 : decode cX8_ends 34 = .ok (.getfield 12, 3) := by decide +kernel
theorem dX8_ends_37 : decode cX8_ends 37 = .ok (.getfield 307, 3) := by decide +kernel
theorem dX8_ends_40 : decode cX8_ends 40 = .ok (.getfield 282, 3) := by decide +kernel
theorem dX8_ends_43 : decode cX8_ends 43 = .ok (.if_icmp .ge 38, 3) := by decide +kernel
theorem dX8_ends_46 : decode cX8_ends 46 = .ok (.aload_n 0, 1) := by decide +kernel
theorem dX8_ends_47 : decode cX8_ends 47 = .ok (.aload_n 0, 1) := by decide +kernel
theorem dX8_ends_48 : decode cX8_ends 48 = .ok (.getfield 12, 3) := by decide +kernel
theorem dX8_ends_51 : decode cX8_ends 51 = .ok (.getfield 307, 3) := by decide +kernel
theorem dX8_ends_54 : decode cX8_ends 54 = .ok (.getfield 284, 3) := by decide +kernel
theorem dX8_ends_57 : decode cX8_ends 57 = .ok (.iload_n 3, 1) := by decide +kernel
theorem dX8_ends_58 : decode cX8_ends 58 = .ok (.iaload, 1) := by decide +kernel
theorem dX8_ends_59 : decode cX8_ends 59 = .ok (.aload_n 0, 1) := by decide +kernel
theorem dX8_ends_60 : decode cX8_ends 60 = .ok (.getfield 12, 3) := by decide +kernel
theorem dX8_ends_63 : decode cX8_ends 63 = .ok (.getfield 307, 3) := by decide +kernel
theorem dX8_ends_66 : decode cX8_ends 66 = .ok (.getfield 287, 3) := by decide +kernel
theorem dX8_ends_69 : decode cX8_ends 69 = .ok (.iload_n 3, 1) := by decide +kernel
theorem dX8_ends_70 : decode cX8_ends 70 = .ok (.iaload, 1) := by decide +kernel
theorem dX8_ends_71 : decode cX8_ends 71 = .ok (.iload_n 2, 1) := by decide +kernel
theorem dX8_ends_72 : decode cX8_ends 72 = .ok (.invokevirtual 313, 3) := by decide +kernel
theorem dX8_ends_75 : decode cX8_ends 75 = .ok (.iinc 3 1, 3) := by decide +kernel
theorem dX8_ends_78 : decode cX8_ends 78 = .ok (.goto (-46), 3) := by decide +kernel
theorem dX8_ends_81 : decode cX8_ends 81 = .ok (.iload_n 1, 1) := by decide +kernel
theorem dX8_ends_82 : decode cX8_ends 82 = .ok (.ifCond .ne 13, 3) := by decide +kernel
theorem dX8_ends_85 : decode cX8_ends 85 = .ok (.aload_n 0, 1) := by decide +kernel
theorem dX8_ends_86 : decode cX8_ends 86 = .ok (.getfield 21, 3) := by decide +kernel
theorem dX8_ends_89 : decode cX8_ends 89 = .ok (.invokevirtual 228, 3) := by decide +kernel
theorem dX8_ends_92 : decode cX8_ends 92 = .ok (.goto 10, 3) := by decide +kernel
theorem dX8_ends_95 : decode cX8_ends 95 = .ok (.aload_n 0, 1) := by decide +kernel
theorem dX8_ends_96 : decode cX8_ends 96 = .ok (.getfield 21, 3) := by decide +kernel
theorem dX8_ends_99 : decode cX8_ends 99 = .ok (.invokevirtual 316, 3) := by decide +kernel
theorem dX8_ends_102 : decode cX8_ends 102 = .ok (.ireturn, 1) := by decide +kernel
theorem dX8_goOn_0 : decode cX8_goOn 0 = .ok (.iload_n 1, 1) := by decide +kernel
theorem dX8_goOn_1 : decode cX8_goOn 1 = .ok (.ifCond .ne 13, 3) := by decide +kernel
theorem dX8_goOn_4 : decode cX8_goOn 4 = .ok (.aload_n 0, 1) := by decide +kernel
theorem dX8_goOn_5 : decode cX8_goOn 5 = .ok (.getfield 21, 3) := by decide +kernel
theorem dX8_goOn_8 : decode cX8_goOn 8 = .ok (.iconst 1, 1) := by decide +kernel
theorem dX8_goOn_9 : decode cX8_goOn 9 = .ok (.iload_n 3, 1) := by decide +kernel
theorem dX8_goOn_10 : decode cX8_goOn 10 = .ok (.invokevirtual 220, 3) := by decide +kernel
theorem dX8_goOn_13 : decode cX8_goOn 13 = .ok (.return_, 1) := by decide +kernel
theorem dX8_goOn_14 : decode cX8_goOn 14 = .ok (.aload_n 0, 1) := by decide +kernel
theorem dX8_goOn_15 : decode cX8_goOn 15 = .ok (.getfield 21, 3) := by decide +kernel
theorem dX8_goOn_18 : decode cX8_goOn 18 = .ok (.iload_n 1, 1) := by decide +kernel
theorem dX8_goOn_19 : decode cX8_goOn 19 = .ok (.iconst 1, 1) := by decide +kernel
theorem dX8_goOn_20 : decode cX8_goOn 20 = .ok (.if_icmp .ne 10, 3) := by decide +kernel
theorem dX8_goOn_23 : decode cX8_goOn 23 = .ok (.iload_n 2, 1) := by decide +kernel
theorem dX8_goOn_24 : decode cX8_goOn 24 = .ok (.bipush 10, 2) := by decide +kernel
theorem dX8_goOn_26 : decode cX8_goOn 26 = .ok (.idiv, 1) := by decide +kernel
theorem dX8_goOn_27 : decode cX8_goOn 27 = .ok (.goto 4, 3) := by decide +kernel
theorem dX8_goOn_30 : decode cX8_goOn 30 = .ok (.iload_n 2, 1) := by decide +kernel
theorem dX8_goOn_31 : decode cX8_goOn 31 = .ok (.invokevirtual 90, 3) := by decide +kernel
theorem dX8_goOn_34 : decode cX8_goOn 34 = .ok (.astore 4, 2) := by decide +kernel
theorem dX8_goOn_36 : decode cX8_goOn 36 = .ok (.aload 4, 2) := by decide +kernel
theorem dX8_goOn_38 : decode cX8_goOn 38 = .ok (.ifnonnull 4, 3) := by decide +kernel
theorem dX8_goOn_41 : decode cX8_goOn 41 = .ok (.return_, 1) := by decide +kernel
theorem dX8_goOn_42 : decode cX8_goOn 42 = .ok (.iload_n 1, 1) := by decide +kernel
theorem dX8_goOn_43 : decode cX8_goOn 43 = .ok (.iconst 1, 1) := by decide +kernel
theorem dX8_goOn_44 : decode cX8_goOn 44 = .ok (.if_icmp .ne 11, 3) := by decide +kernel
theorem dX8_goOn_47 : decode cX8_goOn 47 = .ok (.aload 4, 2) := by decide +kernel
theorem dX8_goOn_49 : decode cX8_goOn 49 = .ok (.invokevirtual 120, 3) := by decide +kernel
theorem dX8_goOn_52 : decode cX8_goOn 52 = .ok (.goto 14, 3) := by decide +kernel
theorem dX8_goOn_55 : decode cX8_goOn 55 = .ok (.iload_n 1, 1) := by decide +kernel
theorem dX8_goOn_56 : decode cX8_goOn 56 = .ok (.iconst 2, 1) := by decide +kernel
theorem dX8_goOn_57 : decode cX8_goOn 57 = .ok (.if_icmp .ne 9, 3) := by decide +kernel
theorem dX8_goOn_60 : decode cX8_goOn 60 = .ok (.aload 4, 2) := by decide +kernel
theorem dX8_goOn_62 : decode cX8_goOn 62 = .ok (.iconst 0, 1) := by decide +kernel
theorem dX8_goOn_63 : decode cX8_goOn 63 = .ok (.putfield 117, 3) := by decide +kernel
theorem dX8_goOn_66 : decode cX8_goOn 66 = .ok (.return_, 1) := by decide +kernel
theorem dX8_book_0 : decode cX8_book 0 = .ok (.iload_n 1, 1) := by decide +kernel
theorem dX8_book_1 : decode cX8_book 1 = .ok (.iconst (-1), 1) := by decide +kernel
theorem dX8_book_2 : decode cX8_book 2 = .ok (.if_icmp .ne 14, 3) := by decide +kernel
theorem dX8_book_5 : decode cX8_book 5 = .ok (.aload_n 0, 1) := by decide +kernel
theorem dX8_book_6 : decode cX8_book 6 = .ok (.getfield 12, 3) := by decide +kernel
theorem dX8_book_9 : decode cX8_book 9 = .ok (.getfield 319, 3) := by decide +kernel
theorem dX8_book_12 : decode cX8_book 12 = .ok (.invokevirtual 259, 3) := by decide +kernel
theorem dX8_book_15 : decode cX8_book 15 = .ok (.ireturn, 1) := by decide +kernel
theorem dX8_book_16 : decode cX8_book 16 = .ok (.aload_n 0, 1) := by decide +kernel
theorem dX8_book_17 : decode cX8_book 17 = .ok (.getfield 12, 3) := by decide +kernel
theorem dX8_book_20 : decode cX8_book 20 = .ok (.iload_n 1, 1) := by decide +kernel
theorem dX8_book_21 : decode cX8_book 21 = .ok (.invokevirtual 90, 3) := by decide +kernel
theorem dX8_book_24 : decode cX8_book 24 = .ok (.ifnonnull 5, 3) := by decide +kernel
theorem dX8_book_27 : decode cX8_book 27 = .ok (.iconst (-1), 1) := by decide +kernel
theorem dX8_book_28 : decode cX8_book 28 = .ok (.ireturn, 1) := by decide +kernel
theorem dX8_book_29 : decode cX8_book 29 = .ok (.iload_n 2, 1) := by decide +kernel
theorem dX8_book_30 : decode cX8_book 30 = .ok (.invokestatic 82, 3) := by decide +kernel
theorem dX8_book_33 : decode cX8_book 33 = .ok (.ifCond .ne 6, 3) := by decide +kernel
theorem dX8_book_36 : decode cX8_book 36 = .ok (.bipush (-2), 2) := by decide +kernel
theorem dX8_book_38 : decode cX8_book 38 = .ok (.ireturn, 1) := by decide +kernel
theorem dX8_book_39 : decode cX8_book 39 = .ok (.aload_n 0, 1) := by decide +kernel
theorem dX8_book_40 : decode cX8_book 40 = .ok (.getfield 12, 3) := by decide +kernel
theorem dX8_book_43 : decode cX8_book 43 = .ok (.getfield 319, 3) := by decide +kernel
theorem dX8_book_46 : decode cX8_book 46 = .ok (.iload_n 1, 1) := by decide +kernel
theorem dX8_book_47 : decode cX8_book 47 = .ok (.iload_n 2, 1) := by decide +kernel
theorem dX8_book_48 : decode cX8_book 48 = .ok (.iconst 0, 1) := by decide +kernel
theorem dX8_book_49 : decode cX8_book 49 = .ok (.invokevirtual 264, 3) := by decide +kernel
theorem dX8_book_52 : decode cX8_book 52 = .ok (.ireturn, 1) := by decide +kernel
theorem dX8_looked_0 : decode cX8_looked 0 = .ok (.aload_n 0, 1) := by decide +kernel
theorem dX8_looked_1 : decode cX8_looked 1 = .ok (.getfield 12, 3) := by decide +kernel
theorem dX8_looked_4 : decode cX8_looked 4 = .ok (.getfield 319, 3) := by decide +kernel
theorem dX8_looked_7 : decode cX8_looked 7 = .ok (.astore_n 1, 1) := by decide +kernel
theorem dX8_looked_8 : decode cX8_looked 8 = .ok (.iconst 0, 1) := by decide +kernel
theorem dX8_looked_9 : decode cX8_looked 9 = .ok (.istore_n 2, 1) := by decide +kernel
theorem dX8_looked_10 : decode cX8_looked 10 = .ok (.iload_n 2, 1) := by decide +kernel
theorem dX8_looked_11 : decode cX8_looked 11 = .ok (.aload_n 1, 1) := by decide +kernel
theorem dX8_looked_12 : decode cX8_looked 12 = .ok (.getfield 282, 3) := by decide +kernel
theorem dX8_looked_15 : decode cX8_looked 15 = .ok (.if_icmp .ge 42, 3) := by decide +kernel
theorem dX8_looked_18 : decode cX8_looked 18 = .ok (.aload_n 0, 1) := by decide +kernel
theorem dX8_looked_19 : decode cX8_looked 19 = .ok (.getfield 12, 3) := by decide +kernel
theorem dX8_looked_22 : decode cX8_looked 22 = .ok (.aload_n 1, 1) := by decide +kernel
theorem dX8_looked_23 : decode cX8_looked 23 = .ok (.getfield 284, 3) := by decide +kernel
theorem dX8_looked_26 : decode cX8_looked 26 = .ok (.iload_n 2, 1) := by decide +kernel
theorem dX8_looked_27 : decode cX8_looked 27 = .ok (.iaload, 1) := by decide +kernel
theorem dX8_looked_28 : decode cX8_looked 28 = .ok (.invokevirtual 90, 3) := by decide +kernel
theorem dX8_looked_31 : decode cX8_looked 31 = .ok (.astore_n 3, 1) := by decide +kernel
theorem dX8_looked_32 : decode cX8_looked 32 = .ok (.aload_n 3, 1) := by decide +kernel
theorem dX8_looked_33 : decode cX8_looked 33 = .ok (.ifnull 18, 3) := by decide +kernel
theorem dX8_looked_36 : decode cX8_looked 36 = .ok (.aload_n 3, 1) := by decide +kernel
theorem dX8_looked_37 : decode cX8_looked 37 = .ok (.getfield 117, 3) := by decide +kernel
theorem dX8_looked_40 : decode cX8_looked 40 = .ok (.aload_n 1, 1) := by decide +kernel
theorem dX8_looked_41 : decode cX8_looked 41 = .ok (.getfield 287, 3) := by decide +kernel
theorem dX8_looked_44 : decode cX8_looked 44 = .ok (.iload_n 2, 1) := by decide +kernel
theorem dX8_looked_45 : decode cX8_looked 45 = .ok (.iaload, 1) := by decide +kernel
theorem dX8_looked_46 : decode cX8_looked 46 = .ok (.if_icmp .eq 5, 3) := by decide +kernel
theorem dX8_looked_49 : decode cX8_looked 49 = .ok (.iload_n 2, 1) := by decide +kernel
theorem dX8_looked_50 : decode cX8_looked 50 = .ok (.ireturn, 1) := by decide +kernel
theorem dX8_looked_51 : decode cX8_looked 51 = .ok (.iinc 2 1, 3) := by decide +kernel
theorem dX8_looked_54 : decode cX8_looked 54 = .ok (.goto (-44), 3) := by decide +kernel
theorem dX8_looked_57 : decode cX8_looked 57 = .ok (.bipush (-5), 2) := by decide +kernel
theorem dX8_looked_59 : decode cX8_looked 59 = .ok (.ireturn, 1) := by decide +kernel
theorem dX8_judge_0 : decode cX8_judge 0 = .ok (.aload_n 0, 1) := by decide +kernel
theorem dX8_judge_1 : decode cX8_judge 1 = .ok (.iload_n 1, 1) := by decide +kernel
theorem dX8_judge_2 : decode cX8_judge 2 = .ok (.invokevirtual 322, 3) := by decide +kernel
theorem dX8_judge_5 : decode cX8_judge 5 = .ok (.astore_n 3, 1) := by decide +kernel
theorem dX8_judge_6 : decode cX8_judge 6 = .ok (.aload_n 3, 1) := by decide +kernel
theorem dX8_judge_7 : decode cX8_judge 7 = .ok (.ifnonnull 5, 3) := by decide +kernel
theorem dX8_judge_10 : decode cX8_judge 10 = .ok (.iconst (-1), 1) := by decide +kernel
theorem dX8_judge_11 : decode cX8_judge 11 = .ok (.ireturn, 1) := by decide +kernel
theorem dX8_judge_12 : decode cX8_judge 12 = .ok (.aload_n 3, 1) := by decide +kernel
theorem dX8_judge_13 : decode cX8_judge 13 = .ok (.getfield 326, 3) := by decide +kernel
theorem dX8_judge_16 : decode cX8_judge 16 = .ok (.iconst (-1), 1) := by decide +kernel
theorem dX8_judge_17 : decode cX8_judge 17 = .ok (.if_icmp .ne 6, 3) := by decide +kernel
theorem dX8_judge_20 : decode cX8_judge 20 = .ok (.bipush 100, 2) := by decide +kernel
theorem dX8_judge_22 : decode cX8_judge 22 = .ok (.ireturn, 1) := by decide +kernel
theorem dX8_judge_23 : decode cX8_judge 23 = .ok (.aload_n 3, 1) := by decide +kernel
theorem dX8_judge_24 : decode cX8_judge 24 = .ok (.getfield 326, 3) := by decide +kernel
theorem dX8_judge_27 : decode cX8_judge 27 = .ok (.iconst 4, 1) := by decide +kernel
theorem dX8_judge_28 : decode cX8_judge 28 = .ok (.if_icmp .eq 6, 3) := by decide +kernel
theorem dX8_judge_31 : decode cX8_judge 31 = .ok (.bipush (-12), 2) := by decide +kernel
theorem dX8_judge_33 : decode cX8_judge 33 = .ok (.ireturn, 1) := by decide +kernel
theorem dX8_judge_34 : decode cX8_judge 34 = .ok (.iconst 0, 1) := by decide +kernel
theorem dX8_judge_35 : decode cX8_judge 35 = .ok (.istore 4, 2) := by decide +kernel
theorem dX8_judge_37 : decode cX8_judge 37 = .ok (.iload 4, 2) := by decide +kernel
theorem dX8_judge_39 : decode cX8_judge 39 = .ok (.bipush 8, 2) := by decide +kernel
theorem dX8_judge_41 : decode cX8_judge 41 = .ok (.if_icmp .ge 71, 3) := by decide +kernel
theorem dX8_judge_44 : decode cX8_judge 44 = .ok (.aload_n 3, 1) := by decide +kernel
theorem dX8_judge_45 : decode cX8_judge 45 = .ok (.iload_n 2, 1) := by decide +kernel
theorem dX8_judge_46 : decode cX8_judge 46 = .ok (.invokevirtual 329, 3) := by decide +kernel
theorem dX8_judge_49 : decode cX8_judge 49 = .ok (.ifCond .eq 14, 3) := by decide +kernel
theorem dX8_judge_52 : decode cX8_judge 52 = .ok (.aload_n 3, 1) := by decide +kernel
theorem dX8_judge_53 : decode cX8_judge 53 = .ok (.iload_n 2, 1) := by decide +kernel
theorem dX8_judge_54 : decode cX8_judge 54 = .ok (.iload 4, 2) := by decide +kernel
theorem dX8_judge_56 : decode cX8_judge 56 = .ok (.iadd, 1) := by decide +kernel
theorem dX8_judge_57 : decode cX8_judge 57 = .ok (.invokevirtual 329, 3) := by decide +kernel
theorem dX8_judge_60 : decode cX8_judge 60 = .ok (.ifCond .ne 9, 3) := by decide +kernel
theorem dX8_judge_63 : decode cX8_judge 63 = .ok (.bipush 100, 2) := by decide +kernel
theorem dX8_judge_65 : decode cX8_judge 65 = .ok (.iload 4, 2) := by decide +kernel
theorem dX8_judge_67 : decode cX8_judge 67 = .ok (.iadd, 1) := by decide +kernel
theorem dX8_judge_68 : decode cX8_judge 68 = .ok (.ireturn, 1) := by decide +kernel
theorem dX8_judge_69 : decode cX8_judge 69 = .ok (.aload_n 3, 1) := by decide +kernel
theorem dX8_judge_70 : decode cX8_judge 70 = .ok (.getfield 332, 3) := by decide +kernel
theorem dX8_judge_73 : decode cX8_judge 73 = .ok (.iload_n 2, 1) := by decide +kernel
theorem dX8_judge_74 : decode cX8_judge 74 = .ok (.iload 4, 2) := by decide +kernel
theorem dX8_judge_76 : decode cX8_judge 76 = .ok (.iadd, 1) := by decide +kernel
theorem dX8_judge_77 : decode cX8_judge 77 = .ok (.laload, 1) := by decide +kernel
theorem dX8_judge_78 : decode cX8_judge 78 = .ok (.lconst 1, 1) := by decide +kernel
theorem dX8_judge_79 : decode cX8_judge 79 = .ok (.lcmp, 1) := by decide +kernel
theorem dX8_judge_80 : decode cX8_judge 80 = .ok (.ifCond .ne 7, 3) := by decide +kernel
theorem dX8_judge_83 : decode cX8_judge 83 = .ok (.iconst 1, 1) := by decide +kernel
theorem dX8_judge_84 : decode cX8_judge 84 = .ok (.goto 4, 3) := by decide +kernel
theorem dX8_judge_87 : decode cX8_judge 87 = .ok (.iconst 0, 1) := by decide +kernel
theorem dX8_judge_88 : decode cX8_judge 88 = .ok (.aload_n 0, 1) := by decide +kernel
theorem dX8_judge_89 : decode cX8_judge 89 = .ok (.getfield 12, 3) := by decide +kernel
theorem dX8_judge_92 : decode cX8_judge 92 = .ok (.getfield 114, 3) := by decide +kernel
theorem dX8_judge_95 : decode cX8_judge 95 = .ok (.iload 4, 2) := by decide +kernel
theorem dX8_judge_97 : decode cX8_judge 97 = .ok (.invokestatic 193, 3) := by decide +kernel
theorem dX8_judge_100 : decode cX8_judge 100 = .ok (.if_icmp .eq 6, 3) := by decide +kernel
theorem dX8_judge_103 : decode cX8_judge 103 = .ok (.iload 4, 2) := by decide +kernel
theorem dX8_judge_105 : decode cX8_judge 105 = .ok (.ireturn, 1) := by decide +kernel
theorem dX8_judge_106 : decode cX8_judge 106 = .ok (.iinc 4 1, 3) := by decide +kernel
theorem dX8_judge_109 : decode cX8_judge 109 = .ok (.goto (-72), 3) := by decide +kernel
theorem dX8_judge_112 : decode cX8_judge 112 = .ok (.bipush (-5), 2) := by decide +kernel
theorem dX8_judge_114 : decode cX8_judge 114 = .ok (.ireturn, 1) := by decide +kernel
theorem dX8_image_0 : decode cX8_image 0 = .ok (.aload_n 0, 1) := by decide +kernel
theorem dX8_image_1 : decode cX8_image 1 = .ok (.getfield 18, 3) := by decide +kernel
theorem dX8_image_4 : decode cX8_image 4 = .ok (.aload_n 0, 1) := by decide +kernel
theorem dX8_image_5 : decode cX8_image 5 = .ok (.getfield 12, 3) := by decide +kernel
theorem dX8_image_8 : decode cX8_image 8 = .ok (.invokevirtual 336, 3) := by decide +kernel
theorem dX8_image_11 : decode cX8_image 11 = .ok (.aload_n 0, 1) := by decide +kernel
theorem dX8_image_12 : decode cX8_image 12 = .ok (.iconst 1, 1) := by decide +kernel
theorem dX8_image_13 : decode cX8_image 13 = .ok (.putfield 31, 3) := by decide +kernel
theorem dX8_image_16 : decode cX8_image 16 = .ok (.aload_n 0, 1) := by decide +kernel
theorem dX8_image_17 : decode cX8_image 17 = .ok (.getfield 12, 3) := by decide +kernel
theorem dX8_image_20 : decode cX8_image 20 = .ok (.getfield 208, 3) := by decide +kernel
theorem dX8_image_23 : decode cX8_image 23 = .ok (.ireturn, 1) := by decide +kernel
theorem dX8_undo_0 : decode cX8_undo 0 = .ok (.aload_n 0, 1) := by decide +kernel
theorem dX8_undo_1 : decode cX8_undo 1 = .ok (.getfield 31, 3) := by decide +kernel
theorem dX8_undo_4 : decode cX8_undo 4 = .ok (.ifCond .ne 6, 3) := by decide +kernel
theorem dX8_undo_7 : decode cX8_undo 7 = .ok (.bipush (-3), 2) := by decide +kernel
theorem dX8_undo_9 : decode cX8_undo 9 = .ok (.ireturn, 1) := by decide +kernel
theorem dX8_undo_10 : decode cX8_undo 10 = .ok (.aload_n 0, 1) := by decide +kernel
theorem dX8_undo_11 : decode cX8_undo 11 = .ok (.getfield 12, 3) := by decide +kernel
theorem dX8_undo_14 : decode cX8_undo 14 = .ok (.aload_n 0, 1) := by decide +kernel
theorem dX8_undo_15 : decode cX8_undo 15 = .ok (.getfield 18, 3) := by decide +kernel
theorem dX8_undo_18 : decode cX8_undo 18 = .ok (.invokevirtual 336, 3) := by decide +kernel
theorem dX8_undo_21 : decode cX8_undo 21 = .ok (.aload_n 0, 1) := by decide +kernel
theorem dX8_undo_22 : decode cX8_undo 22 = .ok (.getfield 12, 3) := by decide +kernel
theorem dX8_undo_25 : decode cX8_undo 25 = .ok (.getfield 208, 3) := by decide +kernel
theorem dX8_undo_28 : decode cX8_undo 28 = .ok (.ireturn, 1) := by decide +kernel
theorem dX8_act_0 : decode cX8_act 0 = .ok (.aload_n 0, 1) := by decide +kernel
theorem dX8_act_1 : decode cX8_act 1 = .ok (.getfield 71, 3) := by decide +kernel
theorem dX8_act_4 : decode cX8_act 4 = .ok (.invokevirtual 338, 3) := by decide +kernel
theorem dX8_act_7 : decode cX8_act 7 = .ok (.aload_n 0, 1) := by decide +kernel
theorem dX8_act_8 : decode cX8_act 8 = .ok (.getfield 12, 3) := by decide +kernel
theorem dX8_act_11 : decode cX8_act 11 = .ok (.iload_n 1, 1) := by decide +kernel
theorem dX8_act_12 : decode cX8_act 12 = .ok (.invokevirtual 90, 3) := by decide +kernel
theorem dX8_act_15 : decode cX8_act 15 = .ok (.astore 4, 2) := by decide +kernel
theorem dX8_act_17 : decode cX8_act 17 = .ok (.aload 4, 2) := by decide +kernel
theorem dX8_act_19 : decode cX8_act 19 = .ok (.ifnull 12, 3) := by decide +kernel
theorem dX8_act_22 : decode cX8_act 22 = .ok (.iload_n 2, 1) := by decide +kernel
theorem dX8_act_23 : decode cX8_act 23 = .ok (.ifCond .lt 8, 3) := by decide +kernel
theorem dX8_act_26 : decode cX8_act 26 = .ok (.iload_n 2, 1) := by decide +kernel
theorem dX8_act_27 : decode cX8_act 27 = .ok (.iconst 2, 1) := by decide +kernel
theorem dX8_act_28 : decode cX8_act 28 = .ok (.if_icmp .le 5, 3) := by decide +kernel
theorem dX8_act_31 : decode cX8_act 31 = .ok (.iconst 0, 1) := by decide +kernel
theorem dX8_act_32 : decode cX8_act 32 = .ok (.ireturn, 1) := by decide +kernel
theorem dX8_act_33 : decode cX8_act 33 = .ok (.aload_n 0, 1) := by decide +kernel
theorem dX8_act_34 : decode cX8_act 34 = .ok (.getfield 71, 3) := by decide +kernel
theorem dX8_act_37 : decode cX8_act 37 = .ok (.aload 4, 2) := by decide +kernel
theorem dX8_act_39 : decode cX8_act 39 = .ok (.aload 4, 2) := by decide +kernel
theorem dX8_act_41 : decode cX8_act 41 = .ok (.getfield 123, 3) := by decide +kernel
theorem dX8_act_44 : decode cX8_act 44 = .ok (.iload_n 2, 1) := by decide +kernel
theorem dX8_act_45 : decode cX8_act 45 = .ok (.iload_n 3, 1) := by decide +kernel
theorem dX8_act_46 : decode cX8_act 46 = .ok (.iconst 0, 1) := by decide +kernel
theorem dX8_act_47 : decode cX8_act 47 = .ok (.invokevirtual 341, 3) := by decide +kernel
theorem dX8_act_50 : decode cX8_act 50 = .ok (.ireturn, 1) := by decide +kernel
theorem dX8_trace_0 : decode cX8_trace 0 = .ok (.iload_n 1, 1) := by decide +kernel
theorem dX8_trace_1 : decode cX8_trace 1 = .ok (.ifCond .lt 26, 3) := by decide +kernel
theorem dX8_trace_4 : decode cX8_trace 4 = .ok (.iload_n 1, 1) := by decide +kernel
theorem dX8_trace_5 : decode cX8_trace 5 = .ok (.aload_n 0, 1) := by decide +kernel
theorem dX8_trace_6 : decode cX8_trace 6 = .ok (.getfield 71, 3) := by decide +kernel
theorem dX8_trace_9 : decode cX8_trace 9 = .ok (.invokevirtual 345, 3) := by decide +kernel
theorem dX8_trace_12 : decode cX8_trace 12 = .ok (.if_icmp .ge 15, 3) := by decide +kernel
theorem dX8_trace_15 : decode cX8_trace 15 = .ok (.aload_n 0, 1) := by decide +kernel
theorem dX8_trace_16 : decode cX8_trace 16 = .ok (.getfield 71, 3) := by decide +kernel
theorem dX8_trace_19 : decode cX8_trace 19 = .ok (.getfield 348, 3) := by decide +kernel
theorem dX8_trace_22 : decode cX8_trace 22 = .ok (.iload_n 1, 1) := by decide +kernel
theorem dX8_trace_23 : decode cX8_trace 23 = .ok (.iaload, 1) := by decide +kernel
theorem dX8_trace_24 : decode cX8_trace 24 = .ok (.goto 4, 3) := by decide +kernel
theorem dX8_trace_27 : decode cX8_trace 27 = .ok (.iconst (-1), 1) := by decide +kernel
theorem dX8_trace_28 : decode cX8_trace 28 = .ok (.ireturn, 1) := by decide +kernel
theorem dX8_taken_0 : decode cX8_taken 0 = .ok (.iload_n 2, 1) := by decide +kernel
theorem dX8_taken_1 : decode cX8_taken 1 = .ok (.ifCond .lt 9, 3) := by decide +kernel
theorem dX8_taken_4 : decode cX8_taken 4 = .ok (.iload_n 2, 1) := by decide +kernel
theorem dX8_taken_5 : decode cX8_taken 5 = .ok (.bipush 7, 2) := by decide +kernel
theorem dX8_taken_7 : decode cX8_taken 7 = .ok (.if_icmp .lt 6, 3) := by decide +kernel
theorem dX8_taken_10 : decode cX8_taken 10 = .ok (.bipush (-2), 2) := by decide +kernel
theorem dX8_taken_12 : decode cX8_taken 12 = .ok (.ireturn, 1) := by decide +kernel
theorem dX8_taken_13 : decode cX8_taken 13 = .ok (.aload_n 0, 1) := by decide +kernel
theorem dX8_taken_14 : decode cX8_taken 14 = .ok (.getfield 12, 3) := by decide +kernel
theorem dX8_taken_17 : decode cX8_taken 17 = .ok (.iload_n 1, 1) := by decide +kernel
theorem dX8_taken_18 : decode cX8_taken 18 = .ok (.invokevirtual 90, 3) := by decide +kernel
theorem dX8_taken_21 : decode cX8_taken 21 = .ok (.astore_n 3, 1) := by decide +kernel
theorem dX8_taken_22 : decode cX8_taken 22 = .ok (.aload_n 3, 1) := by decide +kernel
theorem dX8_taken_23 : decode cX8_taken 23 = .ok (.ifnonnull 6, 3) := by decide +kernel
theorem dX8_taken_26 : decode cX8_taken 26 = .ok (.bipush (-11), 2) := by decide +kernel
theorem dX8_taken_28 : decode cX8_taken 28 = .ok (.ireturn, 1) := by decide +kernel
theorem dX8_taken_29 : decode cX8_taken 29 = .ok (.aload_n 3, 1) := by decide +kernel
theorem dX8_taken_30 : decode cX8_taken 30 = .ok (.getfield 123, 3) := by decide +kernel
theorem dX8_taken_33 : decode cX8_taken 33 = .ok (.iload_n 2, 1) := by decide +kernel
theorem dX8_taken_34 : decode cX8_taken 34 = .ok (.invokestatic 351, 3) := by decide +kernel
theorem dX8_taken_37 : decode cX8_taken 37 = .ok (.ifCond .eq 10, 3) := by decide +kernel
theorem dX8_taken_40 : decode cX8_taken 40 = .ok (.aload_n 3, 1) := by decide +kernel
theorem dX8_taken_41 : decode cX8_taken 41 = .ok (.getfield 123, 3) := by decide +kernel
theorem dX8_taken_44 : decode cX8_taken 44 = .ok (.goto 5, 3) := by decide +kernel
theorem dX8_taken_47 : decode cX8_taken 47 = .ok (.bipush (-12), 2) := by decide +kernel
theorem dX8_taken_49 : decode cX8_taken 49 = .ok (.ireturn, 1) := by decide +kernel
theorem dX8_isUnder_0 : decode cX8_isUnder 0 = .ok (.iload_n 0, 1) := by decide +kernel
theorem dX8_isUnder_1 : decode cX8_isUnder 1 = .ok (.istore_n 2, 1) := by decide +kernel
theorem dX8_isUnder_2 : decode cX8_isUnder 2 = .ok (.iconst 0, 1) := by decide +kernel
theorem dX8_isUnder_3 : decode cX8_isUnder 3 = .ok (.istore_n 3, 1) := by decide +kernel
theorem dX8_isUnder_4 : decode cX8_isUnder 4 = .ok (.iload_n 3, 1) := by decide +kernel
theorem dX8_isUnder_5 : decode cX8_isUnder 5 = .ok (.bipush 7, 2) := by decide +kernel
theorem dX8_isUnder_7 : decode cX8_isUnder 7 = .ok (.if_icmp .ge 24, 3) := by decide +kernel
theorem dX8_isUnder_10 : decode cX8_isUnder 10 = .ok (.iload_n 2, 1) := by decide +kernel
theorem dX8_isUnder_11 : decode cX8_isUnder 11 = .ok (.iload_n 1, 1) := by decide +kernel
theorem dX8_isUnder_12 : decode cX8_isUnder 12 = .ok (.if_icmp .eq 19, 3) := by decide +kernel
theorem dX8_isUnder_15 : decode cX8_isUnder 15 = .ok (.iload_n 2, 1) := by decide +kernel
theorem dX8_isUnder_16 : decode cX8_isUnder 16 = .ok (.ifCond .le 15, 3) := by decide +kernel
theorem dX8_isUnder_19 : decode cX8_isUnder 19 = .ok (.getstatic 354, 3) := by decide +kernel
theorem dX8_isUnder_22 : decode cX8_isUnder 22 = .ok (.iload_n 2, 1) := by decide +kernel
theorem dX8_isUnder_23 : decode cX8_isUnder 23 = .ok (.iaload, 1) := by decide +kernel
theorem dX8_isUnder_24 : decode cX8_isUnder 24 = .ok (.istore_n 2, 1) := by decide +kernel
theorem dX8_isUnder_25 : decode cX8_isUnder 25 = .ok (.iinc 3 1, 3) := by decide +kernel
theorem dX8_isUnder_28 : decode cX8_isUnder 28 = .ok (.goto (-24), 3) := by decide +kernel
theorem dX8_isUnder_31 : decode cX8_isUnder 31 = .ok (.iload_n 2, 1) := by decide +kernel
theorem dX8_isUnder_32 : decode cX8_isUnder 32 = .ok (.iload_n 1, 1) := by decide +kernel
theorem dX8_isUnder_33 : decode cX8_isUnder 33 = .ok (.if_icmp .ne 7, 3) := by decide +kernel
theorem dX8_isUnder_36 : decode cX8_isUnder 36 = .ok (.iconst 1, 1) := by decide +kernel
theorem dX8_isUnder_37 : decode cX8_isUnder 37 = .ok (.goto 4, 3) := by decide +kernel
theorem dX8_isUnder_40 : decode cX8_isUnder 40 = .ok (.iconst 0, 1) := by decide +kernel
theorem dX8_isUnder_41 : decode cX8_isUnder 41 = .ok (.ireturn, 1) := by decide +kernel
theorem dX8_count_0 : decode cX8_count 0 = .ok (.iload_n 1, 1) := by decide +kernel
theorem dX8_count_1 : decode cX8_count 1 = .ok (.tableswitch 105 0 6 #[43, 51, 56, 67, 78, 89, 97], 43) := by decide +kernel
theorem dX8_count_44 : decode cX8_count 44 = .ok (.aload_n 0, 1) := by decide +kernel
theorem dX8_count_45 : decode cX8_count 45 = .ok (.getfield 12, 3) := by decide +kernel
theorem dX8_count_48 : decode cX8_count 48 = .ok (.getfield 208, 3) := by decide +kernel
theorem dX8_count_51 : decode cX8_count 51 = .ok (.ireturn, 1) := by decide +kernel
theorem dX8_count_52 : decode cX8_count 52 = .ok (.aload_n 0, 1) := by decide +kernel
theorem dX8_count_53 : decode cX8_count 53 = .ok (.getfield 53, 3) := by decide +kernel
theorem dX8_count_56 : decode cX8_count 56 = .ok (.ireturn, 1) := by decide +kernel
theorem dX8_count_57 : decode cX8_count 57 = .ok (.aload_n 0, 1) := by decide +kernel
theorem dX8_count_58 : decode cX8_count 58 = .ok (.getfield 12, 3) := by decide +kernel
theorem dX8_count_61 : decode cX8_count 61 = .ok (.getfield 255, 3) := by decide +kernel
theorem dX8_count_64 : decode cX8_count 64 = .ok (.getfield 282, 3) := by decide +kernel
theorem dX8_count_67 : decode cX8_count 67 = .ok (.ireturn, 1) := by decide +kernel
theorem dX8_count_68 : decode cX8_count 68 = .ok (.aload_n 0, 1) := by decide +kernel
theorem dX8_count_69 : decode cX8_count 69 = .ok (.getfield 12, 3) := by decide +kernel
theorem dX8_count_72 : decode cX8_count 72 = .ok (.getfield 307, 3) := by decide +kernel
theorem dX8_count_75 : decode cX8_count 75 = .ok (.getfield 282, 3) := by decide +kernel
theorem dX8_count_78 : decode cX8_count 78 = .ok (.ireturn, 1) := by decide +kernel
theorem dX8_count_79 : decode cX8_count 79 = .ok (.aload_n 0, 1) := by decide +kernel
theorem dX8_count_80 : decode cX8_count 80 = .ok (.getfield 12, 3) := by decide +kernel
theorem dX8_count_83 : decode cX8_count 83 = .ok (.getfield 319, 3) := by decide +kernel
theorem dX8_count_86 : decode cX8_count 86 = .ok (.getfield 282, 3) := by decide +kernel
theorem dX8_count_89 : decode cX8_count 89 = .ok (.ireturn, 1) := by decide +kernel
theorem dX8_count_90 : decode cX8_count 90 = .ok (.aload_n 0, 1) := by decide +kernel
theorem dX8_count_91 : decode cX8_count 91 = .ok (.getfield 38, 3) := by decide +kernel
theorem dX8_count_94 : decode cX8_count 94 = .ok (.getfield 357, 3) := by decide +kernel
theorem dX8_count_97 : decode cX8_count 97 = .ok (.ireturn, 1) := by decide +kernel
theorem dX8_count_98 : decode cX8_count 98 = .ok (.aload_n 0, 1) := by decide +kernel
theorem dX8_count_99 : decode cX8_count 99 = .ok (.getfield 71, 3) := by decide +kernel
theorem dX8_count_102 : decode cX8_count 102 = .ok (.getfield 360, 3) := by decide +kernel
theorem dX8_count_105 : decode cX8_count 105 = .ok (.ireturn, 1) := by decide +kernel
theorem dX8_count_106 : decode cX8_count 106 = .ok (.bipush (-2), 2) := by decide +kernel
theorem dX8_count_108 : decode cX8_count 108 = .ok (.ireturn, 1) := by decide +kernel
theorem dX8_tape_0 : decode cX8_tape 0 = .ok (.aload_n 0, 1) := by decide +kernel
theorem dX8_tape_1 : decode cX8_tape 1 = .ok (.iload_n 1, 1) := by decide +kernel
theorem dX8_tape_2 : decode cX8_tape 2 = .ok (.invokevirtual 322, 3) := by decide +kernel
theorem dX8_tape_5 : decode cX8_tape 5 = .ok (.astore 4, 2) := by decide +kernel
theorem dX8_tape_7 : decode cX8_tape 7 = .ok (.aload 4, 2) := by decide +kernel
theorem dX8_tape_9 : decode cX8_tape 9 = .ok (.ifnonnull 5, 3) := by decide +kernel
theorem dX8_tape_12 : decode cX8_tape 12 = .ok (.iconst (-1), 1) := by decide +kernel
theorem dX8_tape_13 : decode cX8_tape 13 = .ok (.ireturn, 1) := by decide +kernel
theorem dX8_tape_14 : decode cX8_tape 14 = .ok (.iload_n 2, 1) := by decide +kernel
theorem dX8_tape_15 : decode cX8_tape 15 = .ok (.iconst (-1), 1) := by decide +kernel
theorem dX8_tape_16 : decode cX8_tape 16 = .ok (.if_icmp .ne 12, 3) := by decide +kernel
theorem dX8_tape_19 : decode cX8_tape 19 = .ok (.aload 4, 2) := by decide +kernel
theorem dX8_tape_21 : decode cX8_tape 21 = .ok (.iconst (-1), 1) := by decide +kernel
theorem dX8_tape_22 : decode cX8_tape 22 = .ok (.iconst 0, 1) := by decide +kernel
theorem dX8_tape_23 : decode cX8_tape 23 = .ok (.invokevirtual 363, 3) := by decide +kernel
theorem dX8_tape_26 : decode cX8_tape 26 = .ok (.iconst 1, 1) := by decide +kernel
theorem dX8_tape_27 : decode cX8_tape 27 = .ok (.ireturn, 1) := by decide +kernel
theorem dX8_tape_28 : decode cX8_tape 28 = .ok (.iload_n 2, 1) := by decide +kernel
theorem dX8_tape_29 : decode cX8_tape 29 = .ok (.ifCond .lt 14, 3) := by decide +kernel
theorem dX8_tape_32 : decode cX8_tape 32 = .ok (.iload_n 2, 1) := by decide +kernel
theorem dX8_tape_33 : decode cX8_tape 33 = .ok (.iconst 4, 1) := by decide +kernel
theorem dX8_tape_34 : decode cX8_tape 34 = .ok (.if_icmp .gt 9, 3) := by decide +kernel
theorem dX8_tape_37 : decode cX8_tape 37 = .ok (.iload_n 3, 1) := by decide +kernel
theorem dX8_tape_38 : decode cX8_tape 38 = .ok (.bipush 60, 2) := by decide +kernel
theorem dX8_tape_40 : decode cX8_tape 40 = .ok (.if_icmp .le 6, 3) := by decide +kernel
theorem dX8_tape_43 : decode cX8_tape 43 = .ok (.bipush (-2), 2) := by decide +kernel
theorem dX8_tape_45 : decode cX8_tape 45 = .ok (.ireturn, 1) := by decide +kernel
theorem dX8_tape_46 : decode cX8_tape 46 = .ok (.iload_n 3, 1) := by decide +kernel
theorem dX8_tape_47 : decode cX8_tape 47 = .ok (.ifCond .ge 6, 3) := by decide +kernel
theorem dX8_tape_50 : decode cX8_tape 50 = .ok (.bipush (-14), 2) := by decide +kernel
theorem dX8_tape_52 : decode cX8_tape 52 = .ok (.ireturn, 1) := by decide +kernel
theorem dX8_tape_53 : decode cX8_tape 53 = .ok (.aload 4, 2) := by decide +kernel
theorem dX8_tape_55 : decode cX8_tape 55 = .ok (.iload_n 2, 1) := by decide +kernel
theorem dX8_tape_56 : decode cX8_tape 56 = .ok (.iload_n 3, 1) := by decide +kernel
theorem dX8_tape_57 : decode cX8_tape 57 = .ok (.invokevirtual 363, 3) := by decide +kernel
theorem dX8_tape_60 : decode cX8_tape 60 = .ok (.iconst 1, 1) := by decide +kernel
theorem dX8_tape_61 : decode cX8_tape 61 = .ok (.ireturn, 1) := by decide +kernel
theorem dX8_item_0 : decode cX8_item 0 = .ok (.aload_n 0, 1) := by decide +kernel
theorem dX8_item_1 : decode cX8_item 1 = .ok (.iload_n 1, 1) := by decide +kernel
theorem dX8_item_2 : decode cX8_item 2 = .ok (.invokevirtual 322, 3) := by decide +kernel
theorem dX8_item_5 : decode cX8_item 5 = .ok (.astore 5, 2) := by decide +kernel
theorem dX8_item_7 : decode cX8_item 7 = .ok (.aload 5, 2) := by decide +kernel
theorem dX8_item_9 : decode cX8_item 9 = .ok (.ifnonnull 5, 3) := by decide +kernel
theorem dX8_item_12 : decode cX8_item 12 = .ok (.iconst (-1), 1) := by decide +kernel
theorem dX8_item_13 : decode cX8_item 13 = .ok (.ireturn, 1) := by decide +kernel
theorem dX8_item_14 : decode cX8_item 14 = .ok (.aload 5, 2) := by decide +kernel
theorem dX8_item_16 : decode cX8_item 16 = .ok (.getfield 326, 3) := by decide +kernel
theorem dX8_item_19 : decode cX8_item 19 = .ok (.iconst (-1), 1) := by decide +kernel
theorem dX8_item_20 : decode cX8_item 20 = .ok (.if_icmp .ne 6, 3) := by decide +kernel
theorem dX8_item_23 : decode cX8_item 23 = .ok (.bipush (-11), 2) := by decide +kernel
theorem dX8_item_25 : decode cX8_item 25 = .ok (.ireturn, 1) := by decide +kernel
theorem dX8_item_26 : decode cX8_item 26 = .ok (.aload 5, 2) := by decide +kernel
theorem dX8_item_28 : decode cX8_item 28 = .ok (.iload_n 2, 1) := by decide +kernel
theorem dX8_item_29 : decode cX8_item 29 = .ok (.invokevirtual 329, 3) := by decide +kernel
theorem dX8_item_32 : decode cX8_item 32 = .ok (.ifCond .ne 6, 3) := by decide +kernel
theorem dX8_item_35 : decode cX8_item 35 = .ok (.bipush (-13), 2) := by decide +kernel
theorem dX8_item_37 : decode cX8_item 37 = .ok (.ireturn, 1) := by decide +kernel
theorem dX8_item_38 : decode cX8_item 38 = .ok (.aload 5, 2) := by decide +kernel
theorem dX8_item_40 : decode cX8_item 40 = .ok (.getfield 332, 3) := by decide +kernel
theorem dX8_item_43 : decode cX8_item 43 = .ok (.iload_n 2, 1) := by decide +kernel
theorem dX8_item_44 : decode cX8_item 44 = .ok (.aload 5, 2) := by decide +kernel
theorem dX8_item_46 : decode cX8_item 46 = .ok (.lload_n 3, 1) := by decide +kernel
theorem dX8_item_47 : decode cX8_item 47 = .ok (.invokevirtual 366, 3) := by decide +kernel
theorem dX8_item_50 : decode cX8_item 50 = .ok (.lastore, 1) := by decide +kernel
theorem dX8_item_51 : decode cX8_item 51 = .ok (.iconst 1, 1) := by decide +kernel
theorem dX8_item_52 : decode cX8_item 52 = .ok (.ireturn, 1) := by decide +kernel
theorem dX8_read_0 : decode cX8_read 0 = .ok (.aload_n 0, 1) := by decide +kernel
theorem dX8_read_1 : decode cX8_read 1 = .ok (.iload_n 1, 1) := by decide +kernel
theorem dX8_read_2 : decode cX8_read 2 = .ok (.invokevirtual 322, 3) := by decide +kernel
theorem dX8_read_5 : decode cX8_read 5 = .ok (.astore_n 3, 1) := by decide +kernel
theorem dX8_read_6 : decode cX8_read 6 = .ok (.aload_n 3, 1) := by decide +kernel
theorem dX8_read_7 : decode cX8_read 7 = .ok (.ifnull 20, 3) := by decide +kernel
theorem dX8_read_10 : decode cX8_read 10 = .ok (.aload_n 3, 1) := by decide +kernel
theorem dX8_read_11 : decode cX8_read 11 = .ok (.iload_n 2, 1) := by decide +kernel
theorem dX8_read_12 : decode cX8_read 12 = .ok (.invokevirtual 329, 3) := by decide +kernel
theorem dX8_read_15 : decode cX8_read 15 = .ok (.ifCond .eq 12, 3) := by decide +kernel
theorem dX8_read_18 : decode cX8_read 18 = .ok (.aload_n 3, 1) := by decide +kernel
theorem dX8_read_19 : decode cX8_read 19 = .ok (.getfield 332, 3) := by decide +kernel
theorem dX8_read_22 : decode cX8_read 22 = .ok (.iload_n 2, 1) := by decide +kernel
theorem dX8_read_23 : decode cX8_read 23 = .ok (.laload, 1) := by decide +kernel
theorem dX8_read_24 : decode cX8_read 24 = .ok (.goto 6, 3) := by decide +kernel
theorem dX8_read_27 : decode cX8_read 27 = .ok (.ldc2_w 272, 3) := by decide +kernel
theorem dX8_read_30 : decode cX8_read 30 = .ok (.lreturn, 1) := by decide +kernel
theorem dX8_shift_0 : decode cX8_shift 0 = .ok (.aload_n 0, 1) := by decide +kernel
theorem dX8_shift_1 : decode cX8_shift 1 = .ok (.iload_n 1, 1) := by decide +kernel
theorem dX8_shift_2 : decode cX8_shift 2 = .ok (.invokevirtual 322, 3) := by decide +kernel
theorem dX8_shift_5 : decode cX8_shift 5 = .ok (.astore 6, 2) := by decide +kernel
theorem dX8_shift_7 : decode cX8_shift 7 = .ok (.aload_n 0, 1) := by decide +kernel
theorem dX8_shift_8 : decode cX8_shift 8 = .ok (.iload_n 3, 1) := by decide +kernel
theorem dX8_shift_9 : decode cX8_shift 9 = .ok (.invokevirtual 322, 3) := by decide +kernel
theorem dX8_shift_12 : decode cX8_shift 12 = .ok (.astore 7, 2) := by decide +kernel
theorem dX8_shift_14 : decode cX8_shift 14 = .ok (.aload 6, 2) := by decide +kernel
theorem dX8_shift_16 : decode cX8_shift 16 = .ok (.ifnull 8, 3) := by decide +kernel
theorem dX8_shift_19 : decode cX8_shift 19 = .ok (.aload 7, 2) := by decide +kernel
theorem dX8_shift_21 : decode cX8_shift 21 = .ok (.ifnonnull 5, 3) := by decide +kernel
theorem dX8_shift_24 : decode cX8_shift 24 = .ok (.iconst (-1), 1) := by decide +kernel
theorem dX8_shift_25 : decode cX8_shift 25 = .ok (.ireturn, 1) := by decide +kernel
theorem dX8_shift_26 : decode cX8_shift 26 = .ok (.aload 6, 2) := by decide +kernel
theorem dX8_shift_28 : decode cX8_shift 28 = .ok (.getfield 326, 3) := by decide +kernel
theorem dX8_shift_31 : decode cX8_shift 31 = .ok (.iconst (-1), 1) := by decide +kernel
theorem dX8_shift_32 : decode cX8_shift 32 = .ok (.if_icmp .eq 12, 3) := by decide +kernel
theorem dX8_shift_35 : decode cX8_shift 35 = .ok (.aload 7, 2) := by decide +kernel
theorem dX8_shift_37 : decode cX8_shift 37 = .ok (.getfield 326, 3) := by decide +kernel
theorem dX8_shift_40 : decode cX8_shift 40 = .ok (.iconst (-1), 1) := by decide +kernel
theorem dX8_shift_41 : decode cX8_shift 41 = .ok (.if_icmp .ne 6, 3) := by decide +kernel
theorem dX8_shift_44 : decode cX8_shift 44 = .ok (.bipush (-11), 2) := by decide +kernel
theorem dX8_shift_46 : decode cX8_shift 46 = .ok (.ireturn, 1) := by decide +kernel
theorem dX8_shift_47 : decode cX8_shift 47 = .ok (.aload 6, 2) := by decide +kernel
theorem dX8_shift_49 : decode cX8_shift 49 = .ok (.getfield 326, 3) := by decide +kernel
theorem dX8_shift_52 : decode cX8_shift 52 = .ok (.aload 7, 2) := by decide +kernel
theorem dX8_shift_54 : decode cX8_shift 54 = .ok (.getfield 326, 3) := by decide +kernel
theorem dX8_shift_57 : decode cX8_shift 57 = .ok (.if_icmp .eq 6, 3) := by decide +kernel
theorem dX8_shift_60 : decode cX8_shift 60 = .ok (.bipush (-12), 2) := by decide +kernel
theorem dX8_shift_62 : decode cX8_shift 62 = .ok (.ireturn, 1) := by decide +kernel
theorem dX8_shift_63 : decode cX8_shift 63 = .ok (.aload 6, 2) := by decide +kernel
theorem dX8_shift_65 : decode cX8_shift 65 = .ok (.iload_n 2, 1) := by decide +kernel
theorem dX8_shift_66 : decode cX8_shift 66 = .ok (.iload 5, 2) := by decide +kernel
theorem dX8_shift_68 : decode cX8_shift 68 = .ok (.invokevirtual 370, 3) := by decide +kernel
theorem dX8_shift_71 : decode cX8_shift 71 = .ok (.ifCond .eq 15, 3) := by decide +kernel
theorem dX8_shift_74 : decode cX8_shift 74 = .ok (.aload 7, 2) := by decide +kernel
theorem dX8_shift_76 : decode cX8_shift 76 = .ok (.iload 4, 2) := by decide +kernel
theorem dX8_shift_78 : decode cX8_shift 78 = .ok (.iload 5, 2) := by decide +kernel
theorem dX8_shift_80 : decode cX8_shift 80 = .ok (.invokevirtual 370, 3) := by decide +kernel
theorem dX8_shift_83 : decode cX8_shift 83 = .ok (.ifCond .ne 6, 3) := by decide +kernel
theorem dX8_shift_86 : decode cX8_shift 86 = .ok (.bipush (-13), 2) := by decide +kernel
theorem dX8_shift_88 : decode cX8_shift 88 = .ok (.ireturn, 1) := by decide +kernel
theorem dX8_shift_89 : decode cX8_shift 89 = .ok (.aload 6, 2) := by decide +kernel
theorem dX8_shift_91 : decode cX8_shift 91 = .ok (.getfield 332, 3) := by decide +kernel
theorem dX8_shift_94 : decode cX8_shift 94 = .ok (.iload_n 2, 1) := by decide +kernel
theorem dX8_shift_95 : decode cX8_shift 95 = .ok (.aload 7, 2) := by decide +kernel
theorem dX8_shift_97 : decode cX8_shift 97 = .ok (.getfield 332, 3) := by decide +kernel
theorem dX8_shift_100 : decode cX8_shift 100 = .ok (.iload 4, 2) := by decide +kernel
theorem dX8_shift_102 : decode cX8_shift 102 = .ok (.iload 5, 2) := by decide +kernel
theorem dX8_shift_104 : decode cX8_shift 104 = .ok (.invokestatic 373, 3) := by decide +kernel
theorem dX8_shift_107 : decode cX8_shift 107 = .ok (.iload 5, 2) := by decide +kernel
theorem dX8_shift_109 : decode cX8_shift 109 = .ok (.ireturn, 1) := by decide +kernel
theorem dX8_tapeAt_0 : decode cX8_tapeAt 0 = .ok (.iload_n 1, 1) := by decide +kernel
theorem dX8_tapeAt_1 : decode cX8_tapeAt 1 = .ok (.ifCond .lt 18, 3) := by decide +kernel
theorem dX8_tapeAt_4 : decode cX8_tapeAt 4 = .ok (.iload_n 1, 1) := by decide +kernel
theorem dX8_tapeAt_5 : decode cX8_tapeAt 5 = .ok (.bipush 6, 2) := by decide +kernel
theorem dX8_tapeAt_7 : decode cX8_tapeAt 7 = .ok (.if_icmp .ge 12, 3) := by decide +kernel
theorem dX8_tapeAt_10 : decode cX8_tapeAt 10 = .ok (.aload_n 0, 1) := by decide +kernel
theorem dX8_tapeAt_11 : decode cX8_tapeAt 11 = .ok (.getfield 77, 3) := by decide +kernel
theorem dX8_tapeAt_14 : decode cX8_tapeAt 14 = .ok (.iload_n 1, 1) := by decide +kernel
theorem dX8_tapeAt_15 : decode cX8_tapeAt 15 = .ok (.aaload, 1) := by decide +kernel
theorem dX8_tapeAt_16 : decode cX8_tapeAt 16 = .ok (.goto 4, 3) := by decide +kernel
theorem dX8_tapeAt_19 : decode cX8_tapeAt 19 = .ok (.aconst_null, 1) := by decide +kernel
theorem dX8_tapeAt_20 : decode cX8_tapeAt 20 = .ok (.areturn, 1) := by decide +kernel
theorem dX9_init_0 : decode cX9_init 0 = .ok (.aload_n 0, 1) := by decide +kernel
theorem dX9_init_1 : decode cX9_init 1 = .ok (.invokespecial 3, 3) := by decide +kernel
theorem dX9_init_4 : decode cX9_init 4 = .ok (.aload_n 0, 1) := by decide +kernel
theorem dX9_init_5 : decode cX9_init 5 = .ok (.bipush 115, 2) := by decide +kernel
theorem dX9_init_7 : decode cX9_init 7 = .ok (.newarray .int, 2) := by decide +kernel
theorem dX9_init_9 : decode cX9_init 9 = .ok (.putfield 9, 3) := by decide +kernel
theorem dX9_init_12 : decode cX9_init 12 = .ok (.aload_n 0, 1) := by decide +kernel
theorem dX9_init_13 : decode cX9_init 13 = .ok (.bipush 115, 2) := by decide +kernel
theorem dX9_init_15 : decode cX9_init 15 = .ok (.newarray .int, 2) := by decide +kernel
theorem dX9_init_17 : decode cX9_init 17 = .ok (.putfield 15, 3) := by decide +kernel
theorem dX9_init_20 : decode cX9_init 20 = .ok (.aload_n 0, 1) := by decide +kernel
theorem dX9_init_21 : decode cX9_init 21 = .ok (.bipush 115, 2) := by decide +kernel
theorem dX9_init_23 : decode cX9_init 23 = .ok (.newarray .int, 2) := by decide +kernel
theorem dX9_init_25 : decode cX9_init 25 = .ok (.putfield 18, 3) := by decide +kernel
theorem dX9_init_28 : decode cX9_init 28 = .ok (.aload_n 0, 1) := by decide +kernel
theorem dX9_init_29 : decode cX9_init 29 = .ok (.bipush 100, 2) := by decide +kernel
theorem dX9_init_31 : decode cX9_init 31 = .ok (.newarray .int, 2) := by decide +kernel
theorem dX9_init_33 : decode cX9_init 33 = .ok (.putfield 21, 3) := by decide +kernel
theorem dX9_init_36 : decode cX9_init 36 = .ok (.aload_n 0, 1) := by decide +kernel
theorem dX9_init_37 : decode cX9_init 37 = .ok (.sipush 600, 3) := by decide +kernel
theorem dX9_init_40 : decode cX9_init 40 = .ok (.newarray .int, 2) := by decide +kernel
theorem dX9_init_42 : decode cX9_init 42 = .ok (.putfield 24, 3) := by decide +kernel
theorem dX9_init_45 : decode cX9_init 45 = .ok (.aload_n 0, 1) := by decide +kernel
theorem dX9_init_46 : decode cX9_init 46 = .ok (.bipush 6, 2) := by decide +kernel
theorem dX9_init_48 : decode cX9_init 48 = .ok (.newarray .int, 2) := by decide +kernel
theorem dX9_init_50 : decode cX9_init 50 = .ok (.putfield 27, 3) := by decide +kernel
theorem dX9_init_53 : decode cX9_init 53 = .ok (.aload_n 0, 1) := by decide +kernel
theorem dX9_init_54 : decode cX9_init 54 = .ok (.bipush 100, 2) := by decide +kernel
theorem dX9_init_56 : decode cX9_init 56 = .ok (.newarray .int, 2) := by decide +kernel
theorem dX9_init_58 : decode cX9_init 58 = .ok (.putfield 30, 3) := by decide +kernel
theorem dX9_init_61 : decode cX9_init 61 = .ok (.aload_n 0, 1) := by decide +kernel
theorem dX9_init_62 : decode cX9_init 62 = .ok (.bipush 6, 2) := by decide +kernel
theorem dX9_init_64 : decode cX9_init 64 = .ok (.newarray .int, 2) := by decide +kernel
theorem dX9_init_66 : decode cX9_init 66 = .ok (.putfield 33, 3) := by decide +kernel
theorem dX9_init_69 : decode cX9_init 69 = .ok (.aload_n 0, 1) := by decide +kernel
theorem dX9_init_70 : decode cX9_init 70 = .ok (.bipush 6, 2) := by decide +kernel
theorem dX9_init_72 : decode cX9_init 72 = .ok (.newarray .char, 2) := by decide +kernel
theorem dX9_init_74 : decode cX9_init 74 = .ok (.dup, 1) := by decide +kernel
theorem dX9_init_75 : decode cX9_init 75 = .ok (.iconst 0, 1) := by decide +kernel
theorem dX9_init_76 : decode cX9_init 76 = .ok (.bipush 112, 2) := by decide +kernel
theorem dX9_init_78 : decode cX9_init 78 = .ok (.castore, 1) := by decide +kernel
theorem dX9_init_79 : decode cX9_init 79 = .ok (.dup, 1) := by decide +kernel
theorem dX9_init_80 : decode cX9_init 80 = .ok (.iconst 1, 1) := by decide +kernel
theorem dX9_init_81 : decode cX9_init 81 = .ok (.bipush 107, 2) := by decide +kernel
theorem dX9_init_83 : decode cX9_init 83 = .ok (.castore, 1) := by decide +kernel
theorem dX9_init_84 : decode cX9_init 84 = .ok (.dup, 1) := by decide +kernel
theorem dX9_init_85 : decode cX9_init 85 = .ok (.iconst 2, 1) := by decide +kernel
theorem dX9_init_86 : decode cX9_init 86 = .ok (.bipush 118, 2) := by decide +kernel
theorem dX9_init_88 : decode cX9_init 88 = .ok (.castore, 1) := by decide +kernel
theorem dX9_init_89 : decode cX9_init 89 = .ok (.dup, 1) := by decide +kernel
theorem dX9_init_90 : decode cX9_init 90 = .ok (.iconst 3, 1) := by decide +kernel
theorem dX9_init_91 : decode cX9_init 91 = .ok (.bipush 102, 2) := by decide +kernel
theorem dX9_init_93 : decode cX9_init 93 = .ok (.castore, 1) := by decide +kernel
theorem dX9_init_94 : decode cX9_init 94 = .ok (.dup, 1) := by decide +kernel
theorem dX9_init_95 : decode cX9_init 95 = .ok (.iconst 4, 1) := by decide +kernel
theorem dX9_init_96 : decode cX9_init 96 = .ok (.bipush 115, 2) := by decide +kernel
theorem dX9_init_98 : decode cX9_init 98 = .ok (.castore, 1) := by decide +kernel
theorem dX9_init_99 : decode cX9_init 99 = .ok (.dup, 1) := by decide +kernel
theorem dX9_init_100 : decode cX9_init 100 = .ok (.iconst 5, 1) := by decide +kernel
theorem dX9_init_101 : decode cX9_init 101 = .ok (.bipush 97, 2) := by decide +kernel
theorem dX9_init_103 : decode cX9_init 103 = .ok (.castore, 1) := by decide +kernel
theorem dX9_init_104 : decode cX9_init 104 = .ok (.putfield 36, 3) := by decide +kernel
theorem dX9_init_107 : decode cX9_init 107 = .ok (.aload_n 0, 1) := by decide +kernel
theorem dX9_init_108 : decode cX9_init 108 = .ok (.iconst 3, 1) := by decide +kernel
theorem dX9_init_109 : decode cX9_init 109 = .ok (.newarray .char, 2) := by decide +kernel
theorem dX9_init_111 : decode cX9_init 111 = .ok (.dup, 1) := by decide +kernel
theorem dX9_init_112 : decode cX9_init 112 = .ok (.iconst 0, 1) := by decide +kernel
theorem dX9_init_113 : decode cX9_init 113 = .ok (.bipush 115, 2) := by decide +kernel
theorem dX9_init_115 : decode cX9_init 115 = .ok (.castore, 1) := by decide +kernel
theorem dX9_init_116 : decode cX9_init 116 = .ok (.dup, 1) := by decide +kernel
theorem dX9_init_117 : decode cX9_init 117 = .ok (.iconst 1, 1) := by decide +kernel
theorem dX9_init_118 : decode cX9_init 118 = .ok (.bipush 104, 2) := by decide +kernel
theorem dX9_init_120 : decode cX9_init 120 = .ok (.castore, 1) := by decide +kernel
theorem dX9_init_121 : decode cX9_init 121 = .ok (.dup, 1) := by decide +kernel
theorem dX9_init_122 : decode cX9_init 122 = .ok (.iconst 2, 1) := by decide +kernel
theorem dX9_init_123 : decode cX9_init 123 = .ok (.bipush 107, 2) := by decide +kernel
theorem dX9_init_125 : decode cX9_init 125 = .ok (.castore, 1) := by decide +kernel
theorem dX9_init_126 : decode cX9_init 126 = .ok (.putfield 40, 3) := by decide +kernel
theorem dX9_init_129 : decode cX9_init 129 = .ok (.aload_n 0, 1) := by decide +kernel
theorem dX9_init_130 : decode cX9_init 130 = .ok (.bipush 15, 2) := by decide +kernel
theorem dX9_init_132 : decode cX9_init 132 = .ok (.newarray .char, 2) := by decide +kernel
theorem dX9_init_134 : decode cX9_init 134 = .ok (.dup, 1) := by decide +kernel
theorem dX9_init_135 : decode cX9_init 135 = .ok (.iconst 0, 1) := by decide +kernel
theorem dX9_init_136 : decode cX9_init 136 = .ok (.bipush 115, 2) := by decide +kernel
theorem dX9_init_138 : decode cX9_init 138 = .ok (.castore, 1) := by decide +kernel
theorem dX9_init_139 : decode cX9_init 139 = .ok (.dup, 1) := by decide +kernel
theorem dX9_init_140 : decode cX9_init 140 = .ok (.iconst 1, 1) := by decide +kernel
theorem dX9_init_141 : decode cX9_init 141 = .ok (.bipush 119, 2) := by decide +kernel
theorem dX9_init_143 : decode cX9_init 143 = .ok (.castore, 1) := by decide +kernel
theorem dX9_init_144 : decode cX9_init 144 = .ok (.dup, 1) := by decide +kernel
theorem dX9_init_145 : decode cX9_init 145 = .ok (.iconst 2, 1) := by decide +kernel
theorem dX9_init_146 : decode cX9_init 146 = .ok (.bipush 101, 2) := by decide +kernel
theorem dX9_init_148 : decode cX9_init 148 = .ok (.castore, 1) := by decide +kernel
theorem dX9_init_149 : decode cX9_init 149 = .ok (.dup, 1) := by decide +kernel
theorem dX9_init_150 : decode cX9_init 150 = .ok (.iconst 3, 1) := by decide +kernel
theorem dX9_init_151 : decode cX9_init 151 = .ok (.bipush 101, 2) := by decide +kernel
theorem dX9_init_153 : decode cX9_init 153 = .ok (.castore, 1) := by decide +kernel
theorem dX9_init_154 : decode cX9_init 154 = .ok (.dup, 1) := by decide +kernel
theorem dX9_init_155 : decode cX9_init 155 = .ok (.iconst 4, 1) := by decide +kernel
theorem dX9_init_156 : decode cX9_init 156 = .ok (.bipush 116, 2) := by decide +kernel
theorem dX9_init_158 : decode cX9_init 158 = .ok (.castore, 1) := by decide +kernel
theorem dX9_init_159 : decode cX9_init 159 = .ok (.dup, 1) := by decide +kernel
theorem dX9_init_160 : decode cX9_init 160 = .ok (.iconst 5, 1) := by decide +kernel
theorem dX9_init_161 : decode cX9_init 161 = .ok (.bipush 104, 2) := by decide +kernel
theorem dX9_init_163 : decode cX9_init 163 = .ok (.castore, 1) := by decide +kernel
theorem dX9_init_164 : decode cX9_init 164 = .ok (.dup, 1) := by decide +kernel
theorem dX9_init_165 : decode cX9_init 165 = .ok (.bipush 6, 2) := by decide +kernel
theorem dX9_init_167 : decode cX9_init 167 = .ok (.bipush 97, 2) := by decide +kernel
theorem dX9_init_169 : decode cX9_init 169 = .ok (.castore, 1) := by decide +kernel
theorem dX9_init_170 : decode cX9_init 170 = .ok (.dup, 1) := by decide +kernel
theorem dX9_init_171 : decode cX9_init 171 = .ok (.bipush 7, 2) := by decide +kernel
theorem dX9_init_173 : decode cX9_init 173 = .ok (.bipush 122, 2) := by decide +kernel
theorem dX9_init_175 : decode cX9_init 175 = .ok (.castore, 1) := by decide +kernel
theorem dX9_init_176 : decode cX9_init 176 = .ok (.dup, 1) := by decide +kernel
theorem dX9_init_177 : decode cX9_init 177 = .ok (.bipush 8, 2) := by decide +kernel
theorem dX9_init_179 : decode cX9_init 179 = .ok (.bipush 101, 2) := by decide +kernel
theorem dX9_init_181 : decode cX9_init 181 = .ok (.castore, 1) := by decide +kernel
theorem dX9_init_182 : decode cX9_init 182 = .ok (.dup, 1) := by decide +kernel
theorem dX9_init_183 : decode cX9_init 183 = .ok (.bipush 9, 2) := by decide +kernel
theorem dX9_init_185 : decode cX9_init 185 = .ok (.iconst 0, 1) := by decide +kernel
theorem dX9_init_186 : decode cX9_init 186 = .ok (.castore, 1) := by decide +kernel
theorem dX9_init_187 : decode cX9_init 187 = .ok (.dup, 1) := by decide +kernel
theorem dX9_init_188 : decode cX9_init 188 = .ok (.bipush 10, 2) := by decide +kernel
theorem dX9_init_190 : decode cX9_init 190 = .ok (.bipush 107, 2) := by decide +kernel
theorem dX9_init_192 : decode cX9_init 192 = .ok (.castore, 1) := by decide +kernel
theorem dX9_init_193 : decode cX9_init 193 = .ok (.dup, 1) := by decide +kernel
theorem dX9_init_194 : decode cX9_init 194 = .ok (.bipush 11, 2) := by decide +kernel
theorem dX9_init_196 : decode cX9_init 196 = .ok (.bipush 101, 2) := by decide +kernel
theorem dX9_init_198 : decode cX9_init 198 = .ok (.castore, 1) := by decide +kernel
theorem dX9_init_199 : decode cX9_init 199 = .ok (.dup, 1) := by decide +kernel
theorem dX9_init_200 : decode cX9_init 200 = .ok (.bipush 12, 2) := by decide +kernel
theorem dX9_init_202 : decode cX9_init 202 = .ok (.bipush 101, 2) := by decide +kernel
theorem dX9_init_204 : decode cX9_init 204 = .ok (.castore, 1) := by decide +kernel
theorem dX9_init_205 : decode cX9_init 205 = .ok (.dup, 1) := by decide +kernel
theorem dX9_init_206 : decode cX9_init 206 = .ok (.bipush 13, 2) := by decide +kernel
theorem dX9_init_208 : decode cX9_init 208 = .ok (.bipush 112, 2) := by decide +kernel
theorem dX9_init_210 : decode cX9_init 210 = .ok (.castore, 1) := by decide +kernel
theorem dX9_init_211 : decode cX9_init 211 = .ok (.dup, 1) := by decide +kernel
theorem dX9_init_212 : decode cX9_init 212 = .ok (.bipush 14, 2) := by decide +kernel
theorem dX9_init_214 : decode cX9_init 214 = .ok (.iconst 0, 1) := by decide +kernel
theorem dX9_init_215 : decode cX9_init 215 = .ok (.castore, 1) := by decide +kernel
theorem dX9_init_216 : decode cX9_init 216 = .ok (.putfield 43, 3) := by decide +kernel
theorem dX9_init_219 : decode cX9_init 219 = .ok (.aload_n 0, 1) := by decide +kernel
theorem dX9_init_220 : decode cX9_init 220 = .ok (.bipush 6, 2) := by decide +kernel
theorem dX9_init_222 : decode cX9_init 222 = .ok (.newarray .int, 2) := by decide +kernel
theorem dX9_init_224 : decode cX9_init 224 = .ok (.putfield 46, 3) := by decide +kernel
theorem dX9_init_227 : decode cX9_init 227 = .ok (.aload_n 0, 1) := by decide +kernel
theorem dX9_init_228 : decode cX9_init 228 = .ok (.sipush 256, 3) := by decide +kernel
theorem dX9_init_231 : decode cX9_init 231 = .ok (.newarray .boolean, 2) := by decide +kernel
theorem dX9_init_233 : decode cX9_init 233 = .ok (.putfield 49, 3) := by decide +kernel
theorem dX9_init_236 : decode cX9_init 236 = .ok (.aload_n 0, 1) := by decide +kernel
theorem dX9_init_237 : decode cX9_init 237 = .ok (.iconst 3, 1) := by decide +kernel
theorem dX9_init_238 : decode cX9_init 238 = .ok (.newarray .int, 2) := by decide +kernel
theorem dX9_init_240 : decode cX9_init 240 = .ok (.putfield 53, 3) := by decide +kernel
theorem dX9_init_243 : decode cX9_init 243 = .ok (.aload_n 0, 1) := by decide +kernel
theorem dX9_init_244 : decode cX9_init 244 = .ok (.bipush 6, 2) := by decide +kernel
theorem dX9_init_246 : decode cX9_init 246 = .ok (.newarray .int, 2) := by decide +kernel
theorem dX9_init_248 : decode cX9_init 248 = .ok (.putfield 56, 3) := by decide +kernel
theorem dX9_init_251 : decode cX9_init 251 = .ok (.aload_n 0, 1) := by decide +kernel
theorem dX9_init_252 : decode cX9_init 252 = .ok (.bipush 7, 2) := by decide +kernel
theorem dX9_init_254 : decode cX9_init 254 = .ok (.newarray .int, 2) := by decide +kernel
theorem dX9_init_256 : decode cX9_init 256 = .ok (.dup, 1) := by decide +kernel
theorem dX9_init_257 : decode cX9_init 257 = .ok (.iconst 0, 1) := by decide +kernel
theorem dX9_init_258 : decode cX9_init 258 = .ok (.iconst (-1), 1) := by decide +kernel
theorem dX9_init_259 : decode cX9_init 259 = .ok (.iastore, 1) := by decide +kernel
theorem dX9_init_260 : decode cX9_init 260 = .ok (.dup, 1) := by decide +kernel
theorem dX9_init_261 : decode cX9_init 261 = .ok (.iconst 1, 1) := by decide +kernel
theorem dX9_init_262 : decode cX9_init 262 = .ok (.iconst 0, 1) := by decide +kernel
theorem dX9_init_263 : decode cX9_init 263 = .ok (.iastore, 1) := by decide +kernel
theorem dX9_init_264 : decode cX9_init 264 = .ok (.dup, 1) := by decide +kernel
theorem dX9_init_265 : decode cX9_init 265 = .ok (.iconst 2, 1) := by decide +kernel
theorem dX9_init_266 : decode cX9_init 266 = .ok (.iconst 0, 1) := by decide +kernel
theorem dX9_init_267 : decode cX9_init 267 = .ok (.iastore, 1) := by decide +kernel
theorem dX9_init_268 : decode cX9_init 268 = .ok (.dup, 1) := by decide +kernel
theorem dX9_init_269 : decode cX9_init 269 = .ok (.iconst 3, 1) := by decide +kernel
theorem dX9_init_270 : decode cX9_init 270 = .ok (.iconst 0, 1) := by decide +kernel
theorem dX9_init_271 : decode cX9_init 271 = .ok (.iastore, 1) := by decide +kernel
theorem dX9_init_272 : decode cX9_init 272 = .ok (.dup, 1) := by decide +kernel
theorem dX9_init_273 : decode cX9_init 273 = .ok (.iconst 4, 1) := by decide +kernel
theorem dX9_init_274 : decode cX9_init 274 = .ok (.iconst 1, 1) := by decide +kernel
theorem dX9_init_275 : decode cX9_init 275 = .ok (.iastore, 1) := by decide +kernel
theorem dX9_init_276 : decode cX9_init 276 = .ok (.dup, 1) := by decide +kernel
theorem dX9_init_277 : decode cX9_init 277 = .ok (.iconst 5, 1) := by decide +kernel
theorem dX9_init_278 : decode cX9_init 278 = .ok (.iconst 2, 1) := by decide +kernel
theorem dX9_init_279 : decode cX9_init 279 = .ok (.iastore, 1) := by decide +kernel
theorem dX9_init_280 : decode cX9_init 280 = .ok (.dup, 1) := by decide +kernel
theorem dX9_init_281 : decode cX9_init 281 = .ok (.bipush 6, 2) := by decide +kernel
theorem dX9_init_283 : decode cX9_init 283 = .ok (.iconst 3, 1) := by decide +kernel
theorem dX9_init_284 : decode cX9_init 284 = .ok (.iastore, 1) := by decide +kernel
theorem dX9_init_285 : decode cX9_init 285 = .ok (.putfield 59, 3) := by decide +kernel
theorem dX9_init_288 : decode cX9_init 288 = .ok (.aload_n 0, 1) := by decide +kernel
theorem dX9_init_289 : decode cX9_init 289 = .ok (.bipush 21, 2) := by decide +kernel
theorem dX9_init_291 : decode cX9_init 291 = .ok (.newarray .int, 2) := by decide +kernel
theorem dX9_init_293 : decode cX9_init 293 = .ok (.dup, 1) := by decide +kernel
theorem dX9_init_294 : decode cX9_init 294 = .ok (.iconst 0, 1) := by decide +kernel
theorem dX9_init_295 : decode cX9_init 295 = .ok (.bipush 10, 2) := by decide +kernel
theorem dX9_init_297 : decode cX9_init 297 = .ok (.iastore, 1) := by decide +kernel
theorem dX9_init_298 : decode cX9_init 298 = .ok (.dup, 1) := by decide +kernel
theorem dX9_init_299 : decode cX9_init 299 = .ok (.iconst 1, 1) := by decide +kernel
theorem dX9_init_300 : decode cX9_init 300 = .ok (.bipush 11, 2) := by decide +kernel
theorem dX9_init_302 : decode cX9_init 302 = .ok (.iastore, 1) := by decide +kernel
theorem dX9_init_303 : decode cX9_init 303 = .ok (.dup, 1) := by decide +kernel
theorem dX9_init_304 : decode cX9_init 304 = .ok (.iconst 2, 1) := by decide +kernel
theorem dX9_init_305 : decode cX9_init 305 = .ok (.bipush 12, 2) := by decide +kernel
theorem dX9_init_307 : decode cX9_init 307 = .ok (.iastore, 1) := by decide +kernel
theorem dX9_init_308 : decode cX9_init 308 = .ok (.dup, 1) := by decide +kernel
theorem dX9_init_309 : decode cX9_init 309 = .ok (.iconst 3, 1) := by decide +kernel
theorem dX9_init_310 : decode cX9_init 310 = .ok (.iconst 0, 1) := by decide +kernel
theorem dX9_init_311 : decode cX9_init 311 = .ok (.iastore, 1) := by decide +kernel
theorem dX9_init_312 : decode cX9_init 312 = .ok (.dup, 1) := by decide +kernel
theorem dX9_init_313 : decode cX9_init 313 = .ok (.iconst 4, 1) := by decide +kernel
theorem dX9_init_314 : decode cX9_init 314 = .ok (.bipush 20, 2) := by decide +kernel
theorem dX9_init_316 : decode cX9_init 316 = .ok (.iastore, 1) := by decide +kernel
theorem dX9_init_317 : decode cX9_init 317 = .ok (.dup, 1) := by decide +kernel
theorem dX9_init_318 : decode cX9_init 318 = .ok (.iconst 5, 1) := by decide +kernel
theorem dX9_init_319 : decode cX9_init 319 = .ok (.iconst 0, 1) := by decide +kernel
theorem dX9_init_320 : decode cX9_init 320 = .ok (.iastore, 1) := by decide +kernel
theorem dX9_init_321 : decode cX9_init 321 = .ok (.dup, 1) := by decide +kernel
theorem dX9_init_322 : decode cX9_init 322 = .ok (.bipush 6, 2) := by decide +kernel
theorem dX9_init_324 : decode cX9_init 324 = .ok (.bipush 30, 2) := by decide +kernel
theorem dX9_init_326 : decode cX9_init 326 = .ok (.iastore, 1) := by decide +kernel
theorem dX9_init_327 : decode cX9_init 327 = .ok (.dup, 1) := by decide +kernel
theorem dX9_init_328 : decode cX9_init 328 = .ok (.bipush 7, 2) := by decide +kernel
theorem dX9_init_330 : decode cX9_init 330 = .ok (.iconst 0, 1) := by decide +kernel
theorem dX9_init_331 : decode cX9_init 331 = .ok (.iastore, 1) := by decide +kernel
theorem dX9_init_332 : decode cX9_init 332 = .ok (.dup, 1) := by decide +kernel
theorem dX9_init_333 : decode cX9_init 333 = .ok (.bipush 8, 2) := by decide +kernel
theorem dX9_init_335 : decode cX9_init 335 = .ok (.iconst 0, 1) := by decide +kernel
theorem dX9_init_336 : decode cX9_init 336 = .ok (.iastore, 1) := by decide +kernel
theorem dX9_init_337 : decode cX9_init 337 = .ok (.dup, 1) := by decide +kernel
theorem dX9_init_338 : decode cX9_init 338 = .ok (.bipush 9, 2) := by decide +kernel
theorem dX9_init_340 : decode cX9_init 340 = .ok (.iconst 0, 1) := by decide +kernel
theorem dX9_init_341 : decode cX9_init 341 = .ok (.iastore, 1) := by decide +kernel
theorem dX9_init_342 : decode cX9_init 342 = .ok (.dup, 1) := by decide +kernel
theorem dX9_init_343 : decode cX9_init 343 = .ok (.bipush 10, 2) := by decide +kernel
theorem dX9_init_345 : decode cX9_init 345 = .ok (.iconst 0, 1) := by decide +kernel
theorem dX9_init_346 : decode cX9_init 346 = .ok (.iastore, 1) := by decide +kernel
theorem dX9_init_347 : decode cX9_init 347 = .ok (.dup, 1) := by decide +kernel
theorem dX9_init_348 : decode cX9_init 348 = .ok (.bipush 11, 2) := by decide +kernel
theorem dX9_init_350 : decode cX9_init 350 = .ok (.bipush 40, 2) := by decide +kernel
theorem dX9_init_352 : decode cX9_init 352 = .ok (.iastore, 1) := by decide +kernel
theorem dX9_init_353 : decode cX9_init 353 = .ok (.dup, 1) := by decide +kernel
theorem dX9_init_354 : decode cX9_init 354 = .ok (.bipush 12, 2) := by decide +kernel
theorem dX9_init_356 : decode cX9_init 356 = .ok (.bipush 50, 2) := by decide +kernel
theorem dX9_init_358 : decode cX9_init 358 = .ok (.iastore, 1) := by decide +kernel
theorem dX9_init_359 : decode cX9_init 359 = .ok (.dup, 1) := by decide +kernel
theorem dX9_init_360 : decode cX9_init 360 = .ok (.bipush 13, 2) := by decide +kernel
theorem dX9_init_362 : decode cX9_init 362 = .ok (.bipush 51, 2) := by decide +kernel
theorem dX9_init_364 : decode cX9_init 364 = .ok (.iastore, 1) := by decide +kernel
theorem dX9_init_365 : decode cX9_init 365 = .ok (.dup, 1) := by decide +kernel
theorem dX9_init_366 : decode cX9_init 366 = .ok (.bipush 14, 2) := by decide +kernel
theorem dX9_init_368 : decode cX9_init 368 = .ok (.iconst 0, 1) := by decide +kernel
theorem dX9_init_369 : decode cX9_init 369 = .ok (.iastore, 1) := by decide +kernel
theorem dX9_init_370 : decode cX9_init 370 = .ok (.dup, 1) := by decide +kernel
theorem dX9_init_371 : decode cX9_init 371 = .ok (.bipush 15, 2) := by decide +kernel
theorem dX9_init_373 : decode cX9_init 373 = .ok (.iconst 0, 1) := by decide +kernel
theorem dX9_init_374 : decode cX9_init 374 = .ok (.iastore, 1) := by decide +kernel
theorem dX9_init_375 : decode cX9_init 375 = .ok (.dup, 1) := by decide +kernel
theorem dX9_init_376 : decode cX9_init 376 = .ok (.bipush 16, 2) := by decide +kernel
theorem dX9_init_378 : decode cX9_init 378 = .ok (.iconst 0, 1) := by decide +kernel
theorem dX9_init_379 : decode cX9_init 379 = .ok (.iastore, 1) := by decide +kernel
theorem dX9_init_380 : decode cX9_init 380 = .ok (.dup, 1) := by decide +kernel
theorem dX9_init_381 : decode cX9_init 381 = .ok (.bipush 17, 2) := by decide +kernel
theorem dX9_init_383 : decode cX9_init 383 = .ok (.bipush 60, 2) := by decide +kernel
theorem dX9_init_385 : decode cX9_init 385 = .ok (.iastore, 1) := by decide +kernel
theorem dX9_init_386 : decode cX9_init 386 = .ok (.dup, 1) := by decide +kernel
theorem dX9_init_387 : decode cX9_init 387 = .ok (.bipush 18, 2) := by decide +kernel
theorem dX9_init_389 : decode cX9_init 389 = .ok (.bipush 71, 2) := by decide +kernel
theorem dX9_init_391 : decode cX9_init 391 = .ok (.iastore, 1) := by decide +kernel
theorem dX9_init_392 : decode cX9_init 392 = .ok (.dup, 1) := by decide +kernel
theorem dX9_init_393 : decode cX9_init 393 = .ok (.bipush 19, 2) := by decide +kernel
theorem dX9_init_395 : decode cX9_init 395 = .ok (.bipush 70, 2) := by decide +kernel
theorem dX9_init_397 : decode cX9_init 397 = .ok (.iastore, 1) := by decide +kernel
theorem dX9_init_398 : decode cX9_init 398 = .ok (.dup, 1) := by decide +kernel
theorem dX9_init_399 : decode cX9_init 399 = .ok (.bipush 20, 2) := by decide +kernel
theorem dX9_init_401 : decode cX9_init 401 = .ok (.iconst 0, 1) := by decide +kernel
theorem dX9_init_402 : decode cX9_init 402 = .ok (.iastore, 1) := by decide +kernel
theorem dX9_init_403 : decode cX9_init 403 = .ok (.putfield 62, 3) := by decide +kernel
theorem dX9_init_406 : decode cX9_init 406 = .ok (.aload_n 0, 1) := by decide +kernel
theorem dX9_init_407 : decode cX9_init 407 = .ok (.bipush 20, 2) := by decide +kernel
theorem dX9_init_409 : decode cX9_init 409 = .ok (.newarray .int, 2) := by decide +kernel
theorem dX9_init_411 : decode cX9_init 411 = .ok (.putfield 65, 3) := by decide +kernel
theorem dX9_init_414 : decode cX9_init 414 = .ok (.aload_n 0, 1) := by decide +kernel
theorem dX9_init_415 : decode cX9_init 415 = .ok (.bipush 6, 2) := by decide +kernel
theorem dX9_init_417 : decode cX9_init 417 = .ok (.newarray .int, 2) := by decide +kernel
theorem dX9_init_419 : decode cX9_init 419 = .ok (.dup, 1) := by decide +kernel
theorem dX9_init_420 : decode cX9_init 420 = .ok (.iconst 0, 1) := by decide +kernel
theorem dX9_init_421 : decode cX9_init 421 = .ok (.iconst (-1), 1) := by decide +kernel
theorem dX9_init_422 : decode cX9_init 422 = .ok (.iastore, 1) := by decide +kernel
theorem dX9_init_423 : decode cX9_init 423 = .ok (.dup, 1) := by decide +kernel
theorem dX9_init_424 : decode cX9_init 424 = .ok (.iconst 1, 1) := by decide +kernel
theorem dX9_init_425 : decode cX9_init 425 = .ok (.iconst (-1), 1) := by decide +kernel
theorem dX9_init_426 : decode cX9_init 426 = .ok (.iastore, 1) := by decide +kernel
theorem dX9_init_427 : decode cX9_init 427 = .ok (.dup, 1) := by decide +kernel
theorem dX9_init_428 : decode cX9_init 428 = .ok (.iconst 2, 1) := by decide +kernel
theorem dX9_init_429 : decode cX9_init 429 = .ok (.iconst (-1), 1) := by decide +kernel
theorem dX9_init_430 : decode cX9_init 430 = .ok (.iastore, 1) := by decide +kernel
theorem dX9_init_431 : decode cX9_init 431 = .ok (.dup, 1) := by decide +kernel
theorem dX9_init_432 : decode cX9_init 432 = .ok (.iconst 3, 1) := by decide +kernel
theorem dX9_init_433 : decode cX9_init 433 = .ok (.iconst (-1), 1) := by decide +kernel
theorem dX9_init_434 : decode cX9_init 434 = .ok (.iastore, 1) := by decide +kernel
theorem dX9_init_435 : decode cX9_init 435 = .ok (.dup, 1) := by decide +kernel
theorem dX9_init_436 : decode cX9_init 436 = .ok (.iconst 4, 1) := by decide +kernel
theorem dX9_init_437 : decode cX9_init 437 = .ok (.iconst (-1), 1) := by decide +kernel
theorem dX9_init_438 : decode cX9_init 438 = .ok (.iastore, 1) := by decide +kernel
theorem dX9_init_439 : decode cX9_init 439 = .ok (.dup, 1) := by decide +kernel
theorem dX9_init_440 : decode cX9_init 440 = .ok (.iconst 5, 1) := by decide +kernel
theorem dX9_init_441 : decode cX9_init 441 = .ok (.iconst (-1), 1) := by decide +kernel
theorem dX9_init_442 : decode cX9_init 442 = .ok (.iastore, 1) := by decide +kernel
theorem dX9_init_443 : decode cX9_init 443 = .ok (.putfield 68, 3) := by decide +kernel
theorem dX9_init_446 : decode cX9_init 446 = .ok (.aload_n 0, 1) := by decide +kernel
theorem dX9_init_447 : decode cX9_init 447 = .ok (.bipush 6, 2) := by decide +kernel
theorem dX9_init_449 : decode cX9_init 449 = .ok (.newarray .int, 2) := by decide +kernel
theorem dX9_init_451 : decode cX9_init 451 = .ok (.putfield 71, 3) := by decide +kernel
theorem dX9_init_454 : decode cX9_init 454 = .ok (.aload_n 0, 1) := by decide +kernel
theorem dX9_init_455 : decode cX9_init 455 = .ok (.sipush 360, 3) := by decide +kernel
theorem dX9_init_458 : decode cX9_init 458 = .ok (.newarray .long, 2) := by decide +kernel
theorem dX9_init_460 : decode cX9_init 460 = .ok (.putfield 74, 3) := by decide +kernel
theorem dX9_init_463 : decode cX9_init 463 = .ok (.aload_n 0, 1) := by decide +kernel
theorem dX9_init_464 : decode cX9_init 464 = .ok (.bipush 60, 2) := by decide +kernel
theorem dX9_init_466 : decode cX9_init 466 = .ok (.newarray .long, 2) := by decide +kernel
theorem dX9_init_468 : decode cX9_init 468 = .ok (.putfield 78, 3) := by decide +kernel
theorem dX9_init_471 : decode cX9_init 471 = .ok (.return_, 1) := by decide +kernel
theorem dX9_isIn_0 : decode cX9_isIn 0 = .ok (.iload_n 0, 1) := by decide +kernel
theorem dX9_isIn_1 : decode cX9_isIn 1 = .ok (.iload_n 1, 1) := by decide +kernel
theorem dX9_isIn_2 : decode cX9_isIn 2 = .ok (.if_icmp .lt 12, 3) := by decide +kernel
theorem dX9_isIn_5 : decode cX9_isIn 5 = .ok (.iload_n 0, 1) := by decide +kernel
theorem dX9_isIn_6 : decode cX9_isIn 6 = .ok (.iload_n 2, 1) := by decide +kernel
theorem dX9_isIn_7 : decode cX9_isIn 7 = .ok (.if_icmp .gt 7, 3) := by decide +kernel
theorem dX9_isIn_10 : decode cX9_isIn 10 = .ok (.iconst 1, 1) := by decide +kernel
theorem dX9_isIn_11 : decode cX9_isIn 11 = .ok (.goto 4, 3) := by decide +kernel
theorem dX9_isIn_14 : decode cX9_isIn 14 = .ok (.iconst 0, 1) := by decide +kernel
theorem dX9_isIn_15 : decode cX9_isIn 15 = .ok (.ireturn, 1) := by decide +kernel
theorem dX9_move_0 : decode cX9_move 0 = .ok (.iconst 0, 1) := by decide +kernel
theorem dX9_move_1 : decode cX9_move 1 = .ok (.istore_n 2, 1) := by decide +kernel
theorem dX9_move_2 : decode cX9_move 2 = .ok (.iload_n 2, 1) := by decide +kernel
theorem dX9_move_3 : decode cX9_move 3 = .ok (.bipush 115, 2) := by decide +kernel
theorem dX9_move_5 : decode cX9_move 5 = .ok (.if_icmp .ge 15, 3) := by decide +kernel
theorem dX9_move_8 : decode cX9_move 8 = .ok (.aload_n 1, 1) := by decide +kernel
theorem dX9_move_9 : decode cX9_move 9 = .ok (.iload_n 2, 1) := by decide +kernel
theorem dX9_move_10 : decode cX9_move 10 = .ok (.aload_n 0, 1) := by decide +kernel
theorem dX9_move_11 : decode cX9_move 11 = .ok (.iload_n 2, 1) := by decide +kernel
theorem dX9_move_12 : decode cX9_move 12 = .ok (.iaload, 1) := by decide +kernel
theorem dX9_move_13 : decode cX9_move 13 = .ok (.iastore, 1) := by decide +kernel
theorem dX9_move_14 : decode cX9_move 14 = .ok (.iinc 2 1, 3) := by decide +kernel
theorem dX9_move_17 : decode cX9_move 17 = .ok (.goto (-15), 3) := by decide +kernel
theorem dX9_move_20 : decode cX9_move 20 = .ok (.return_, 1) := by decide +kernel
theorem dX9_image_0 : decode cX9_image 0 = .ok (.aload_n 0, 1) := by decide +kernel
theorem dX9_image_1 : decode cX9_image 1 = .ok (.iconst 1, 1) := by decide +kernel
theorem dX9_image_2 : decode cX9_image 2 = .ok (.putfield 81, 3) := by decide +kernel
theorem dX9_image_5 : decode cX9_image 5 = .ok (.aload_n 0, 1) := by decide +kernel
theorem dX9_image_6 : decode cX9_image 6 = .ok (.getfield 9, 3) := by decide +kernel
theorem dX9_image_9 : decode cX9_image 9 = .ok (.aload_n 0, 1) := by decide +kernel
theorem dX9_image_10 : decode cX9_image 10 = .ok (.getfield 18, 3) := by decide +kernel
theorem dX9_image_13 : decode cX9_image 13 = .ok (.invokestatic 85, 3) := by decide +kernel
theorem dX9_image_16 : decode cX9_image 16 = .ok (.aload_n 0, 1) := by decide +kernel
theorem dX9_image_17 : decode cX9_image 17 = .ok (.getfield 9, 3) := by decide +kernel
theorem dX9_image_20 : decode cX9_image 20 = .ok (.bipush 54, 2) := by decide +kernel
theorem dX9_image_22 : decode cX9_image 22 = .ok (.iaload, 1) := by decide +kernel
theorem dX9_image_23 : decode cX9_image 23 = .ok (.ireturn, 1) := by decide +kernel
theorem dX9_undo_0 : decode cX9_undo 0 = .ok (.aload_n 0, 1) := by decide +kernel
theorem dX9_undo_1 : decode cX9_undo 1 = .ok (.getfield 81, 3) := by decide +kernel
theorem dX9_undo_4 : decode cX9_undo 4 = .ok (.ifCond .ne 6, 3) := by decide +kernel
theorem dX9_undo_7 : decode cX9_undo 7 = .ok (.bipush (-3), 2) := by decide +kernel
theorem dX9_undo_9 : decode cX9_undo 9 = .ok (.ireturn, 1) := by decide +kernel
theorem dX9_undo_10 : decode cX9_undo 10 = .ok (.aload_n 0, 1) := by decide +kernel
theorem dX9_undo_11 : decode cX9_undo 11 = .ok (.getfield 18, 3) := by decide +kernel
theorem dX9_undo_14 : decode cX9_undo 14 = .ok (.aload_n 0, 1) := by decide +kernel
theorem dX9_undo_15 : decode cX9_undo 15 = .ok (.getfield 9, 3) := by decide +kernel
theorem dX9_undo_18 : decode cX9_undo 18 = .ok (.invokestatic 85, 3) := by decide +kernel
theorem dX9_undo_21 : decode cX9_undo 21 = .ok (.aload_n 0, 1) := by decide +kernel
theorem dX9_undo_22 : decode cX9_undo 22 = .ok (.getfield 9, 3) := by decide +kernel
theorem dX9_undo_25 : decode cX9_undo 25 = .ok (.bipush 54, 2) := by decide +kernel
theorem dX9_undo_27 : decode cX9_undo 27 = .ok (.iaload, 1) := by decide +kernel
theorem dX9_undo_28 : decode cX9_undo 28 = .ok (.ireturn, 1) := by decide +kernel
theorem dX9_isPot_0 : decode cX9_isPot 0 = .ok (.iload_n 1, 1) := by decide +kernel
theorem dX9_isPot_1 : decode cX9_isPot 1 = .ok (.iconst 0, 1) := by decide +kernel
theorem dX9_isPot_2 : decode cX9_isPot 2 = .ok (.aload_n 0, 1) := by decide +kernel
theorem dX9_isPot_3 : decode cX9_isPot 3 = .ok (.getfield 9, 3) := by decide +kernel
theorem dX9_isPot_6 : decode cX9_isPot 6 = .ok (.bipush 54, 2) := by decide +kernel
theorem dX9_isPot_8 : decode cX9_isPot 8 = .ok (.iaload, 1) := by decide +kernel
theorem dX9_isPot_9 : decode cX9_isPot 9 = .ok (.iconst 1, 1) := by decide +kernel
theorem dX9_isPot_10 : decode cX9_isPot 10 = .ok (.isub, 1) := by decide +kernel
theorem dX9_isPot_11 : decode cX9_isPot 11 = .ok (.invokestatic 89, 3) := by decide +kernel
theorem dX9_isPot_14 : decode cX9_isPot 14 = .ok (.ireturn, 1) := by decide +kernel
theorem dX9_isFact_0 : decode cX9_isFact 0 = .ok (.iload_n 0, 1) := by decide +kernel
theorem dX9_isFact_1 : decode cX9_isFact 1 = .ok (.iconst 0, 1) := by decide +kernel
theorem dX9_isFact_2 : decode cX9_isFact 2 = .ok (.bipush 7, 2) := by decide +kernel
theorem dX9_isFact_4 : decode cX9_isFact 4 = .ok (.invokestatic 89, 3) := by decide +kernel
theorem dX9_isFact_7 : decode cX9_isFact 7 = .ok (.ireturn, 1) := by decide +kernel
theorem dX9_one_0 : decode cX9_one 0 = .ok (.aload_n 0, 1) := by decide +kernel
theorem dX9_one_1 : decode cX9_one 1 = .ok (.getfield 9, 3) := by decide +kernel
theorem dX9_one_4 : decode cX9_one 4 = .ok (.bipush 9, 2) := by decide +kernel
theorem dX9_one_6 : decode cX9_one 6 = .ok (.iload_n 1, 1) := by decide +kernel
theorem dX9_one_7 : decode cX9_one 7 = .ok (.imul, 1) := by decide +kernel
theorem dX9_one_8 : decode cX9_one 8 = .ok (.iload_n 2, 1) := by decide +kernel
theorem dX9_one_9 : decode cX9_one 9 = .ok (.iadd, 1) := by decide +kernel
theorem dX9_one_10 : decode cX9_one 10 = .ok (.iaload, 1) := by decide +kernel
theorem dX9_one_11 : decode cX9_one 11 = .ok (.ireturn, 1) := by decide +kernel
theorem dX9_change_0 : decode cX9_change 0 = .ok (.aload_n 0, 1) := by decide +kernel
theorem dX9_change_1 : decode cX9_change 1 = .ok (.iload_n 1, 1) := by decide +kernel
theorem dX9_change_2 : decode cX9_change 2 = .ok (.iload_n 2, 1) := by decide +kernel
theorem dX9_change_3 : decode cX9_change 3 = .ok (.invokevirtual 93, 3) := by decide +kernel
theorem dX9_change_6 : decode cX9_change 6 = .ok (.istore 4, 2) := by decide +kernel
theorem dX9_change_8 : decode cX9_change 8 = .ok (.aload_n 0, 1) := by decide +kernel
theorem dX9_change_9 : decode cX9_change 9 = .ok (.getfield 9, 3) := by decide +kernel
theorem dX9_change_12 : decode cX9_change 12 = .ok (.bipush 9, 2) := by decide +kernel
theorem dX9_change_14 : decode cX9_change 14 = .ok (.iload_n 1, 1) := by decide +kernel
theorem dX9_change_15 : decode cX9_change 15 = .ok (.imul, 1) := by decide +kernel
theorem dX9_change_16 : decode cX9_change 16 = .ok (.iload_n 2, 1) := by decide +kernel
theorem dX9_change_17 : decode cX9_change 17 = .ok (.iadd, 1) := by decide +kernel
theorem dX9_change_18 : decode cX9_change 18 = .ok (.iload_n 3, 1) := by decide +kernel
theorem dX9_change_19 : decode cX9_change 19 = .ok (.iastore, 1) := by decide +kernel
theorem dX9_change_20 : decode cX9_change 20 = .ok (.iload 4, 2) := by decide +kernel
theorem dX9_change_22 : decode cX9_change 22 = .ok (.ireturn, 1) := by decide +kernel
theorem dX9_many_0 : decode cX9_many 0 = .ok (.iconst 0, 1) := by decide +kernel
theorem dX9_many_1 : decode cX9_many 1 = .ok (.istore_n 1, 1) := by decide +kernel
theorem dX9_many_2 : decode cX9_many 2 = .ok (.iconst 0, 1) := by decide +kernel
theorem dX9_many_3 : decode cX9_many 3 = .ok (.istore_n 2, 1) := by decide +kernel
theorem dX9_many_4 : decode cX9_many 4 = .ok (.iload_n 2, 1) := by decide +kernel
theorem dX9_many_5 : decode cX9_many 5 = .ok (.bipush 8, 2) := by decide +kernel
theorem dX9_many_7 : decode cX9_many 7 = .ok (.if_icmp .ge 17, 3) := by decide +kernel
theorem dX9_many_10 : decode cX9_many 10 = .ok (.iload_n 1, 1) := by decide +kernel
theorem dX9_many_11 : decode cX9_many 11 = .ok (.iload_n 0, 1) := by decide +kernel
theorem dX9_many_12 : decode cX9_many 12 = .ok (.iload_n 2, 1) := by decide +kernel
theorem dX9_many_13 : decode cX9_many 13 = .ok (.ishr, 1) := by decide +kernel
theorem dX9_many_14 : decode cX9_many 14 = .ok (.iconst 1, 1) := by decide +kernel
theorem dX9_many_15 : decode cX9_many 15 = .ok (.iand, 1) := by decide +kernel
theorem dX9_many_16 : decode cX9_many 16 = .ok (.iadd, 1) := by decide +kernel
theorem dX9_many_17 : decode cX9_many 17 = .ok (.istore_n 1, 1) := by decide +kernel
theorem dX9_many_18 : decode cX9_many 18 = .ok (.iinc 2 1, 3) := by decide +kernel
theorem dX9_many_21 : decode cX9_many 21 = .ok (.goto (-17), 3) := by decide +kernel
theorem dX9_many_24 : decode cX9_many 24 = .ok (.iload_n 1, 1) := by decide +kernel
theorem dX9_many_25 : decode cX9_many 25 = .ok (.ireturn, 1) := by decide +kernel
theorem dX9_pot_0 : decode cX9_pot 0 = .ok (.iload_n 1, 1) := by decide +kernel
theorem dX9_pot_1 : decode cX9_pot 1 = .ok (.iconst 0, 1) := by decide +kernel
theorem dX9_pot_2 : decode cX9_pot 2 = .ok (.bipush 6, 2) := by decide +kernel
theorem dX9_pot_4 : decode cX9_pot 4 = .ok (.invokestatic 89, 3) := by decide +kernel
theorem dX9_pot_7 : decode cX9_pot 7 = .ok (.ifCond .ne 5, 3) := by decide +kernel
theorem dX9_pot_10 : decode cX9_pot 10 = .ok (.iconst (-1), 1) := by decide +kernel
theorem dX9_pot_11 : decode cX9_pot 11 = .ok (.ireturn, 1) := by decide +kernel
theorem dX9_pot_12 : decode cX9_pot 12 = .ok (.iload_n 2, 1) := by decide +kernel
theorem dX9_pot_13 : decode cX9_pot 13 = .ok (.iconst 0, 1) := by decide +kernel
theorem dX9_pot_14 : decode cX9_pot 14 = .ok (.bipush 9, 2) := by decide +kernel
theorem dX9_pot_16 : decode cX9_pot 16 = .ok (.invokestatic 89, 3) := by decide +kernel
theorem dX9_pot_19 : decode cX9_pot 19 = .ok (.ifCond .eq 13, 3) := by decide +kernel
theorem dX9_pot_22 : decode cX9_pot 22 = .ok (.iload_n 3, 1) := by decide +kernel
theorem dX9_pot_23 : decode cX9_pot 23 = .ok (.iconst 0, 1) := by decide +kernel
theorem dX9_pot_24 : decode cX9_pot 24 = .ok (.bipush 9, 2) := by decide +kernel
theorem dX9_pot_26 : decode cX9_pot 26 = .ok (.invokestatic 89, 3) := by decide +kernel
theorem dX9_pot_29 : decode cX9_pot 29 = .ok (.ifCond .ne 6, 3) := by decide +kernel
theorem dX9_pot_32 : decode cX9_pot 32 = .ok (.bipush (-2), 2) := by decide +kernel
theorem dX9_pot_34 : decode cX9_pot 34 = .ok (.ireturn, 1) := by decide +kernel
theorem dX9_pot_35 : decode cX9_pot 35 = .ok (.aload_n 0, 1) := by decide +kernel
theorem dX9_pot_36 : decode cX9_pot 36 = .ok (.getfield 9, 3) := by decide +kernel
theorem dX9_pot_39 : decode cX9_pot 39 = .ok (.bipush 54, 2) := by decide +kernel
theorem dX9_pot_41 : decode cX9_pot 41 = .ok (.iaload, 1) := by decide +kernel
theorem dX9_pot_42 : decode cX9_pot 42 = .ok (.istore 4, 2) := by decide +kernel
theorem dX9_pot_44 : decode cX9_pot 44 = .ok (.iload 4, 2) := by decide +kernel
theorem dX9_pot_46 : decode cX9_pot 46 = .ok (.bipush 6, 2) := by decide +kernel
theorem dX9_pot_48 : decode cX9_pot 48 = .ok (.if_icmp .ne 6, 3) := by decide +kernel
theorem dX9_pot_51 : decode cX9_pot 51 = .ok (.bipush (-4), 2) := by decide +kernel
theorem dX9_pot_53 : decode cX9_pot 53 = .ok (.ireturn, 1) := by decide +kernel
theorem dX9_pot_54 : decode cX9_pot 54 = .ok (.iconst 0, 1) := by decide +kernel
theorem dX9_pot_55 : decode cX9_pot 55 = .ok (.istore 5, 2) := by decide +kernel
theorem dX9_pot_57 : decode cX9_pot 57 = .ok (.iload 5, 2) := by decide +kernel
theorem dX9_pot_59 : decode cX9_pot 59 = .ok (.bipush 9, 2) := by decide +kernel
theorem dX9_pot_61 : decode cX9_pot 61 = .ok (.if_icmp .ge 19, 3) := by decide +kernel
theorem dX9_pot_64 : decode cX9_pot 64 = .ok (.aload_n 0, 1) := by decide +kernel
theorem dX9_pot_65 : decode cX9_pot 65 = .ok (.iload 4, 2) := by decide +kernel
theorem dX9_pot_67 : decode cX9_pot 67 = .ok (.iload 5, 2) := by decide +kernel
theorem dX9_pot_69 : decode cX9_pot 69 = .ok (.iconst 0, 1) := by decide +kernel
theorem dX9_pot_70 : decode cX9_pot 70 = .ok (.invokevirtual 97, 3) := by decide +kernel
theorem dX9_pot_73 : decode cX9_pot 73 = .ok (.pop, 1) := by decide +kernel
theorem dX9_pot_74 : decode cX9_pot 74 = .ok (.iinc 5 1, 3) := by decide +kernel
theorem dX9_pot_77 : decode cX9_pot 77 = .ok (.goto (-20), 3) := by decide +kernel
theorem dX9_pot_80 : decode cX9_pot 80 = .ok (.aload_n 0, 1) := by decide +kernel
theorem dX9_pot_81 : decode cX9_pot 81 = .ok (.iload 4, 2) := by decide +kernel
theorem dX9_pot_83 : decode cX9_pot 83 = .ok (.iconst 0, 1) := by decide +kernel
theorem dX9_pot_84 : decode cX9_pot 84 = .ok (.iload_n 1, 1) := by decide +kernel
theorem dX9_pot_85 : decode cX9_pot 85 = .ok (.invokevirtual 97, 3) := by decide +kernel
theorem dX9_pot_88 : decode cX9_pot 88 = .ok (.pop, 1) := by decide +kernel
theorem dX9_pot_89 : decode cX9_pot 89 = .ok (.aload_n 0, 1) := by decide +kernel
theorem dX9_pot_90 : decode cX9_pot 90 = .ok (.iload 4, 2) := by decide +kernel
theorem dX9_pot_92 : decode cX9_pot 92 = .ok (.iconst 1, 1) := by decide +kernel
theorem dX9_pot_93 : decode cX9_pot 93 = .ok (.iload_n 2, 1) := by decide +kernel
theorem dX9_pot_94 : decode cX9_pot 94 = .ok (.invokevirtual 97, 3) := by decide +kernel
theorem dX9_pot_97 : decode cX9_pot 97 = .ok (.pop, 1) := by decide +kernel
theorem dX9_pot_98 : decode cX9_pot 98 = .ok (.aload_n 0, 1) := by decide +kernel
theorem dX9_pot_99 : decode cX9_pot 99 = .ok (.iload 4, 2) := by decide +kernel
theorem dX9_pot_101 : decode cX9_pot 101 = .ok (.iconst 2, 1) := by decide +kernel
theorem dX9_pot_102 : decode cX9_pot 102 = .ok (.iload_n 3, 1) := by decide +kernel
theorem dX9_pot_103 : decode cX9_pot 103 = .ok (.invokevirtual 97, 3) := by decide +kernel
theorem dX9_pot_106 : decode cX9_pot 106 = .ok (.pop, 1) := by decide +kernel
theorem dX9_pot_107 : decode cX9_pot 107 = .ok (.aload_n 0, 1) := by decide +kernel
theorem dX9_pot_108 : decode cX9_pot 108 = .ok (.getfield 9, 3) := by decide +kernel
theorem dX9_pot_111 : decode cX9_pot 111 = .ok (.bipush 54, 2) := by decide +kernel
theorem dX9_pot_113 : decode cX9_pot 113 = .ok (.dup2, 1) := by decide +kernel
theorem dX9_pot_114 : decode cX9_pot 114 = .ok (.iaload, 1) := by decide +kernel
theorem dX9_pot_115 : decode cX9_pot 115 = .ok (.iconst 1, 1) := by decide +kernel
theorem dX9_pot_116 : decode cX9_pot 116 = .ok (.iadd, 1) := by decide +kernel
theorem dX9_pot_117 : decode cX9_pot 117 = .ok (.iastore, 1) := by decide +kernel
theorem dX9_pot_118 : decode cX9_pot 118 = .ok (.iload 4, 2) := by decide +kernel
theorem dX9_pot_120 : decode cX9_pot 120 = .ok (.ireturn, 1) := by decide +kernel
theorem dX9_of_0 : decode cX9_of 0 = .ok (.aload_n 0, 1) := by decide +kernel
theorem dX9_of_1 : decode cX9_of 1 = .ok (.iload_n 1, 1) := by decide +kernel
theorem dX9_of_2 : decode cX9_of 2 = .ok (.invokevirtual 101, 3) := by decide +kernel
theorem dX9_of_5 : decode cX9_of 5 = .ok (.ifCond .ne 7, 3) := by decide +kernel
theorem dX9_of_8 : decode cX9_of 8 = .ok (.sipush (-10001), 3) := by decide +kernel
theorem dX9_of_11 : decode cX9_of 11 = .ok (.ireturn, 1) := by decide +kernel
theorem dX9_of_12 : decode cX9_of 12 = .ok (.iload_n 2, 1) := by decide +kernel
theorem dX9_of_13 : decode cX9_of 13 = .ok (.iconst 0, 1) := by decide +kernel
theorem dX9_of_14 : decode cX9_of 14 = .ok (.iconst 4, 1) := by decide +kernel
theorem dX9_of_15 : decode cX9_of 15 = .ok (.invokestatic 89, 3) := by decide +kernel
theorem dX9_of_18 : decode cX9_of 18 = .ok (.ifCond .eq 10, 3) := by decide +kernel
theorem dX9_of_21 : decode cX9_of 21 = .ok (.aload_n 0, 1) := by decide +kernel
theorem dX9_of_22 : decode cX9_of 22 = .ok (.iload_n 1, 1) := by decide +kernel
theorem dX9_of_23 : decode cX9_of 23 = .ok (.iload_n 2, 1) := by decide +kernel
theorem dX9_of_24 : decode cX9_of 24 = .ok (.invokevirtual 93, 3) := by decide +kernel
theorem dX9_of_27 : decode cX9_of 27 = .ok (.ireturn, 1) := by decide +kernel
theorem dX9_of_28 : decode cX9_of 28 = .ok (.iload_n 2, 1) := by decide +kernel
theorem dX9_of_29 : decode cX9_of 29 = .ok (.iconst 5, 1) := by decide +kernel
theorem dX9_of_30 : decode cX9_of 30 = .ok (.if_icmp .ne 10, 3) := by decide +kernel
theorem dX9_of_33 : decode cX9_of 33 = .ok (.aload_n 0, 1) := by decide +kernel
theorem dX9_of_34 : decode cX9_of 34 = .ok (.iload_n 1, 1) := by decide +kernel
theorem dX9_of_35 : decode cX9_of 35 = .ok (.iconst 2, 1) := by decide +kernel
theorem dX9_of_36 : decode cX9_of 36 = .ok (.invokevirtual 105, 3) := by decide +kernel
theorem dX9_of_39 : decode cX9_of 39 = .ok (.ireturn, 1) := by decide +kernel
theorem dX9_of_40 : decode cX9_of 40 = .ok (.iload_n 2, 1) := by decide +kernel
theorem dX9_of_41 : decode cX9_of 41 = .ok (.bipush 10, 2) := by decide +kernel
theorem dX9_of_43 : decode cX9_of 43 = .ok (.isub, 1) := by decide +kernel
theorem dX9_of_44 : decode cX9_of 44 = .ok (.invokestatic 108, 3) := by decide +kernel
theorem dX9_of_47 : decode cX9_of 47 = .ok (.ifCond .eq 15, 3) := by decide +kernel
theorem dX9_of_50 : decode cX9_of 50 = .ok (.aload_n 0, 1) := by decide +kernel
theorem dX9_of_51 : decode cX9_of 51 = .ok (.iload_n 1, 1) := by decide +kernel
theorem dX9_of_52 : decode cX9_of 52 = .ok (.iload_n 2, 1) := by decide +kernel
theorem dX9_of_53 : decode cX9_of 53 = .ok (.bipush 10, 2) := by decide +kernel
theorem dX9_of_55 : decode cX9_of 55 = .ok (.isub, 1) := by decide +kernel
theorem dX9_of_56 : decode cX9_of 56 = .ok (.invokevirtual 111, 3) := by decide +kernel
theorem dX9_of_59 : decode cX9_of 59 = .ok (.goto 57, 3) := by decide +kernel
theorem dX9_of_62 : decode cX9_of 62 = .ok (.iload_n 2, 1) := by decide +kernel
theorem dX9_of_63 : decode cX9_of 63 = .ok (.bipush 20, 2) := by decide +kernel
theorem dX9_of_65 : decode cX9_of 65 = .ok (.isub, 1) := by decide +kernel
theorem dX9_of_66 : decode cX9_of 66 = .ok (.invokestatic 108, 3) := by decide +kernel
theorem dX9_of_69 : decode cX9_of 69 = .ok (.ifCond .eq 22, 3) := by decide +kernel
theorem dX9_of_72 : decode cX9_of 72 = .ok (.aload_n 0, 1) := by decide +kernel
theorem dX9_of_73 : decode cX9_of 73 = .ok (.iload_n 1, 1) := by decide +kernel
theorem dX9_of_74 : decode cX9_of 74 = .ok (.iload_n 2, 1) := by decide +kernel
theorem dX9_of_75 : decode cX9_of 75 = .ok (.bipush 20, 2) := by decide +kernel
theorem dX9_of_77 : decode cX9_of 77 = .ok (.isub, 1) := by decide +kernel
theorem dX9_of_78 : decode cX9_of 78 = .ok (.aload_n 0, 1) := by decide +kernel
theorem dX9_of_79 : decode cX9_of 79 = .ok (.getfield 9, 3) := by decide +kernel
theorem dX9_of_82 : decode cX9_of 82 = .ok (.bipush 55, 2) := by decide +kernel
theorem dX9_of_84 : decode cX9_of 84 = .ok (.iaload, 1) := by decide +kernel
theorem dX9_of_85 : decode cX9_of 85 = .ok (.invokevirtual 114, 3) := by decide +kernel
theorem dX9_of_88 : decode cX9_of 88 = .ok (.goto 28, 3) := by decide +kernel
theorem dX9_of_91 : decode cX9_of 91 = .ok (.iload_n 2, 1) := by decide +kernel
theorem dX9_of_92 : decode cX9_of 92 = .ok (.bipush 30, 2) := by decide +kernel
theorem dX9_of_94 : decode cX9_of 94 = .ok (.isub, 1) := by decide +kernel
theorem dX9_of_95 : decode cX9_of 95 = .ok (.invokestatic 108, 3) := by decide +kernel
theorem dX9_of_98 : decode cX9_of 98 = .ok (.ifCond .eq 15, 3) := by decide +kernel
theorem dX9_of_101 : decode cX9_of 101 = .ok (.aload_n 0, 1) := by decide +kernel
theorem dX9_of_102 : decode cX9_of 102 = .ok (.iload_n 1, 1) := by decide +kernel
theorem dX9_of_103 : decode cX9_of 103 = .ok (.iload_n 2, 1) := by decide +kernel
theorem dX9_of_104 : decode cX9_of 104 = .ok (.bipush 30, 2) := by decide +kernel
theorem dX9_of_106 : decode cX9_of 106 = .ok (.isub, 1) := by decide +kernel
theorem dX9_of_107 : decode cX9_of 107 = .ok (.invokevirtual 117, 3) := by decide +kernel
theorem dX9_of_110 : decode cX9_of 110 = .ok (.goto 6, 3) := by decide +kernel
theorem dX9_of_113 : decode cX9_of 113 = .ok (.sipush (-10001), 3) := by decide +kernel
theorem dX9_of_116 : decode cX9_of 116 = .ok (.ireturn, 1) := by decide +kernel
theorem dX9_world_0 : decode cX9_world 0 = .ok (.iload_n 1, 1) := by decide +kernel
theorem dX9_world_1 : decode cX9_world 1 = .ok (.iconst 0, 1) := by decide +kernel
theorem dX9_world_2 : decode cX9_world 2 = .ok (.sipush 255, 3) := by decide +kernel
theorem dX9_world_5 : decode cX9_world 5 = .ok (.invokestatic 89, 3) := by decide +kernel
theorem dX9_world_8 : decode cX9_world 8 = .ok (.ifCond .ne 6, 3) := by decide +kernel
theorem dX9_world_11 : decode cX9_world 11 = .ok (.bipush (-2), 2) := by decide +kernel
theorem dX9_world_13 : decode cX9_world 13 = .ok (.ireturn, 1) := by decide +kernel
theorem dX9_world_14 : decode cX9_world 14 = .ok (.aload_n 0, 1) := by decide +kernel
theorem dX9_world_15 : decode cX9_world 15 = .ok (.getfield 9, 3) := by decide +kernel
theorem dX9_world_18 : decode cX9_world 18 = .ok (.bipush 55, 2) := by decide +kernel
theorem dX9_world_20 : decode cX9_world 20 = .ok (.iaload, 1) := by decide +kernel
theorem dX9_world_21 : decode cX9_world 21 = .ok (.istore_n 2, 1) := by decide +kernel
theorem dX9_world_22 : decode cX9_world 22 = .ok (.aload_n 0, 1) := by decide +kernel
theorem dX9_world_23 : decode cX9_world 23 = .ok (.getfield 9, 3) := by decide +kernel
theorem dX9_world_26 : decode cX9_world 26 = .ok (.bipush 55, 2) := by decide +kernel
theorem dX9_world_28 : decode cX9_world 28 = .ok (.iload_n 1, 1) := by decide +kernel
theorem dX9_world_29 : decode cX9_world 29 = .ok (.iastore, 1) := by decide +kernel
theorem dX9_world_30 : decode cX9_world 30 = .ok (.iload_n 2, 1) := by decide +kernel
theorem dX9_world_31 : decode cX9_world 31 = .ok (.ireturn, 1) := by decide +kernel
theorem dX9_sugar_0 : decode cX9_sugar 0 = .ok (.aload_n 0, 1) := by decide +kernel
theorem dX9_sugar_1 : decode cX9_sugar 1 = .ok (.iload_n 1, 1) := by decide +kernel
theorem dX9_sugar_2 : decode cX9_sugar 2 = .ok (.invokevirtual 101, 3) := by decide +kernel
theorem dX9_sugar_5 : decode cX9_sugar 5 = .ok (.ifCond .ne 5, 3) := by decide +kernel
theorem dX9_sugar_8 : decode cX9_sugar 8 = .ok (.iconst (-1), 1) := by decide +kernel
theorem dX9_sugar_9 : decode cX9_sugar 9 = .ok (.ireturn, 1) := by decide +kernel
theorem dX9_sugar_10 : decode cX9_sugar 10 = .ok (.iload_n 2, 1) := by decide +kernel
theorem dX9_sugar_11 : decode cX9_sugar 11 = .ok (.iconst 0, 1) := by decide +kernel
theorem dX9_sugar_12 : decode cX9_sugar 12 = .ok (.bipush 9, 2) := by decide +kernel
theorem dX9_sugar_14 : decode cX9_sugar 14 = .ok (.invokestatic 89, 3) := by decide +kernel
theorem dX9_sugar_17 : decode cX9_sugar 17 = .ok (.ifCond .eq 13, 3) := by decide +kernel
theorem dX9_sugar_20 : decode cX9_sugar 20 = .ok (.aload_n 0, 1) := by decide +kernel
theorem dX9_sugar_21 : decode cX9_sugar 21 = .ok (.iload_n 1, 1) := by decide +kernel
theorem dX9_sugar_22 : decode cX9_sugar 22 = .ok (.iconst 2, 1) := by decide +kernel
theorem dX9_sugar_23 : decode cX9_sugar 23 = .ok (.iload_n 2, 1) := by decide +kernel
theorem dX9_sugar_24 : decode cX9_sugar 24 = .ok (.invokevirtual 97, 3) := by decide +kernel
theorem dX9_sugar_27 : decode cX9_sugar 27 = .ok (.goto 5, 3) := by decide +kernel
theorem dX9_sugar_30 : decode cX9_sugar 30 = .ok (.bipush (-2), 2) := by decide +kernel
theorem dX9_sugar_32 : decode cX9_sugar 32 = .ok (.ireturn, 1) := by decide +kernel
theorem dX9_opens_0 : decode cX9_opens 0 = .ok (.aload_n 0, 1) := by decide +kernel
theorem dX9_opens_1 : decode cX9_opens 1 = .ok (.iload_n 1, 1) := by decide +kernel
theorem dX9_opens_2 : decode cX9_opens 2 = .ok (.iconst 4, 1) := by decide +kernel
theorem dX9_opens_3 : decode cX9_opens 3 = .ok (.bipush 9, 2) := by decide +kernel
theorem dX9_opens_5 : decode cX9_opens 5 = .ok (.aload_n 0, 1) := by decide +kernel
theorem dX9_opens_6 : decode cX9_opens 6 = .ok (.iload_n 1, 1) := by decide +kernel
theorem dX9_opens_7 : decode cX9_opens 7 = .ok (.iconst 4, 1) := by decide +kernel
theorem dX9_opens_8 : decode cX9_opens 8 = .ok (.invokevirtual 93, 3) := by decide +kernel
theorem dX9_opens_11 : decode cX9_opens 11 = .ok (.iconst 1, 1) := by decide +kernel
theorem dX9_opens_12 : decode cX9_opens 12 = .ok (.iadd, 1) := by decide +kernel
theorem dX9_opens_13 : decode cX9_opens 13 = .ok (.invokestatic 120, 3) := by decide +kernel
theorem dX9_opens_16 : decode cX9_opens 16 = .ok (.invokevirtual 97, 3) := by decide +kernel
theorem dX9_opens_19 : decode cX9_opens 19 = .ok (.pop, 1) := by decide +kernel
theorem dX9_opens_20 : decode cX9_opens 20 = .ok (.aload_n 0, 1) := by decide +kernel
theorem dX9_opens_21 : decode cX9_opens 21 = .ok (.iload_n 1, 1) := by decide +kernel
theorem dX9_opens_22 : decode cX9_opens 22 = .ok (.iconst 2, 1) := by decide +kernel
theorem dX9_opens_23 : decode cX9_opens 23 = .ok (.iconst 0, 1) := by decide +kernel
theorem dX9_opens_24 : decode cX9_opens 24 = .ok (.aload_n 0, 1) := by decide +kernel
theorem dX9_opens_25 : decode cX9_opens 25 = .ok (.iload_n 1, 1) := by decide +kernel
theorem dX9_opens_26 : decode cX9_opens 26 = .ok (.iconst 2, 1) := by decide +kernel
theorem dX9_opens_27 : decode cX9_opens 27 = .ok (.invokevirtual 93, 3) := by decide +kernel
theorem dX9_opens_30 : decode cX9_opens 30 = .ok (.iconst 1, 1) := by decide +kernel
theorem dX9_opens_31 : decode cX9_opens 31 = .ok (.isub, 1) := by decide +kernel
theorem dX9_opens_32 : decode cX9_opens 32 = .ok (.invokestatic 125, 3) := by decide +kernel
theorem dX9_opens_35 : decode cX9_opens 35 = .ok (.invokevirtual 97, 3) := by decide +kernel
theorem dX9_opens_38 : decode cX9_opens 38 = .ok (.pop, 1) := by decide +kernel
theorem dX9_opens_39 : decode cX9_opens 39 = .ok (.return_, 1) := by decide +kernel
theorem dX9_spoon_0 : decode cX9_spoon 0 = .ok (.aload_n 0, 1) := by decide +kernel
theorem dX9_spoon_1 : decode cX9_spoon 1 = .ok (.iload_n 1, 1) := by decide +kernel
theorem dX9_spoon_2 : decode cX9_spoon 2 = .ok (.invokevirtual 101, 3) := by decide +kernel
theorem dX9_spoon_5 : decode cX9_spoon 5 = .ok (.ifCond .eq 10, 3) := by decide +kernel
theorem dX9_spoon_8 : decode cX9_spoon 8 = .ok (.iload_n 2, 1) := by decide +kernel
theorem dX9_spoon_9 : decode cX9_spoon 9 = .ok (.invokestatic 108, 3) := by decide +kernel
theorem dX9_spoon_12 : decode cX9_spoon 12 = .ok (.ifCond .ne 7, 3) := by decide +kernel
theorem dX9_spoon_15 : decode cX9_spoon 15 = .ok (.sipush (-10001), 3) := by decide +kernel
theorem dX9_spoon_18 : decode cX9_spoon 18 = .ok (.ireturn, 1) := by decide +kernel
theorem dX9_spoon_19 : decode cX9_spoon 19 = .ok (.aload_n 0, 1) := by decide +kernel
theorem dX9_spoon_20 : decode cX9_spoon 20 = .ok (.iload_n 1, 1) := by decide +kernel
theorem dX9_spoon_21 : decode cX9_spoon 21 = .ok (.iload_n 2, 1) := by decide +kernel
theorem dX9_spoon_22 : decode cX9_spoon 22 = .ok (.aload_n 0, 1) := by decide +kernel
theorem dX9_spoon_23 : decode cX9_spoon 23 = .ok (.getfield 9, 3) := by decide +kernel
theorem dX9_spoon_26 : decode cX9_spoon 26 = .ok (.bipush 55, 2) := by decide +kernel
theorem dX9_spoon_28 : decode cX9_spoon 28 = .ok (.iaload, 1) := by decide +kernel
theorem dX9_spoon_29 : decode cX9_spoon 29 = .ok (.invokevirtual 114, 3) := by decide +kernel
theorem dX9_spoon_32 : decode cX9_spoon 32 = .ok (.istore_n 3, 1) := by decide +kernel
theorem dX9_spoon_33 : decode cX9_spoon 33 = .ok (.aload_n 0, 1) := by decide +kernel
theorem dX9_spoon_34 : decode cX9_spoon 34 = .ok (.iload_n 1, 1) := by decide +kernel
theorem dX9_spoon_35 : decode cX9_spoon 35 = .ok (.invokevirtual 128, 3) := by decide +kernel
theorem dX9_spoon_38 : decode cX9_spoon 38 = .ok (.iload_n 3, 1) := by decide +kernel
theorem dX9_spoon_39 : decode cX9_spoon 39 = .ok (.ireturn, 1) := by decide +kernel
theorem dX9_row_0 : decode cX9_row 0 = .ok (.aload_n 0, 1) := by decide +kernel
theorem dX9_row_1 : decode cX9_row 1 = .ok (.iload_n 1, 1) := by decide +kernel
theorem dX9_row_2 : decode cX9_row 2 = .ok (.invokevirtual 101, 3) := by decide +kernel
theorem dX9_row_5 : decode cX9_row 5 = .ok (.ifCond .eq 12, 3) := by decide +kernel
theorem dX9_row_8 : decode cX9_row 8 = .ok (.iload_n 2, 1) := by decide +kernel
theorem dX9_row_9 : decode cX9_row 9 = .ok (.iconst 0, 1) := by decide +kernel
theorem dX9_row_10 : decode cX9_row 10 = .ok (.iconst 3, 1) := by decide +kernel
theorem dX9_row_11 : decode cX9_row 11 = .ok (.invokestatic 89, 3) := by decide +kernel
theorem dX9_row_14 : decode cX9_row 14 = .ok (.ifCond .ne 5, 3) := by decide +kernel
theorem dX9_row_17 : decode cX9_row 17 = .ok (.iconst (-1), 1) := by decide +kernel
theorem dX9_row_18 : decode cX9_row 18 = .ok (.ireturn, 1) := by decide +kernel
theorem dX9_row_19 : decode cX9_row 19 = .ok (.iload_n 3, 1) := by decide +kernel
theorem dX9_row_20 : decode cX9_row 20 = .ok (.iconst 0, 1) := by decide +kernel
theorem dX9_row_21 : decode cX9_row 21 = .ok (.bipush 9, 2) := by decide +kernel
theorem dX9_row_23 : decode cX9_row 23 = .ok (.invokestatic 89, 3) := by decide +kernel
theorem dX9_row_26 : decode cX9_row 26 = .ok (.ifCond .ne 6, 3) := by decide +kernel
theorem dX9_row_29 : decode cX9_row 29 = .ok (.bipush (-2), 2) := by decide +kernel
theorem dX9_row_31 : decode cX9_row 31 = .ok (.ireturn, 1) := by decide +kernel
theorem dX9_row_32 : decode cX9_row 32 = .ok (.aload_n 0, 1) := by decide +kernel
theorem dX9_row_33 : decode cX9_row 33 = .ok (.iload_n 1, 1) := by decide +kernel
theorem dX9_row_34 : decode cX9_row 34 = .ok (.iconst 0, 1) := by decide +kernel
theorem dX9_row_35 : decode cX9_row 35 = .ok (.invokevirtual 93, 3) := by decide +kernel
theorem dX9_row_38 : decode cX9_row 38 = .ok (.bipush 6, 2) := by decide +kernel
theorem dX9_row_40 : decode cX9_row 40 = .ok (.if_icmp .ne 15, 3) := by decide +kernel
theorem dX9_row_43 : decode cX9_row 43 = .ok (.aload_n 0, 1) := by decide +kernel
theorem dX9_row_44 : decode cX9_row 44 = .ok (.iload_n 1, 1) := by decide +kernel
theorem dX9_row_45 : decode cX9_row 45 = .ok (.iconst 5, 1) := by decide +kernel
theorem dX9_row_46 : decode cX9_row 46 = .ok (.iload_n 2, 1) := by decide +kernel
theorem dX9_row_47 : decode cX9_row 47 = .ok (.iadd, 1) := by decide +kernel
theorem dX9_row_48 : decode cX9_row 48 = .ok (.iload_n 3, 1) := by decide +kernel
theorem dX9_row_49 : decode cX9_row 49 = .ok (.invokevirtual 97, 3) := by decide +kernel
theorem dX9_row_52 : decode cX9_row 52 = .ok (.goto 5, 3) := by decide +kernel
theorem dX9_row_55 : decode cX9_row 55 = .ok (.bipush (-3), 2) := by decide +kernel
theorem dX9_row_57 : decode cX9_row 57 = .ok (.ireturn, 1) := by decide +kernel
theorem dX9_feed_0 : decode cX9_feed 0 = .ok (.iload_n 1, 1) := by decide +kernel
theorem dX9_feed_1 : decode cX9_feed 1 = .ok (.iconst 0, 1) := by decide +kernel
theorem dX9_feed_2 : decode cX9_feed 2 = .ok (.bipush 127, 2) := by decide +kernel
theorem dX9_feed_4 : decode cX9_feed 4 = .ok (.invokestatic 89, 3) := by decide +kernel
theorem dX9_feed_7 : decode cX9_feed 7 = .ok (.ifCond .ne 6, 3) := by decide +kernel
theorem dX9_feed_10 : decode cX9_feed 10 = .ok (.bipush (-2), 2) := by decide +kernel
theorem dX9_feed_12 : decode cX9_feed 12 = .ok (.ireturn, 1) := by decide +kernel
theorem dX9_feed_13 : decode cX9_feed 13 = .ok (.aload_n 0, 1) := by decide +kernel
theorem dX9_feed_14 : decode cX9_feed 14 = .ok (.getfield 132, 3) := by decide +kernel
theorem dX9_feed_17 : decode cX9_feed 17 = .ok (.bipush 100, 2) := by decide +kernel
theorem dX9_feed_19 : decode cX9_feed 19 = .ok (.if_icmp .ne 6, 3) := by decide +kernel
theorem dX9_feed_22 : decode cX9_feed 22 = .ok (.bipush (-4), 2) := by decide +kernel
theorem dX9_feed_24 : decode cX9_feed 24 = .ok (.ireturn, 1) := by decide +kernel
theorem dX9_feed_25 : decode cX9_feed 25 = .ok (.aload_n 0, 1) := by decide +kernel
theorem dX9_feed_26 : decode cX9_feed 26 = .ok (.getfield 21, 3) := by decide +kernel
theorem dX9_feed_29 : decode cX9_feed 29 = .ok (.aload_n 0, 1) := by decide +kernel
theorem dX9_feed_30 : decode cX9_feed 30 = .ok (.getfield 132, 3) := by decide +kernel
theorem dX9_feed_33 : decode cX9_feed 33 = .ok (.iload_n 1, 1) := by decide +kernel
theorem dX9_feed_34 : decode cX9_feed 34 = .ok (.iastore, 1) := by decide +kernel
theorem dX9_feed_35 : decode cX9_feed 35 = .ok (.aload_n 0, 1) := by decide +kernel
theorem dX9_feed_36 : decode cX9_feed 36 = .ok (.dup, 1) := by decide +kernel
theorem dX9_feed_37 : decode cX9_feed 37 = .ok (.getfield 132, 3) := by decide +kernel
theorem dX9_feed_40 : decode cX9_feed 40 = .ok (.iconst 1, 1) := by decide +kernel
theorem dX9_feed_41 : decode cX9_feed 41 = .ok (.iadd, 1) := by decide +kernel
theorem dX9_feed_42 : decode cX9_feed 42 = .ok (.putfield 132, 3) := by decide +kernel
theorem dX9_feed_45 : decode cX9_feed 45 = .ok (.aload_n 0, 1) := by decide +kernel
theorem dX9_feed_46 : decode cX9_feed 46 = .ok (.getfield 132, 3) := by decide +kernel
theorem dX9_feed_49 : decode cX9_feed 49 = .ok (.ireturn, 1) := by decide +kernel
theorem dX9_isAt_0 : decode cX9_isAt 0 = .ok (.aload_n 0, 1) := by decide +kernel
theorem dX9_isAt_1 : decode cX9_isAt 1 = .ok (.getfield 136, 3) := by decide +kernel
theorem dX9_isAt_4 : decode cX9_isAt 4 = .ok (.ifCond .eq 31, 3) := by decide +kernel
theorem dX9_isAt_7 : decode cX9_isAt 7 = .ok (.aload_n 0, 1) := by decide +kernel
theorem dX9_isAt_8 : decode cX9_isAt 8 = .ok (.getfield 139, 3) := by decide +kernel
theorem dX9_isAt_11 : decode cX9_isAt 11 = .ok (.aload_n 0, 1) := by decide +kernel
theorem dX9_isAt_12 : decode cX9_isAt 12 = .ok (.getfield 142, 3) := by decide +kernel
theorem dX9_isAt_15 : decode cX9_isAt 15 = .ok (.if_icmp .ge 20, 3) := by decide +kernel
theorem dX9_isAt_18 : decode cX9_isAt 18 = .ok (.aload_n 0, 1) := by decide +kernel
theorem dX9_isAt_19 : decode cX9_isAt 19 = .ok (.getfield 30, 3) := by decide +kernel
theorem dX9_isAt_22 : decode cX9_isAt 22 = .ok (.aload_n 0, 1) := by decide +kernel
theorem dX9_isAt_23 : decode cX9_isAt 23 = .ok (.getfield 139, 3) := by decide +kernel
theorem dX9_isAt_26 : decode cX9_isAt 26 = .ok (.iaload, 1) := by decide +kernel
theorem dX9_isAt_27 : decode cX9_isAt 27 = .ok (.iload_n 1, 1) := by decide +kernel
theorem dX9_isAt_28 : decode cX9_isAt 28 = .ok (.if_icmp .ne 7, 3) := by decide +kernel
theorem dX9_isAt_31 : decode cX9_isAt 31 = .ok (.iconst 1, 1) := by decide +kernel
theorem dX9_isAt_32 : decode cX9_isAt 32 = .ok (.goto 4, 3) := by decide +kernel
theorem dX9_isAt_35 : decode cX9_isAt 35 = .ok (.iconst 0, 1) := by decide +kernel
theorem dX9_isAt_36 : decode cX9_isAt 36 = .ok (.ireturn, 1) := by decide +kernel
theorem dX9_takes_0 : decode cX9_takes 0 = .ok (.aload_n 0, 1) := by decide +kernel
theorem dX9_takes_1 : decode cX9_takes 1 = .ok (.iload_n 1, 1) := by decide +kernel
theorem dX9_takes_2 : decode cX9_takes 2 = .ok (.invokevirtual 145, 3) := by decide +kernel
theorem dX9_takes_5 : decode cX9_takes 5 = .ok (.ifCond .eq 16, 3) := by decide +kernel
theorem dX9_takes_8 : decode cX9_takes 8 = .ok (.aload_n 0, 1) := by decide +kernel
theorem dX9_takes_9 : decode cX9_takes 9 = .ok (.dup, 1) := by decide +kernel
theorem dX9_takes_10 : decode cX9_takes 10 = .ok (.getfield 139, 3) := by decide +kernel
theorem dX9_takes_13 : decode cX9_takes 13 = .ok (.iconst 1, 1) := by decide +kernel
theorem dX9_takes_14 : decode cX9_takes 14 = .ok (.iadd, 1) := by decide +kernel
theorem dX9_takes_15 : decode cX9_takes 15 = .ok (.putfield 139, 3) := by decide +kernel
theorem dX9_takes_18 : decode cX9_takes 18 = .ok (.goto 8, 3) := by decide +kernel
theorem dX9_takes_21 : decode cX9_takes 21 = .ok (.aload_n 0, 1) := by decide +kernel
theorem dX9_takes_22 : decode cX9_takes 22 = .ok (.iconst 0, 1) := by decide +kernel
theorem dX9_takes_23 : decode cX9_takes 23 = .ok (.putfield 136, 3) := by decide +kernel
theorem dX9_takes_26 : decode cX9_takes 26 = .ok (.return_, 1) := by decide +kernel
theorem dX9_isDigit_0 : decode cX9_isDigit 0 = .ok (.aload_n 0, 1) := by decide +kernel
theorem dX9_isDigit_1 : decode cX9_isDigit 1 = .ok (.getfield 136, 3) := by decide +kernel
theorem dX9_isDigit_4 : decode cX9_isDigit 4 = .ok (.ifCond .eq 46, 3) := by decide +kernel
theorem dX9_isDigit_7 : decode cX9_isDigit 7 = .ok (.aload_n 0, 1) := by decide +kernel
theorem dX9_isDigit_8 : decode cX9_isDigit 8 = .ok (.getfield 139, 3) := by decide +kernel
theorem dX9_isDigit_11 : decode cX9_isDigit 11 = .ok (.aload_n 0, 1) := by decide +kernel
theorem dX9_isDigit_12 : decode cX9_isDigit 12 = .ok (.getfield 142, 3) := by decide +kernel
theorem dX9_isDigit_15 : decode cX9_isDigit 15 = .ok (.if_icmp .ge 35, 3) := by decide +kernel
theorem dX9_isDigit_18 : decode cX9_isDigit 18 = .ok (.aload_n 0, 1) := by decide +kernel
theorem dX9_isDigit_19 : decode cX9_isDigit 19 = .ok (.getfield 30, 3) := by decide +kernel
theorem dX9_isDigit_22 : decode cX9_isDigit 22 = .ok (.aload_n 0, 1) := by decide +kernel
theorem dX9_isDigit_23 : decode cX9_isDigit 23 = .ok (.getfield 139, 3) := by decide +kernel
theorem dX9_isDigit_26 : decode cX9_isDigit 26 = .ok (.iaload, 1) := by decide +kernel
theorem dX9_isDigit_27 : decode cX9_isDigit 27 = .ok (.bipush 48, 2) := by decide +kernel
theorem dX9_isDigit_29 : decode cX9_isDigit 29 = .ok (.if_icmp .lt 21, 3) := by decide +kernel
theorem dX9_isDigit_32 : decode cX9_isDigit 32 = .ok (.aload_n 0, 1) := by decide +kernel
theorem dX9_isDigit_33 : decode cX9_isDigit 33 = .ok (.getfield 30, 3) := by decide +kernel
theorem dX9_isDigit_36 : decode cX9_isDigit 36 = .ok (.aload_n 0, 1) := by decide +kernel
theorem dX9_isDigit_37 : decode cX9_isDigit 37 = .ok (.getfield 139, 3) := by decide +kernel
theorem dX9_isDigit_40 : decode cX9_isDigit 40 = .ok (.iaload, 1) := by decide +kernel
theorem dX9_isDigit_41 : decode cX9_isDigit 41 = .ok (.bipush 57, 2) := by decide +kernel
theorem dX9_isDigit_43 : decode cX9_isDigit 43 = .ok (.if_icmp .gt 7, 3) := by decide +kernel
theorem dX9_isDigit_46 : decode cX9_isDigit 46 = .ok (.iconst 1, 1) := by decide +kernel
theorem dX9_isDigit_47 : decode cX9_isDigit 47 = .ok (.goto 4, 3) := by decide +kernel
theorem dX9_isDigit_50 : decode cX9_isDigit 50 = .ok (.iconst 0, 1) := by decide +kernel
theorem dX9_isDigit_51 : decode cX9_isDigit 51 = .ok (.ireturn, 1) := by decide +kernel
theorem dX9_number_0 : decode cX9_number 0 = .ok (.aload_n 0, 1) := by decide +kernel
theorem dX9_number_1 : decode cX9_number 1 = .ok (.invokevirtual 148, 3) := by decide +kernel
theorem dX9_number_4 : decode cX9_number 4 = .ok (.ifCond .ne 10, 3) := by decide +kernel
theorem dX9_number_7 : decode cX9_number 7 = .ok (.aload_n 0, 1) := by decide +kernel
theorem dX9_number_8 : decode cX9_number 8 = .ok (.iconst 0, 1) := by decide +kernel
theorem dX9_number_9 : decode cX9_number 9 = .ok (.putfield 136, 3) := by decide +kernel
theorem dX9_number_12 : decode cX9_number 12 = .ok (.iconst 0, 1) := by decide +kernel
theorem dX9_number_13 : decode cX9_number 13 = .ok (.ireturn, 1) := by decide +kernel
theorem dX9_number_14 : decode cX9_number 14 = .ok (.aload_n 0, 1) := by decide +kernel
theorem dX9_number_15 : decode cX9_number 15 = .ok (.getfield 30, 3) := by decide +kernel
theorem dX9_number_18 : decode cX9_number 18 = .ok (.aload_n 0, 1) := by decide +kernel
theorem dX9_number_19 : decode cX9_number 19 = .ok (.getfield 139, 3) := by decide +kernel
theorem dX9_number_22 : decode cX9_number 22 = .ok (.iaload, 1) := by decide +kernel
theorem dX9_number_23 : decode cX9_number 23 = .ok (.bipush 48, 2) := by decide +kernel
theorem dX9_number_25 : decode cX9_number 25 = .ok (.isub, 1) := by decide +kernel
theorem dX9_number_26 : decode cX9_number 26 = .ok (.istore_n 1, 1) := by decide +kernel
theorem dX9_number_27 : decode cX9_number 27 = .ok (.aload_n 0, 1) := by decide +kernel
theorem dX9_number_28 : decode cX9_number 28 = .ok (.dup, 1) := by decide +kernel
theorem dX9_number_29 : decode cX9_number 29 = .ok (.getfield 139, 3) := by decide +kernel
theorem dX9_number_32 : decode cX9_number 32 = .ok (.iconst 1, 1) := by decide +kernel
theorem dX9_number_33 : decode cX9_number 33 = .ok (.iadd, 1) := by decide +kernel
theorem dX9_number_34 : decode cX9_number 34 = .ok (.putfield 139, 3) := by decide +kernel
theorem dX9_number_37 : decode cX9_number 37 = .ok (.aload_n 0, 1) := by decide +kernel
theorem dX9_number_38 : decode cX9_number 38 = .ok (.invokevirtual 148, 3) := by decide +kernel
theorem dX9_number_41 : decode cX9_number 41 = .ok (.ifCond .eq 31, 3) := by decide +kernel
theorem dX9_number_44 : decode cX9_number 44 = .ok (.bipush 10, 2) := by decide +kernel
theorem dX9_number_46 : decode cX9_number 46 = .ok (.iload_n 1, 1) := by decide +kernel
theorem dX9_number_47 : decode cX9_number 47 = .ok (.imul, 1) := by decide +kernel
theorem dX9_number_48 : decode cX9_number 48 = .ok (.aload_n 0, 1) := by decide +kernel
theorem dX9_number_49 : decode cX9_number 49 = .ok (.getfield 30, 3) := by decide +kernel
theorem dX9_number_52 : decode cX9_number 52 = .ok (.aload_n 0, 1) := by decide +kernel
theorem dX9_number_53 : decode cX9_number 53 = .ok (.getfield 139, 3) := by decide +kernel
theorem dX9_number_56 : decode cX9_number 56 = .ok (.iaload, 1) := by decide +kernel
theorem dX9_number_57 : decode cX9_number 57 = .ok (.iadd, 1) := by decide +kernel
theorem dX9_number_58 : decode cX9_number 58 = .ok (.bipush 48, 2) := by decide +kernel
theorem dX9_number_60 : decode cX9_number 60 = .ok (.isub, 1) := by decide +kernel
theorem dX9_number_61 : decode cX9_number 61 = .ok (.istore_n 1, 1) := by decide +kernel
theorem dX9_number_62 : decode cX9_number 62 = .ok (.aload_n 0, 1) := by decide +kernel
theorem dX9_number_63 : decode cX9_number 63 = .ok (.dup, 1) := by decide +kernel
theorem dX9_number_64 : decode cX9_number 64 = .ok (.getfield 139, 3) := by decide +kernel
theorem dX9_number_67 : decode cX9_number 67 = .ok (.iconst 1, 1) := by decide +kernel
theorem dX9_number_68 : decode cX9_number 68 = .ok (.iadd, 1) := by decide +kernel
theorem dX9_number_69 : decode cX9_number 69 = .ok (.putfield 139, 3) := by decide +kernel
theorem dX9_number_72 : decode cX9_number 72 = .ok (.iload_n 1, 1) := by decide +kernel
theorem dX9_number_73 : decode cX9_number 73 = .ok (.ireturn, 1) := by decide +kernel
theorem dX9_test_0 : decode cX9_test 0 = .ok (.iconst (-1), 1) := by decide +kernel
theorem dX9_test_1 : decode cX9_test 1 = .ok (.istore_n 1, 1) := by decide +kernel
theorem dX9_test_2 : decode cX9_test 2 = .ok (.iconst 0, 1) := by decide +kernel
theorem dX9_test_3 : decode cX9_test 3 = .ok (.istore_n 2, 1) := by decide +kernel
theorem dX9_test_4 : decode cX9_test 4 = .ok (.iload_n 2, 1) := by decide +kernel
theorem dX9_test_5 : decode cX9_test 5 = .ok (.bipush 6, 2) := by decide +kernel
theorem dX9_test_7 : decode cX9_test 7 = .ok (.if_icmp .ge 28, 3) := by decide +kernel
theorem dX9_test_10 : decode cX9_test 10 = .ok (.aload_n 0, 1) := by decide +kernel
theorem dX9_test_11 : decode cX9_test 11 = .ok (.aload_n 0, 1) := by decide +kernel
theorem dX9_test_12 : decode cX9_test 12 = .ok (.getfield 36, 3) := by decide +kernel
theorem dX9_test_15 : decode cX9_test 15 = .ok (.iload_n 2, 1) := by decide +kernel
theorem dX9_test_16 : decode cX9_test 16 = .ok (.caload, 1) := by decide +kernel
theorem dX9_test_17 : decode cX9_test 17 = .ok (.invokevirtual 145, 3) := by decide +kernel
theorem dX9_test_20 : decode cX9_test 20 = .ok (.ifCond .eq 7, 3) := by decide +kernel
theorem dX9_test_23 : decode cX9_test 23 = .ok (.iload_n 2, 1) := by decide +kernel
theorem dX9_test_24 : decode cX9_test 24 = .ok (.goto 4, 3) := by decide +kernel
theorem dX9_test_27 : decode cX9_test 27 = .ok (.iload_n 1, 1) := by decide +kernel
theorem dX9_test_28 : decode cX9_test 28 = .ok (.istore_n 1, 1) := by decide +kernel
theorem dX9_test_29 : decode cX9_test 29 = .ok (.iinc 2 1, 3) := by decide +kernel
theorem dX9_test_32 : decode cX9_test 32 = .ok (.goto (-28), 3) := by decide +kernel
theorem dX9_test_35 : decode cX9_test 35 = .ok (.iload_n 1, 1) := by decide +kernel
theorem dX9_test_36 : decode cX9_test 36 = .ok (.iconst (-1), 1) := by decide +kernel
theorem dX9_test_37 : decode cX9_test 37 = .ok (.if_icmp .ne 10, 3) := by decide +kernel
theorem dX9_test_40 : decode cX9_test 40 = .ok (.aload_n 0, 1) := by decide +kernel
theorem dX9_test_41 : decode cX9_test 41 = .ok (.iconst 0, 1) := by decide +kernel
theorem dX9_test_42 : decode cX9_test 42 = .ok (.putfield 136, 3) := by decide +kernel
theorem dX9_test_45 : decode cX9_test 45 = .ok (.iconst 0, 1) := by decide +kernel
theorem dX9_test_46 : decode cX9_test 46 = .ok (.ireturn, 1) := by decide +kernel
theorem dX9_test_47 : decode cX9_test 47 = .ok (.aload_n 0, 1) := by decide +kernel
theorem dX9_test_48 : decode cX9_test 48 = .ok (.dup, 1) := by decide +kernel
theorem dX9_test_49 : decode cX9_test 49 = .ok (.getfield 139, 3) := by decide +kernel
theorem dX9_test_52 : decode cX9_test 52 = .ok (.iconst 1, 1) := by decide +kernel
theorem dX9_test_53 : decode cX9_test 53 = .ok (.iadd, 1) := by decide +kernel
theorem dX9_test_54 : decode cX9_test 54 = .ok (.putfield 139, 3) := by decide +kernel
theorem dX9_test_57 : decode cX9_test 57 = .ok (.aload_n 0, 1) := by decide +kernel
theorem dX9_test_58 : decode cX9_test 58 = .ok (.bipush 60, 2) := by decide +kernel
theorem dX9_test_60 : decode cX9_test 60 = .ok (.invokevirtual 145, 3) := by decide +kernel
theorem dX9_test_63 : decode cX9_test 63 = .ok (.ifCond .eq 7, 3) := by decide +kernel
theorem dX9_test_66 : decode cX9_test 66 = .ok (.iconst (-1), 1) := by decide +kernel
theorem dX9_test_67 : decode cX9_test 67 = .ok (.goto 17, 3) := by decide +kernel
theorem dX9_test_70 : decode cX9_test 70 = .ok (.aload_n 0, 1) := by decide +kernel
theorem dX9_test_71 : decode cX9_test 71 = .ok (.bipush 62, 2) := by decide +kernel
theorem dX9_test_73 : decode cX9_test 73 = .ok (.invokevirtual 145, 3) := by decide +kernel
theorem dX9_test_76 : decode cX9_test 76 = .ok (.ifCond .eq 7, 3) := by decide +kernel
theorem dX9_test_79 : decode cX9_test 79 = .ok (.iconst 1, 1) := by decide +kernel
theorem dX9_test_80 : decode cX9_test 80 = .ok (.goto 4, 3) := by decide +kernel
theorem dX9_test_83 : decode cX9_test 83 = .ok (.iconst 0, 1) := by decide +kernel
theorem dX9_test_84 : decode cX9_test 84 = .ok (.istore_n 2, 1) := by decide +kernel
theorem dX9_test_85 : decode cX9_test 85 = .ok (.aload_n 0, 1) := by decide +kernel
theorem dX9_test_86 : decode cX9_test 86 = .ok (.iload_n 2, 1) := by decide +kernel
theorem dX9_test_87 : decode cX9_test 87 = .ok (.ifCond .ge 8, 3) := by decide +kernel
theorem dX9_test_90 : decode cX9_test 90 = .ok (.bipush 60, 2) := by decide +kernel
theorem dX9_test_92 : decode cX9_test 92 = .ok (.goto 14, 3) := by decide +kernel
theorem dX9_test_95 : decode cX9_test 95 = .ok (.iload_n 2, 1) := by decide +kernel
theorem dX9_test_96 : decode cX9_test 96 = .ok (.ifCond .le 8, 3) := by decide +kernel
