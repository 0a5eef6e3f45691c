theorem dX9_hear_12 : decode cX9_hear 12 = .ok (.iastore, 1) := by decide +kernel
theorem dX9_hear_13 : decode cX9_hear 13 = .ok (.iconst 0, 1) := by decide +kernel
theorem dX9_hear_14 : decode cX9_hear 14 = .ok (.ireturn, 1) := by decide +kernel
theorem dX9_hear_15 : decode cX9_hear 15 = .ok (.aload_n 0, 1) := by decide +kernel
theorem dX9_hear_16 : decode cX9_hear 16 = .ok (.iload_n 1, 1) := by decide +kernel
theorem dX9_hear_17 : decode cX9_hear 17 = .ok (.invokevirtual 101, 3) := by decide +kernel
theorem dX9_hear_20 : decode cX9_hear 20 = .ok (.ifCond .eq 10, 3) := by decide +kernel
theorem dX9_hear_23 : decode cX9_hear 23 = .ok (.iload_n 2, 1) := by decide +kernel
theorem dX9_hear_24 : decode cX9_hear 24 = .ok (.invokestatic 108, 3) := by decide +kernel
theorem dX9_hear_27 : decode cX9_hear 27 = .ok (.ifCond .ne 5, 3) := by decide +kernel
theorem dX9_hear_30 : decode cX9_hear 30 = .ok (.iconst (-1), 1) := by decide +kernel
theorem dX9_hear_31 : decode cX9_hear 31 = .ok (.ireturn, 1) := by decide +kernel
theorem dX9_hear_32 : decode cX9_hear 32 = .ok (.iload_n 3, 1) := by decide +kernel
theorem dX9_hear_33 : decode cX9_hear 33 = .ok (.iconst (-1), 1) := by decide +kernel
theorem dX9_hear_34 : decode cX9_hear 34 = .ok (.iconst 1, 1) := by decide +kernel
theorem dX9_hear_35 : decode cX9_hear 35 = .ok (.invokestatic 89, 3) := by decide +kernel
theorem dX9_hear_38 : decode cX9_hear 38 = .ok (.ifCond .ne 6, 3) := by decide +kernel
theorem dX9_hear_41 : decode cX9_hear 41 = .ok (.bipush (-2), 2) := by decide +kernel
theorem dX9_hear_43 : decode cX9_hear 43 = .ok (.ireturn, 1) := by decide +kernel
theorem dX9_hear_44 : decode cX9_hear 44 = .ok (.aload_n 0, 1) := by decide +kernel
theorem dX9_hear_45 : decode cX9_hear 45 = .ok (.getfield 9, 3) := by decide +kernel
theorem dX9_hear_48 : decode cX9_hear 48 = .ok (.bipush 58, 2) := by decide +kernel
theorem dX9_hear_50 : decode cX9_hear 50 = .ok (.iaload, 1) := by decide +kernel
theorem dX9_hear_51 : decode cX9_hear 51 = .ok (.bipush 6, 2) := by decide +kernel
theorem dX9_hear_53 : decode cX9_hear 53 = .ok (.if_icmp .ne 6, 3) := by decide +kernel
theorem dX9_hear_56 : decode cX9_hear 56 = .ok (.bipush (-4), 2) := by decide +kernel
theorem dX9_hear_58 : decode cX9_hear 58 = .ok (.ireturn, 1) := by decide +kernel
theorem dX9_hear_59 : decode cX9_hear 59 = .ok (.bipush 59, 2) := by decide +kernel
theorem dX9_hear_61 : decode cX9_hear 61 = .ok (.iconst 3, 1) := by decide +kernel
theorem dX9_hear_62 : decode cX9_hear 62 = .ok (.aload_n 0, 1) := by decide +kernel
theorem dX9_hear_63 : decode cX9_hear 63 = .ok (.getfield 9, 3) := by decide +kernel
theorem dX9_hear_66 : decode cX9_hear 66 = .ok (.bipush 58, 2) := by decide +kernel
theorem dX9_hear_68 : decode cX9_hear 68 = .ok (.iaload, 1) := by decide +kernel
theorem dX9_hear_69 : decode cX9_hear 69 = .ok (.imul, 1) := by decide +kernel
theorem dX9_hear_70 : decode cX9_hear 70 = .ok (.iadd, 1) := by decide +kernel
theorem dX9_hear_71 : decode cX9_hear 71 = .ok (.istore 4, 2) := by decide +kernel
theorem dX9_hear_73 : decode cX9_hear 73 = .ok (.aload_n 0, 1) := by decide +kernel
theorem dX9_hear_74 : decode cX9_hear 74 = .ok (.getfield 9, 3) := by decide +kernel
theorem dX9_hear_77 : decode cX9_hear 77 = .ok (.iload 4, 2) := by decide +kernel
theorem dX9_hear_79 : decode cX9_hear 79 = .ok (.iload_n 1, 1) := by decide +kernel
theorem dX9_hear_80 : decode cX9_hear 80 = .ok (.iastore, 1) := by decide +kernel
theorem dX9_hear_81 : decode cX9_hear 81 = .ok (.aload_n 0, 1) := by decide +kernel
theorem dX9_hear_82 : decode cX9_hear 82 = .ok (.getfield 9, 3) := by decide +kernel
theorem dX9_hear_85 : decode cX9_hear 85 = .ok (.iload 4, 2) := by decide +kernel
theorem dX9_hear_87 : decode cX9_hear 87 = .ok (.iconst 1, 1) := by decide +kernel
theorem dX9_hear_88 : decode cX9_hear 88 = .ok (.iadd, 1) := by decide +kernel
theorem dX9_hear_89 : decode cX9_hear 89 = .ok (.iload_n 2, 1) := by decide +kernel
theorem dX9_hear_90 : decode cX9_hear 90 = .ok (.iastore, 1) := by decide +kernel
theorem dX9_hear_91 : decode cX9_hear 91 = .ok (.aload_n 0, 1) := by decide +kernel
theorem dX9_hear_92 : decode cX9_hear 92 = .ok (.getfield 9, 3) := by decide +kernel
theorem dX9_hear_95 : decode cX9_hear 95 = .ok (.iload 4, 2) := by decide +kernel
theorem dX9_hear_97 : decode cX9_hear 97 = .ok (.iconst 2, 1) := by decide +kernel
theorem dX9_hear_98 : decode cX9_hear 98 = .ok (.iadd, 1) := by decide +kernel
theorem dX9_hear_99 : decode cX9_hear 99 = .ok (.iload_n 3, 1) := by decide +kernel
theorem dX9_hear_100 : decode cX9_hear 100 = .ok (.iastore, 1) := by decide +kernel
theorem dX9_hear_101 : decode cX9_hear 101 = .ok (.aload_n 0, 1) := by decide +kernel
theorem dX9_hear_102 : decode cX9_hear 102 = .ok (.getfield 9, 3) := by decide +kernel
theorem dX9_hear_105 : decode cX9_hear 105 = .ok (.bipush 58, 2) := by decide +kernel
theorem dX9_hear_107 : decode cX9_hear 107 = .ok (.dup2, 1) := by decide +kernel
theorem dX9_hear_108 : decode cX9_hear 108 = .ok (.iaload, 1) := by decide +kernel
theorem dX9_hear_109 : decode cX9_hear 109 = .ok (.iconst 1, 1) := by decide +kernel
theorem dX9_hear_110 : decode cX9_hear 110 = .ok (.iadd, 1) := by decide +kernel
theorem dX9_hear_111 : decode cX9_hear 111 = .ok (.iastore, 1) := by decide +kernel
theorem dX9_hear_112 : decode cX9_hear 112 = .ok (.aload_n 0, 1) := by decide +kernel
theorem dX9_hear_113 : decode cX9_hear 113 = .ok (.getfield 9, 3) := by decide +kernel
theorem dX9_hear_116 : decode cX9_hear 116 = .ok (.bipush 58, 2) := by decide +kernel
theorem dX9_hear_118 : decode cX9_hear 118 = .ok (.iaload, 1) := by decide +kernel
theorem dX9_hear_119 : decode cX9_hear 119 = .ok (.ireturn, 1) := by decide +kernel
theorem dX9_isAllSo_0 : decode cX9_isAllSo 0 = .ok (.iconst 1, 1) := by decide +kernel
theorem dX9_isAllSo_1 : decode cX9_isAllSo 1 = .ok (.istore_n 2, 1) := by decide +kernel
theorem dX9_isAllSo_2 : decode cX9_isAllSo 2 = .ok (.iconst 0, 1) := by decide +kernel
theorem dX9_isAllSo_3 : decode cX9_isAllSo 3 = .ok (.istore_n 3, 1) := by decide +kernel
theorem dX9_isAllSo_4 : decode cX9_isAllSo 4 = .ok (.iload_n 3, 1) := by decide +kernel
theorem dX9_isAllSo_5 : decode cX9_isAllSo 5 = .ok (.aload_n 0, 1) := by decide +kernel
theorem dX9_isAllSo_6 : decode cX9_isAllSo 6 = .ok (.getfield 9, 3) := by decide +kernel
theorem dX9_isAllSo_9 : decode cX9_isAllSo 9 = .ok (.bipush 58, 2) := by decide +kernel
theorem dX9_isAllSo_11 : decode cX9_isAllSo 11 = .ok (.iaload, 1) := by decide +kernel
theorem dX9_isAllSo_12 : decode cX9_isAllSo 12 = .ok (.if_icmp .ge 93, 3) := by decide +kernel
theorem dX9_isAllSo_15 : decode cX9_isAllSo 15 = .ok (.bipush 59, 2) := by decide +kernel
theorem dX9_isAllSo_17 : decode cX9_isAllSo 17 = .ok (.iconst 3, 1) := by decide +kernel
theorem dX9_isAllSo_18 : decode cX9_isAllSo 18 = .ok (.iload_n 3, 1) := by decide +kernel
theorem dX9_isAllSo_19 : decode cX9_isAllSo 19 = .ok (.imul, 1) := by decide +kernel
theorem dX9_isAllSo_20 : decode cX9_isAllSo 20 = .ok (.iadd, 1) := by decide +kernel
theorem dX9_isAllSo_21 : decode cX9_isAllSo 21 = .ok (.istore 4, 2) := by decide +kernel
theorem dX9_isAllSo_23 : decode cX9_isAllSo 23 = .ok (.aload_n 0, 1) := by decide +kernel
theorem dX9_isAllSo_24 : decode cX9_isAllSo 24 = .ok (.getfield 9, 3) := by decide +kernel
theorem dX9_isAllSo_27 : decode cX9_isAllSo 27 = .ok (.iload 4, 2) := by decide +kernel
theorem dX9_isAllSo_29 : decode cX9_isAllSo 29 = .ok (.iconst 2, 1) := by decide +kernel
theorem dX9_isAllSo_30 : decode cX9_isAllSo 30 = .ok (.iadd, 1) := by decide +kernel
theorem dX9_isAllSo_31 : decode cX9_isAllSo 31 = .ok (.iaload, 1) := by decide +kernel
theorem dX9_isAllSo_32 : decode cX9_isAllSo 32 = .ok (.iconst (-1), 1) := by decide +kernel
theorem dX9_isAllSo_33 : decode cX9_isAllSo 33 = .ok (.if_icmp .ne 8, 3) := by decide +kernel
theorem dX9_isAllSo_36 : decode cX9_isAllSo 36 = .ok (.bipush (-5), 2) := by decide +kernel
theorem dX9_isAllSo_38 : decode cX9_isAllSo 38 = .ok (.goto 12, 3) := by decide +kernel
theorem dX9_isAllSo_41 : decode cX9_isAllSo 41 = .ok (.aload_n 0, 1) := by decide +kernel
theorem dX9_isAllSo_42 : decode cX9_isAllSo 42 = .ok (.getfield 9, 3) := by decide +kernel
theorem dX9_isAllSo_45 : decode cX9_isAllSo 45 = .ok (.iload 4, 2) := by decide +kernel
theorem dX9_isAllSo_47 : decode cX9_isAllSo 47 = .ok (.iconst 2, 1) := by decide +kernel
theorem dX9_isAllSo_48 : decode cX9_isAllSo 48 = .ok (.iadd, 1) := by decide +kernel
theorem dX9_isAllSo_49 : decode cX9_isAllSo 49 = .ok (.iaload, 1) := by decide +kernel
theorem dX9_isAllSo_50 : decode cX9_isAllSo 50 = .ok (.istore 5, 2) := by decide +kernel
theorem dX9_isAllSo_52 : decode cX9_isAllSo 52 = .ok (.iload_n 2, 1) := by decide +kernel
theorem dX9_isAllSo_53 : decode cX9_isAllSo 53 = .ok (.ifCond .eq 44, 3) := by decide +kernel
theorem dX9_isAllSo_56 : decode cX9_isAllSo 56 = .ok (.aload_n 0, 1) := by decide +kernel
theorem dX9_isAllSo_57 : decode cX9_isAllSo 57 = .ok (.getfield 9, 3) := by decide +kernel
theorem dX9_isAllSo_60 : decode cX9_isAllSo 60 = .ok (.iload 4, 2) := by decide +kernel
theorem dX9_isAllSo_62 : decode cX9_isAllSo 62 = .ok (.iaload, 1) := by decide +kernel
theorem dX9_isAllSo_63 : decode cX9_isAllSo 63 = .ok (.iload_n 1, 1) := by decide +kernel
theorem dX9_isAllSo_64 : decode cX9_isAllSo 64 = .ok (.if_icmp .ne 29, 3) := by decide +kernel
theorem dX9_isAllSo_67 : decode cX9_isAllSo 67 = .ok (.aload_n 0, 1) := by decide +kernel
theorem dX9_isAllSo_68 : decode cX9_isAllSo 68 = .ok (.iload_n 1, 1) := by decide +kernel
theorem dX9_isAllSo_69 : decode cX9_isAllSo 69 = .ok (.aload_n 0, 1) := by decide +kernel
theorem dX9_isAllSo_70 : decode cX9_isAllSo 70 = .ok (.getfield 9, 3) := by decide +kernel
theorem dX9_isAllSo_73 : decode cX9_isAllSo 73 = .ok (.iload 4, 2) := by decide +kernel
theorem dX9_isAllSo_75 : decode cX9_isAllSo 75 = .ok (.iconst 1, 1) := by decide +kernel
theorem dX9_isAllSo_76 : decode cX9_isAllSo 76 = .ok (.iadd, 1) := by decide +kernel
theorem dX9_isAllSo_77 : decode cX9_isAllSo 77 = .ok (.iaload, 1) := by decide +kernel
theorem dX9_isAllSo_78 : decode cX9_isAllSo 78 = .ok (.aload_n 0, 1) := by decide +kernel
theorem dX9_isAllSo_79 : decode cX9_isAllSo 79 = .ok (.getfield 9, 3) := by decide +kernel
theorem dX9_isAllSo_82 : decode cX9_isAllSo 82 = .ok (.bipush 55, 2) := by decide +kernel
theorem dX9_isAllSo_84 : decode cX9_isAllSo 84 = .ok (.iaload, 1) := by decide +kernel
theorem dX9_isAllSo_85 : decode cX9_isAllSo 85 = .ok (.invokevirtual 114, 3) := by decide +kernel
theorem dX9_isAllSo_88 : decode cX9_isAllSo 88 = .ok (.iload 5, 2) := by decide +kernel
theorem dX9_isAllSo_90 : decode cX9_isAllSo 90 = .ok (.if_icmp .ne 7, 3) := by decide +kernel
theorem dX9_isAllSo_93 : decode cX9_isAllSo 93 = .ok (.iconst 1, 1) := by decide +kernel
theorem dX9_isAllSo_94 : decode cX9_isAllSo 94 = .ok (.goto 4, 3) := by decide +kernel
theorem dX9_isAllSo_97 : decode cX9_isAllSo 97 = .ok (.iconst 0, 1) := by decide +kernel
theorem dX9_isAllSo_98 : decode cX9_isAllSo 98 = .ok (.istore_n 2, 1) := by decide +kernel
theorem dX9_isAllSo_99 : decode cX9_isAllSo 99 = .ok (.iinc 3 1, 3) := by decide +kernel
theorem dX9_isAllSo_102 : decode cX9_isAllSo 102 = .ok (.goto (-98), 3) := by decide +kernel
theorem dX9_isAllSo_105 : decode cX9_isAllSo 105 = .ok (.iload_n 2, 1) := by decide +kernel
theorem dX9_isAllSo_106 : decode cX9_isAllSo 106 = .ok (.ireturn, 1) := by decide +kernel
theorem dX9_fits_0 : decode cX9_fits 0 = .ok (.aload_n 0, 1) := by decide +kernel
theorem dX9_fits_1 : decode cX9_fits 1 = .ok (.iload_n 1, 1) := by decide +kernel
theorem dX9_fits_2 : decode cX9_fits 2 = .ok (.iload_n 2, 1) := by decide +kernel
theorem dX9_fits_3 : decode cX9_fits 3 = .ok (.invokevirtual 93, 3) := by decide +kernel
theorem dX9_fits_6 : decode cX9_fits 6 = .ok (.istore_n 3, 1) := by decide +kernel
theorem dX9_fits_7 : decode cX9_fits 7 = .ok (.iconst 0, 1) := by decide +kernel
theorem dX9_fits_8 : decode cX9_fits 8 = .ok (.istore 4, 2) := by decide +kernel
theorem dX9_fits_10 : decode cX9_fits 10 = .ok (.iconst 0, 1) := by decide +kernel
theorem dX9_fits_11 : decode cX9_fits 11 = .ok (.istore 5, 2) := by decide +kernel
theorem dX9_fits_13 : decode cX9_fits 13 = .ok (.iload 5, 2) := by decide +kernel
theorem dX9_fits_15 : decode cX9_fits 15 = .ok (.bipush 10, 2) := by decide +kernel
theorem dX9_fits_17 : decode cX9_fits 17 = .ok (.if_icmp .ge 39, 3) := by decide +kernel
theorem dX9_fits_20 : decode cX9_fits 20 = .ok (.aload_n 0, 1) := by decide +kernel
theorem dX9_fits_21 : decode cX9_fits 21 = .ok (.iload_n 1, 1) := by decide +kernel
theorem dX9_fits_22 : decode cX9_fits 22 = .ok (.iload_n 2, 1) := by decide +kernel
theorem dX9_fits_23 : decode cX9_fits 23 = .ok (.iload 5, 2) := by decide +kernel
theorem dX9_fits_25 : decode cX9_fits 25 = .ok (.invokevirtual 97, 3) := by decide +kernel
theorem dX9_fits_28 : decode cX9_fits 28 = .ok (.pop, 1) := by decide +kernel
theorem dX9_fits_29 : decode cX9_fits 29 = .ok (.iload 4, 2) := by decide +kernel
theorem dX9_fits_31 : decode cX9_fits 31 = .ok (.aload_n 0, 1) := by decide +kernel
theorem dX9_fits_32 : decode cX9_fits 32 = .ok (.iload_n 1, 1) := by decide +kernel
theorem dX9_fits_33 : decode cX9_fits 33 = .ok (.invokevirtual 240, 3) := by decide +kernel
theorem dX9_fits_36 : decode cX9_fits 36 = .ok (.ifCond .eq 10, 3) := by decide +kernel
theorem dX9_fits_39 : decode cX9_fits 39 = .ok (.iconst 1, 1) := by decide +kernel
theorem dX9_fits_40 : decode cX9_fits 40 = .ok (.iload 5, 2) := by decide +kernel
theorem dX9_fits_42 : decode cX9_fits 42 = .ok (.ishl, 1) := by decide +kernel
theorem dX9_fits_43 : decode cX9_fits 43 = .ok (.goto 4, 3) := by decide +kernel
theorem dX9_fits_46 : decode cX9_fits 46 = .ok (.iconst 0, 1) := by decide +kernel
theorem dX9_fits_47 : decode cX9_fits 47 = .ok (.ior, 1) := by decide +kernel
theorem dX9_fits_48 : decode cX9_fits 48 = .ok (.istore 4, 2) := by decide +kernel
theorem dX9_fits_50 : decode cX9_fits 50 = .ok (.iinc 5 1, 3) := by decide +kernel
theorem dX9_fits_53 : decode cX9_fits 53 = .ok (.goto (-40), 3) := by decide +kernel
theorem dX9_fits_56 : decode cX9_fits 56 = .ok (.aload_n 0, 1) := by decide +kernel
theorem dX9_fits_57 : decode cX9_fits 57 = .ok (.iload_n 1, 1) := by decide +kernel
theorem dX9_fits_58 : decode cX9_fits 58 = .ok (.iload_n 2, 1) := by decide +kernel
theorem dX9_fits_59 : decode cX9_fits 59 = .ok (.iload_n 3, 1) := by decide +kernel
theorem dX9_fits_60 : decode cX9_fits 60 = .ok (.invokevirtual 97, 3) := by decide +kernel
theorem dX9_fits_63 : decode cX9_fits 63 = .ok (.pop, 1) := by decide +kernel
theorem dX9_fits_64 : decode cX9_fits 64 = .ok (.iload 4, 2) := by decide +kernel
theorem dX9_fits_66 : decode cX9_fits 66 = .ok (.ireturn, 1) := by decide +kernel
theorem dX9_can_0 : decode cX9_can 0 = .ok (.aload_n 0, 1) := by decide +kernel
theorem dX9_can_1 : decode cX9_can 1 = .ok (.iload_n 1, 1) := by decide +kernel
theorem dX9_can_2 : decode cX9_can 2 = .ok (.invokevirtual 101, 3) := by decide +kernel
theorem dX9_can_5 : decode cX9_can 5 = .ok (.ifCond .eq 12, 3) := by decide +kernel
theorem dX9_can_8 : decode cX9_can 8 = .ok (.iload_n 2, 1) := by decide +kernel
theorem dX9_can_9 : decode cX9_can 9 = .ok (.iconst 0, 1) := by decide +kernel
theorem dX9_can_10 : decode cX9_can 10 = .ok (.iconst 1, 1) := by decide +kernel
theorem dX9_can_11 : decode cX9_can 11 = .ok (.invokestatic 89, 3) := by decide +kernel
theorem dX9_can_14 : decode cX9_can 14 = .ok (.ifCond .ne 5, 3) := by decide +kernel
theorem dX9_can_17 : decode cX9_can 17 = .ok (.iconst (-1), 1) := by decide +kernel
theorem dX9_can_18 : decode cX9_can 18 = .ok (.ireturn, 1) := by decide +kernel
theorem dX9_can_19 : decode cX9_can 19 = .ok (.aload_n 0, 1) := by decide +kernel
theorem dX9_can_20 : decode cX9_can 20 = .ok (.iload_n 1, 1) := by decide +kernel
theorem dX9_can_21 : decode cX9_can 21 = .ok (.iconst 1, 1) := by decide +kernel
theorem dX9_can_22 : decode cX9_can 22 = .ok (.invokevirtual 105, 3) := by decide +kernel
theorem dX9_can_25 : decode cX9_can 25 = .ok (.istore_n 3, 1) := by decide +kernel
theorem dX9_can_26 : decode cX9_can 26 = .ok (.iconst 0, 1) := by decide +kernel
theorem dX9_can_27 : decode cX9_can 27 = .ok (.istore 4, 2) := by decide +kernel
theorem dX9_can_29 : decode cX9_can 29 = .ok (.bipush (-5), 2) := by decide +kernel
theorem dX9_can_31 : decode cX9_can 31 = .ok (.istore 5, 2) := by decide +kernel
theorem dX9_can_33 : decode cX9_can 33 = .ok (.bipush 9, 2) := by decide +kernel
theorem dX9_can_35 : decode cX9_can 35 = .ok (.istore 6, 2) := by decide +kernel
theorem dX9_can_37 : decode cX9_can 37 = .ok (.iload 6, 2) := by decide +kernel
theorem dX9_can_39 : decode cX9_can 39 = .ok (.ifCond .lt 39, 3) := by decide +kernel
theorem dX9_can_42 : decode cX9_can 42 = .ok (.iload 4, 2) := by decide +kernel
theorem dX9_can_44 : decode cX9_can 44 = .ok (.iload_n 3, 1) := by decide +kernel
theorem dX9_can_45 : decode cX9_can 45 = .ok (.iload 6, 2) := by decide +kernel
theorem dX9_can_47 : decode cX9_can 47 = .ok (.ishr, 1) := by decide +kernel
theorem dX9_can_48 : decode cX9_can 48 = .ok (.iconst 1, 1) := by decide +kernel
theorem dX9_can_49 : decode cX9_can 49 = .ok (.iand, 1) := by decide +kernel
theorem dX9_can_50 : decode cX9_can 50 = .ok (.iadd, 1) := by decide +kernel
theorem dX9_can_51 : decode cX9_can 51 = .ok (.istore 4, 2) := by decide +kernel
theorem dX9_can_53 : decode cX9_can 53 = .ok (.iload_n 3, 1) := by decide +kernel
theorem dX9_can_54 : decode cX9_can 54 = .ok (.iload 6, 2) := by decide +kernel
theorem dX9_can_56 : decode cX9_can 56 = .ok (.ishr, 1) := by decide +kernel
theorem dX9_can_57 : decode cX9_can 57 = .ok (.iconst 1, 1) := by decide +kernel
theorem dX9_can_58 : decode cX9_can 58 = .ok (.iand, 1) := by decide +kernel
theorem dX9_can_59 : decode cX9_can 59 = .ok (.iconst 1, 1) := by decide +kernel
theorem dX9_can_60 : decode cX9_can 60 = .ok (.if_icmp .ne 8, 3) := by decide +kernel
theorem dX9_can_63 : decode cX9_can 63 = .ok (.iload 6, 2) := by decide +kernel
theorem dX9_can_65 : decode cX9_can 65 = .ok (.goto 5, 3) := by decide +kernel
theorem dX9_can_68 : decode cX9_can 68 = .ok (.iload 5, 2) := by decide +kernel
theorem dX9_can_70 : decode cX9_can 70 = .ok (.istore 5, 2) := by decide +kernel
theorem dX9_can_72 : decode cX9_can 72 = .ok (.iinc 6 (-1), 3) := by decide +kernel
theorem dX9_can_75 : decode cX9_can 75 = .ok (.goto (-38), 3) := by decide +kernel
theorem dX9_can_78 : decode cX9_can 78 = .ok (.iload_n 2, 1) := by decide +kernel
theorem dX9_can_79 : decode cX9_can 79 = .ok (.ifCond .ne 8, 3) := by decide +kernel
theorem dX9_can_82 : decode cX9_can 82 = .ok (.iload 4, 2) := by decide +kernel
theorem dX9_can_84 : decode cX9_can 84 = .ok (.goto 5, 3) := by decide +kernel
theorem dX9_can_87 : decode cX9_can 87 = .ok (.iload 5, 2) := by decide +kernel
theorem dX9_can_89 : decode cX9_can 89 = .ok (.ireturn, 1) := by decide +kernel
theorem dX9_fraction_0 : decode cX9_fraction 0 = .ok (.lload_n 0, 1) := by decide +kernel
theorem dX9_fraction_1 : decode cX9_fraction 1 = .ok (.lstore 5, 2) := by decide +kernel
theorem dX9_fraction_3 : decode cX9_fraction 3 = .ok (.lload_n 2, 1) := by decide +kernel
theorem dX9_fraction_4 : decode cX9_fraction 4 = .ok (.lstore 7, 2) := by decide +kernel
theorem dX9_fraction_6 : decode cX9_fraction 6 = .ok (.lload 7, 2) := by decide +kernel
theorem dX9_fraction_8 : decode cX9_fraction 8 = .ok (.lconst 0, 1) := by decide +kernel
theorem dX9_fraction_9 : decode cX9_fraction 9 = .ok (.lcmp, 1) := by decide +kernel
theorem dX9_fraction_10 : decode cX9_fraction 10 = .ok (.ifCond .eq 21, 3) := by decide +kernel
theorem dX9_fraction_13 : decode cX9_fraction 13 = .ok (.lload 5, 2) := by decide +kernel
theorem dX9_fraction_15 : decode cX9_fraction 15 = .ok (.lload 7, 2) := by decide +kernel
theorem dX9_fraction_17 : decode cX9_fraction 17 = .ok (.lrem, 1) := by decide +kernel
theorem dX9_fraction_18 : decode cX9_fraction 18 = .ok (.lstore 9, 2) := by decide +kernel
theorem dX9_fraction_20 : decode cX9_fraction 20 = .ok (.lload 7, 2) := by decide +kernel
theorem dX9_fraction_22 : decode cX9_fraction 22 = .ok (.lstore 5, 2) := by decide +kernel
theorem dX9_fraction_24 : decode cX9_fraction 24 = .ok (.lload 9, 2) := by decide +kernel
theorem dX9_fraction_26 : decode cX9_fraction 26 = .ok (.lstore 7, 2) := by decide +kernel
theorem dX9_fraction_28 : decode cX9_fraction 28 = .ok (.goto (-22), 3) := by decide +kernel
theorem dX9_fraction_31 : decode cX9_fraction 31 = .ok (.iload 4, 2) := by decide +kernel
theorem dX9_fraction_33 : decode cX9_fraction 33 = .ok (.ifCond .ne 10, 3) := by decide +kernel
theorem dX9_fraction_36 : decode cX9_fraction 36 = .ok (.lload_n 0, 1) := by decide +kernel
theorem dX9_fraction_37 : decode cX9_fraction 37 = .ok (.lload 5, 2) := by decide +kernel
theorem dX9_fraction_39 : decode cX9_fraction 39 = .ok (.ldiv, 1) := by decide +kernel
theorem dX9_fraction_40 : decode cX9_fraction 40 = .ok (.goto 7, 3) := by decide +kernel
theorem dX9_fraction_43 : decode cX9_fraction 43 = .ok (.lload_n 2, 1) := by decide +kernel
theorem dX9_fraction_44 : decode cX9_fraction 44 = .ok (.lload 5, 2) := by decide +kernel
theorem dX9_fraction_46 : decode cX9_fraction 46 = .ok (.ldiv, 1) := by decide +kernel
theorem dX9_fraction_47 : decode cX9_fraction 47 = .ok (.lreturn, 1) := by decide +kernel
theorem dX9_odds_0 : decode cX9_odds 0 = .ok (.iload_n 1, 1) := by decide +kernel
theorem dX9_odds_1 : decode cX9_odds 1 = .ok (.invokestatic 108, 3) := by decide +kernel
theorem dX9_odds_4 : decode cX9_odds 4 = .ok (.ifCond .eq 12, 3) := by decide +kernel
theorem dX9_odds_7 : decode cX9_odds 7 = .ok (.iload_n 2, 1) := by decide +kernel
theorem dX9_odds_8 : decode cX9_odds 8 = .ok (.iconst 0, 1) := by decide +kernel
theorem dX9_odds_9 : decode cX9_odds 9 = .ok (.iconst 1, 1) := by decide +kernel
theorem dX9_odds_10 : decode cX9_odds 10 = .ok (.invokestatic 89, 3) := by decide +kernel
theorem dX9_odds_13 : decode cX9_odds 13 = .ok (.ifCond .ne 7, 3) := by decide +kernel
theorem dX9_odds_16 : decode cX9_odds 16 = .ok (.ldc2_w 243, 3) := by decide +kernel
theorem dX9_odds_19 : decode cX9_odds 19 = .ok (.lreturn, 1) := by decide +kernel
theorem dX9_odds_20 : decode cX9_odds 20 = .ok (.aload_n 0, 1) := by decide +kernel
theorem dX9_odds_21 : decode cX9_odds 21 = .ok (.invokevirtual 202, 3) := by decide +kernel
theorem dX9_odds_24 : decode cX9_odds 24 = .ok (.istore_n 3, 1) := by decide +kernel
theorem dX9_odds_25 : decode cX9_odds 25 = .ok (.iconst 0, 1) := by decide +kernel
theorem dX9_odds_26 : decode cX9_odds 26 = .ok (.istore 4, 2) := by decide +kernel
theorem dX9_odds_28 : decode cX9_odds 28 = .ok (.iconst 0, 1) := by decide +kernel
theorem dX9_odds_29 : decode cX9_odds 29 = .ok (.istore 5, 2) := by decide +kernel
theorem dX9_odds_31 : decode cX9_odds 31 = .ok (.iload 5, 2) := by decide +kernel
theorem dX9_odds_33 : decode cX9_odds 33 = .ok (.sipush 256, 3) := by decide +kernel
theorem dX9_odds_36 : decode cX9_odds 36 = .ok (.if_icmp .ge 34, 3) := by decide +kernel
theorem dX9_odds_39 : decode cX9_odds 39 = .ok (.iload 4, 2) := by decide +kernel
theorem dX9_odds_41 : decode cX9_odds 41 = .ok (.aload_n 0, 1) := by decide +kernel
theorem dX9_odds_42 : decode cX9_odds 42 = .ok (.getfield 49, 3) := by decide +kernel
theorem dX9_odds_45 : decode cX9_odds 45 = .ok (.iload 5, 2) := by decide +kernel
theorem dX9_odds_47 : decode cX9_odds 47 = .ok (.baload, 1) := by decide +kernel
theorem dX9_odds_48 : decode cX9_odds 48 = .ok (.ifCond .eq 12, 3) := by decide +kernel
theorem dX9_odds_51 : decode cX9_odds 51 = .ok (.iload 5, 2) := by decide +kernel
theorem dX9_odds_53 : decode cX9_odds 53 = .ok (.iload_n 1, 1) := by decide +kernel
theorem dX9_odds_54 : decode cX9_odds 54 = .ok (.ishr, 1) := by decide +kernel
theorem dX9_odds_55 : decode cX9_odds 55 = .ok (.iconst 1, 1) := by decide +kernel
theorem dX9_odds_56 : decode cX9_odds 56 = .ok (.iand, 1) := by decide +kernel
theorem dX9_odds_57 : decode cX9_odds 57 = .ok (.goto 4, 3) := by decide +kernel
theorem dX9_odds_60 : decode cX9_odds 60 = .ok (.iconst 0, 1) := by decide +kernel
theorem dX9_odds_61 : decode cX9_odds 61 = .ok (.iadd, 1) := by decide +kernel
theorem dX9_odds_62 : decode cX9_odds 62 = .ok (.istore 4, 2) := by decide +kernel
theorem dX9_odds_64 : decode cX9_odds 64 = .ok (.iinc 5 1, 3) := by decide +kernel
theorem dX9_odds_67 : decode cX9_odds 67 = .ok (.goto (-36), 3) := by decide +kernel
theorem dX9_odds_70 : decode cX9_odds 70 = .ok (.iload_n 3, 1) := by decide +kernel
theorem dX9_odds_71 : decode cX9_odds 71 = .ok (.ifCond .ne 9, 3) := by decide +kernel
theorem dX9_odds_74 : decode cX9_odds 74 = .ok (.ldc2_w 243, 3) := by decide +kernel
theorem dX9_odds_77 : decode cX9_odds 77 = .ok (.goto 12, 3) := by decide +kernel
theorem dX9_odds_80 : decode cX9_odds 80 = .ok (.iload 4, 2) := by decide +kernel
theorem dX9_odds_82 : decode cX9_odds 82 = .ok (.i2l, 1) := by decide +kernel
theorem dX9_odds_83 : decode cX9_odds 83 = .ok (.iload_n 3, 1) := by decide +kernel
theorem dX9_odds_84 : decode cX9_odds 84 = .ok (.i2l, 1) := by decide +kernel
theorem dX9_odds_85 : decode cX9_odds 85 = .ok (.iload_n 2, 1) := by decide +kernel
theorem dX9_odds_86 : decode cX9_odds 86 = .ok (.invokestatic 245, 3) := by decide +kernel
theorem dX9_odds_89 : decode cX9_odds 89 = .ok (.lreturn, 1) := by decide +kernel
theorem dX9_mean_0 : decode cX9_mean 0 = .ok (.iload_n 1, 1) := by decide +kernel
theorem dX9_mean_1 : decode cX9_mean 1 = .ok (.iconst 0, 1) := by decide +kernel
theorem dX9_mean_2 : decode cX9_mean 2 = .ok (.bipush 60, 2) := by decide +kernel
theorem dX9_mean_4 : decode cX9_mean 4 = .ok (.invokestatic 89, 3) := by decide +kernel
theorem dX9_mean_7 : decode cX9_mean 7 = .ok (.ifCond .eq 22, 3) := by decide +kernel
theorem dX9_mean_10 : decode cX9_mean 10 = .ok (.iload_n 2, 1) := by decide +kernel
theorem dX9_mean_11 : decode cX9_mean 11 = .ok (.iconst 0, 1) := by decide +kernel
theorem dX9_mean_12 : decode cX9_mean 12 = .ok (.iconst 1, 1) := by decide +kernel
theorem dX9_mean_13 : decode cX9_mean 13 = .ok (.invokestatic 89, 3) := by decide +kernel
theorem dX9_mean_16 : decode cX9_mean 16 = .ok (.ifCond .eq 13, 3) := by decide +kernel
theorem dX9_mean_19 : decode cX9_mean 19 = .ok (.aload_n 0, 1) := by decide +kernel
theorem dX9_mean_20 : decode cX9_mean 20 = .ok (.getfield 9, 3) := by decide +kernel
theorem dX9_mean_23 : decode cX9_mean 23 = .ok (.bipush 54, 2) := by decide +kernel
theorem dX9_mean_25 : decode cX9_mean 25 = .ok (.iaload, 1) := by decide +kernel
theorem dX9_mean_26 : decode cX9_mean 26 = .ok (.ifCond .ne 7, 3) := by decide +kernel
theorem dX9_mean_29 : decode cX9_mean 29 = .ok (.ldc2_w 243, 3) := by decide +kernel
theorem dX9_mean_32 : decode cX9_mean 32 = .ok (.lreturn, 1) := by decide +kernel
theorem dX9_mean_33 : decode cX9_mean 33 = .ok (.aload_n 0, 1) := by decide +kernel
theorem dX9_mean_34 : decode cX9_mean 34 = .ok (.iload_n 1, 1) := by decide +kernel
theorem dX9_mean_35 : decode cX9_mean 35 = .ok (.iconst 0, 1) := by decide +kernel
theorem dX9_mean_36 : decode cX9_mean 36 = .ok (.invokevirtual 249, 3) := by decide +kernel
theorem dX9_mean_39 : decode cX9_mean 39 = .ok (.i2l, 1) := by decide +kernel
theorem dX9_mean_40 : decode cX9_mean 40 = .ok (.aload_n 0, 1) := by decide +kernel
theorem dX9_mean_41 : decode cX9_mean 41 = .ok (.getfield 9, 3) := by decide +kernel
theorem dX9_mean_44 : decode cX9_mean 44 = .ok (.bipush 54, 2) := by decide +kernel
theorem dX9_mean_46 : decode cX9_mean 46 = .ok (.iaload, 1) := by decide +kernel
theorem dX9_mean_47 : decode cX9_mean 47 = .ok (.i2l, 1) := by decide +kernel
theorem dX9_mean_48 : decode cX9_mean 48 = .ok (.iload_n 2, 1) := by decide +kernel
theorem dX9_mean_49 : decode cX9_mean 49 = .ok (.invokestatic 245, 3) := by decide +kernel
theorem dX9_mean_52 : decode cX9_mean 52 = .ok (.lreturn, 1) := by decide +kernel
theorem dX9_plan_0 : decode cX9_plan 0 = .ok (.iload_n 1, 1) := by decide +kernel
theorem dX9_plan_1 : decode cX9_plan 1 = .ok (.iconst (-1), 1) := by decide +kernel
theorem dX9_plan_2 : decode cX9_plan 2 = .ok (.if_icmp .ne 13, 3) := by decide +kernel
theorem dX9_plan_5 : decode cX9_plan 5 = .ok (.aload_n 0, 1) := by decide +kernel
theorem dX9_plan_6 : decode cX9_plan 6 = .ok (.getfield 9, 3) := by decide +kernel
theorem dX9_plan_9 : decode cX9_plan 9 = .ok (.bipush 77, 2) := by decide +kernel
theorem dX9_plan_11 : decode cX9_plan 11 = .ok (.iconst 0, 1) := by decide +kernel
theorem dX9_plan_12 : decode cX9_plan 12 = .ok (.iastore, 1) := by decide +kernel
theorem dX9_plan_13 : decode cX9_plan 13 = .ok (.iconst 0, 1) := by decide +kernel
theorem dX9_plan_14 : decode cX9_plan 14 = .ok (.ireturn, 1) := by decide +kernel
theorem dX9_plan_15 : decode cX9_plan 15 = .ok (.iload_n 1, 1) := by decide +kernel
theorem dX9_plan_16 : decode cX9_plan 16 = .ok (.ifCond .eq 58, 3) := by decide +kernel
theorem dX9_plan_19 : decode cX9_plan 19 = .ok (.iload_n 1, 1) := by decide +kernel
theorem dX9_plan_20 : decode cX9_plan 20 = .ok (.iconst 1, 1) := by decide +kernel
theorem dX9_plan_21 : decode cX9_plan 21 = .ok (.if_icmp .ne 28, 3) := by decide +kernel
theorem dX9_plan_24 : decode cX9_plan 24 = .ok (.iload_n 2, 1) := by decide +kernel
theorem dX9_plan_25 : decode cX9_plan 25 = .ok (.ifCond .lt 24, 3) := by decide +kernel
theorem dX9_plan_28 : decode cX9_plan 28 = .ok (.aload_n 0, 1) := by decide +kernel
theorem dX9_plan_29 : decode cX9_plan 29 = .ok (.iload_n 2, 1) := by decide +kernel
theorem dX9_plan_30 : decode cX9_plan 30 = .ok (.bipush 10, 2) := by decide +kernel
theorem dX9_plan_32 : decode cX9_plan 32 = .ok (.idiv, 1) := by decide +kernel
theorem dX9_plan_33 : decode cX9_plan 33 = .ok (.invokevirtual 101, 3) := by decide +kernel
theorem dX9_plan_36 : decode cX9_plan 36 = .ok (.ifCond .eq 13, 3) := by decide +kernel
theorem dX9_plan_39 : decode cX9_plan 39 = .ok (.iload_n 2, 1) := by decide +kernel
theorem dX9_plan_40 : decode cX9_plan 40 = .ok (.bipush 10, 2) := by decide +kernel
theorem dX9_plan_42 : decode cX9_plan 42 = .ok (.irem, 1) := by decide +kernel
theorem dX9_plan_43 : decode cX9_plan 43 = .ok (.invokestatic 108, 3) := by decide +kernel
theorem dX9_plan_46 : decode cX9_plan 46 = .ok (.ifCond .ne 28, 3) := by decide +kernel
theorem dX9_plan_49 : decode cX9_plan 49 = .ok (.iload_n 1, 1) := by decide +kernel
theorem dX9_plan_50 : decode cX9_plan 50 = .ok (.iconst 2, 1) := by decide +kernel
theorem dX9_plan_51 : decode cX9_plan 51 = .ok (.if_icmp .ne 11, 3) := by decide +kernel
theorem dX9_plan_54 : decode cX9_plan 54 = .ok (.aload_n 0, 1) := by decide +kernel
theorem dX9_plan_55 : decode cX9_plan 55 = .ok (.iload_n 2, 1) := by decide +kernel
theorem dX9_plan_56 : decode cX9_plan 56 = .ok (.invokevirtual 101, 3) := by decide +kernel
theorem dX9_plan_59 : decode cX9_plan 59 = .ok (.ifCond .ne 15, 3) := by decide +kernel
theorem dX9_plan_62 : decode cX9_plan 62 = .ok (.iload_n 1, 1) := by decide +kernel
theorem dX9_plan_63 : decode cX9_plan 63 = .ok (.iconst 3, 1) := by decide +kernel
theorem dX9_plan_64 : decode cX9_plan 64 = .ok (.if_icmp .ne 14, 3) := by decide +kernel
theorem dX9_plan_67 : decode cX9_plan 67 = .ok (.iload_n 2, 1) := by decide +kernel
theorem dX9_plan_68 : decode cX9_plan 68 = .ok (.invokestatic 108, 3) := by decide +kernel
theorem dX9_plan_71 : decode cX9_plan 71 = .ok (.ifCond .eq 7, 3) := by decide +kernel
theorem dX9_plan_74 : decode cX9_plan 74 = .ok (.iconst 1, 1) := by decide +kernel
theorem dX9_plan_75 : decode cX9_plan 75 = .ok (.goto 4, 3) := by decide +kernel
theorem dX9_plan_78 : decode cX9_plan 78 = .ok (.iconst 0, 1) := by decide +kernel
theorem dX9_plan_79 : decode cX9_plan 79 = .ok (.istore_n 3, 1) := by decide +kernel
theorem dX9_plan_80 : decode cX9_plan 80 = .ok (.iload_n 3, 1) := by decide +kernel
theorem dX9_plan_81 : decode cX9_plan 81 = .ok (.ifCond .ne 5, 3) := by decide +kernel
theorem dX9_plan_84 : decode cX9_plan 84 = .ok (.iconst (-1), 1) := by decide +kernel
theorem dX9_plan_85 : decode cX9_plan 85 = .ok (.ireturn, 1) := by decide +kernel
theorem dX9_plan_86 : decode cX9_plan 86 = .ok (.aload_n 0, 1) := by decide +kernel
theorem dX9_plan_87 : decode cX9_plan 87 = .ok (.getfield 9, 3) := by decide +kernel
theorem dX9_plan_90 : decode cX9_plan 90 = .ok (.bipush 77, 2) := by decide +kernel
theorem dX9_plan_92 : decode cX9_plan 92 = .ok (.iaload, 1) := by decide +kernel
theorem dX9_plan_93 : decode cX9_plan 93 = .ok (.bipush 10, 2) := by decide +kernel
theorem dX9_plan_95 : decode cX9_plan 95 = .ok (.if_icmp .ne 6, 3) := by decide +kernel
theorem dX9_plan_98 : decode cX9_plan 98 = .ok (.bipush (-4), 2) := by decide +kernel
theorem dX9_plan_100 : decode cX9_plan 100 = .ok (.ireturn, 1) := by decide +kernel
theorem dX9_plan_101 : decode cX9_plan 101 = .ok (.aload_n 0, 1) := by decide +kernel
theorem dX9_plan_102 : decode cX9_plan 102 = .ok (.getfield 9, 3) := by decide +kernel
theorem dX9_plan_105 : decode cX9_plan 105 = .ok (.bipush 78, 2) := by decide +kernel
theorem dX9_plan_107 : decode cX9_plan 107 = .ok (.iconst 2, 1) := by decide +kernel
theorem dX9_plan_108 : decode cX9_plan 108 = .ok (.aload_n 0, 1) := by decide +kernel
theorem dX9_plan_109 : decode cX9_plan 109 = .ok (.getfield 9, 3) := by decide +kernel
theorem dX9_plan_112 : decode cX9_plan 112 = .ok (.bipush 77, 2) := by decide +kernel
theorem dX9_plan_114 : decode cX9_plan 114 = .ok (.iaload, 1) := by decide +kernel
theorem dX9_plan_115 : decode cX9_plan 115 = .ok (.imul, 1) := by decide +kernel
theorem dX9_plan_116 : decode cX9_plan 116 = .ok (.iadd, 1) := by decide +kernel
theorem dX9_plan_117 : decode cX9_plan 117 = .ok (.iload_n 1, 1) := by decide +kernel
theorem dX9_plan_118 : decode cX9_plan 118 = .ok (.iastore, 1) := by decide +kernel
theorem dX9_plan_119 : decode cX9_plan 119 = .ok (.aload_n 0, 1) := by decide +kernel
theorem dX9_plan_120 : decode cX9_plan 120 = .ok (.getfield 9, 3) := by decide +kernel
theorem dX9_plan_123 : decode cX9_plan 123 = .ok (.bipush 79, 2) := by decide +kernel
theorem dX9_plan_125 : decode cX9_plan 125 = .ok (.iconst 2, 1) := by decide +kernel
theorem dX9_plan_126 : decode cX9_plan 126 = .ok (.aload_n 0, 1) := by decide +kernel
theorem dX9_plan_127 : decode cX9_plan 127 = .ok (.getfield 9, 3) := by decide +kernel
theorem dX9_plan_130 : decode cX9_plan 130 = .ok (.bipush 77, 2) := by decide +kernel
theorem dX9_plan_132 : decode cX9_plan 132 = .ok (.iaload, 1) := by decide +kernel
theorem dX9_plan_133 : decode cX9_plan 133 = .ok (.imul, 1) := by decide +kernel
theorem dX9_plan_134 : decode cX9_plan 134 = .ok (.iadd, 1) := by decide +kernel
theorem dX9_plan_135 : decode cX9_plan 135 = .ok (.iload_n 2, 1) := by decide +kernel
theorem dX9_plan_136 : decode cX9_plan 136 = .ok (.iastore, 1) := by decide +kernel
theorem dX9_plan_137 : decode cX9_plan 137 = .ok (.aload_n 0, 1) := by decide +kernel
theorem dX9_plan_138 : decode cX9_plan 138 = .ok (.getfield 9, 3) := by decide +kernel
theorem dX9_plan_141 : decode cX9_plan 141 = .ok (.bipush 77, 2) := by decide +kernel
theorem dX9_plan_143 : decode cX9_plan 143 = .ok (.dup2, 1) := by decide +kernel
theorem dX9_plan_144 : decode cX9_plan 144 = .ok (.iaload, 1) := by decide +kernel
theorem dX9_plan_145 : decode cX9_plan 145 = .ok (.iconst 1, 1) := by decide +kernel
theorem dX9_plan_146 : decode cX9_plan 146 = .ok (.iadd, 1) := by decide +kernel
theorem dX9_plan_147 : decode cX9_plan 147 = .ok (.iastore, 1) := by decide +kernel
theorem dX9_plan_148 : decode cX9_plan 148 = .ok (.aload_n 0, 1) := by decide +kernel
theorem dX9_plan_149 : decode cX9_plan 149 = .ok (.getfield 9, 3) := by decide +kernel
theorem dX9_plan_152 : decode cX9_plan 152 = .ok (.bipush 77, 2) := by decide +kernel
theorem dX9_plan_154 : decode cX9_plan 154 = .ok (.iaload, 1) := by decide +kernel
theorem dX9_plan_155 : decode cX9_plan 155 = .ok (.ireturn, 1) := by decide +kernel
theorem dX9_ends_0 : decode cX9_ends 0 = .ok (.iload_n 1, 1) := by decide +kernel
theorem dX9_ends_1 : decode cX9_ends 1 = .ok (.iconst 0, 1) := by decide +kernel
theorem dX9_ends_2 : decode cX9_ends 2 = .ok (.iconst 1, 1) := by decide +kernel
theorem dX9_ends_3 : decode cX9_ends 3 = .ok (.invokestatic 89, 3) := by decide +kernel
theorem dX9_ends_6 : decode cX9_ends 6 = .ok (.ifCond .ne 5, 3) := by decide +kernel
theorem dX9_ends_9 : decode cX9_ends 9 = .ok (.iconst (-1), 1) := by decide +kernel
theorem dX9_ends_10 : decode cX9_ends 10 = .ok (.ireturn, 1) := by decide +kernel
theorem dX9_ends_11 : decode cX9_ends 11 = .ok (.aload_n 0, 1) := by decide +kernel
theorem dX9_ends_12 : decode cX9_ends 12 = .ok (.getfield 9, 3) := by decide +kernel
theorem dX9_ends_15 : decode cX9_ends 15 = .ok (.aload_n 0, 1) := by decide +kernel
theorem dX9_ends_16 : decode cX9_ends 16 = .ok (.getfield 15, 3) := by decide +kernel
theorem dX9_ends_19 : decode cX9_ends 19 = .ok (.invokestatic 85, 3) := by decide +kernel
theorem dX9_ends_22 : decode cX9_ends 22 = .ok (.iconst 0, 1) := by decide +kernel
theorem dX9_ends_23 : decode cX9_ends 23 = .ok (.istore_n 2, 1) := by decide +kernel
theorem dX9_ends_24 : decode cX9_ends 24 = .ok (.iload_n 2, 1) := by decide +kernel
theorem dX9_ends_25 : decode cX9_ends 25 = .ok (.aload_n 0, 1) := by decide +kernel
theorem dX9_ends_26 : decode cX9_ends 26 = .ok (.getfield 9, 3) := by decide +kernel
theorem dX9_ends_29 : decode cX9_ends 29 = .ok (.bipush 77, 2) := by decide +kernel
theorem dX9_ends_31 : decode cX9_ends 31 = .ok (.iaload, 1) := by decide +kernel
theorem dX9_ends_32 : decode cX9_ends 32 = .ok (.if_icmp .ge 93, 3) := by decide +kernel
theorem dX9_ends_35 : decode cX9_ends 35 = .ok (.aload_n 0, 1) := by decide +kernel
theorem dX9_ends_36 : decode cX9_ends 36 = .ok (.getfield 9, 3) := by decide +kernel
theorem dX9_ends_39 : decode cX9_ends 39 = .ok (.bipush 78, 2) := by decide +kernel
theorem dX9_ends_41 : decode cX9_ends 41 = .ok (.iconst 2, 1) := by decide +kernel
theorem dX9_ends_42 : decode cX9_ends 42 = .ok (.iload_n 2, 1) := by decide +kernel
theorem dX9_ends_43 : decode cX9_ends 43 = .ok (.imul, 1) := by decide +kernel
theorem dX9_ends_44 : decode cX9_ends 44 = .ok (.iadd, 1) := by decide +kernel
theorem dX9_ends_45 : decode cX9_ends 45 = .ok (.iaload, 1) := by decide +kernel
theorem dX9_ends_46 : decode cX9_ends 46 = .ok (.istore_n 3, 1) := by decide +kernel
theorem dX9_ends_47 : decode cX9_ends 47 = .ok (.aload_n 0, 1) := by decide +kernel
theorem dX9_ends_48 : decode cX9_ends 48 = .ok (.getfield 9, 3) := by decide +kernel
theorem dX9_ends_51 : decode cX9_ends 51 = .ok (.bipush 79, 2) := by decide +kernel
theorem dX9_ends_53 : decode cX9_ends 53 = .ok (.iconst 2, 1) := by decide +kernel
theorem dX9_ends_54 : decode cX9_ends 54 = .ok (.iload_n 2, 1) := by decide +kernel
theorem dX9_ends_55 : decode cX9_ends 55 = .ok (.imul, 1) := by decide +kernel
theorem dX9_ends_56 : decode cX9_ends 56 = .ok (.iadd, 1) := by decide +kernel
theorem dX9_ends_57 : decode cX9_ends 57 = .ok (.iaload, 1) := by decide +kernel
theorem dX9_ends_58 : decode cX9_ends 58 = .ok (.istore 4, 2) := by decide +kernel
theorem dX9_ends_60 : decode cX9_ends 60 = .ok (.iload_n 3, 1) := by decide +kernel
theorem dX9_ends_61 : decode cX9_ends 61 = .ok (.ifCond .ne 10, 3) := by decide +kernel
theorem dX9_ends_64 : decode cX9_ends 64 = .ok (.aload_n 0, 1) := by decide +kernel
theorem dX9_ends_65 : decode cX9_ends 65 = .ok (.invokevirtual 199, 3) := by decide +kernel
theorem dX9_ends_68 : decode cX9_ends 68 = .ok (.goto 51, 3) := by decide +kernel
theorem dX9_ends_71 : decode cX9_ends 71 = .ok (.iload_n 3, 1) := by decide +kernel
theorem dX9_ends_72 : decode cX9_ends 72 = .ok (.iconst 1, 1) := by decide +kernel
theorem dX9_ends_73 : decode cX9_ends 73 = .ok (.if_icmp .ne 15, 3) := by decide +kernel
theorem dX9_ends_76 : decode cX9_ends 76 = .ok (.aload_n 0, 1) := by decide +kernel
theorem dX9_ends_77 : decode cX9_ends 77 = .ok (.iload 4, 2) := by decide +kernel
theorem dX9_ends_79 : decode cX9_ends 79 = .ok (.bipush 10, 2) := by decide +kernel
theorem dX9_ends_81 : decode cX9_ends 81 = .ok (.idiv, 1) := by decide +kernel
theorem dX9_ends_82 : decode cX9_ends 82 = .ok (.invokevirtual 128, 3) := by decide +kernel
theorem dX9_ends_85 : decode cX9_ends 85 = .ok (.goto 34, 3) := by decide +kernel
theorem dX9_ends_88 : decode cX9_ends 88 = .ok (.iload_n 3, 1) := by decide +kernel
theorem dX9_ends_89 : decode cX9_ends 89 = .ok (.iconst 2, 1) := by decide +kernel
theorem dX9_ends_90 : decode cX9_ends 90 = .ok (.if_icmp .ne 15, 3) := by decide +kernel
theorem dX9_ends_93 : decode cX9_ends 93 = .ok (.aload_n 0, 1) := by decide +kernel
theorem dX9_ends_94 : decode cX9_ends 94 = .ok (.iload 4, 2) := by decide +kernel
theorem dX9_ends_96 : decode cX9_ends 96 = .ok (.iconst 2, 1) := by decide +kernel
theorem dX9_ends_97 : decode cX9_ends 97 = .ok (.iconst 0, 1) := by decide +kernel
theorem dX9_ends_98 : decode cX9_ends 98 = .ok (.invokevirtual 97, 3) := by decide +kernel
theorem dX9_ends_101 : decode cX9_ends 101 = .ok (.pop, 1) := by decide +kernel
theorem dX9_ends_102 : decode cX9_ends 102 = .ok (.goto 17, 3) := by decide +kernel
theorem dX9_ends_105 : decode cX9_ends 105 = .ok (.aload_n 0, 1) := by decide +kernel
theorem dX9_ends_106 : decode cX9_ends 106 = .ok (.getfield 9, 3) := by decide +kernel
theorem dX9_ends_109 : decode cX9_ends 109 = .ok (.bipush 55, 2) := by decide +kernel
theorem dX9_ends_111 : decode cX9_ends 111 = .ok (.dup2, 1) := by decide +kernel
theorem dX9_ends_112 : decode cX9_ends 112 = .ok (.iaload, 1) := by decide +kernel
theorem dX9_ends_113 : decode cX9_ends 113 = .ok (.iconst 1, 1) := by decide +kernel
theorem dX9_ends_114 : decode cX9_ends 114 = .ok (.iload 4, 2) := by decide +kernel
theorem dX9_ends_116 : decode cX9_ends 116 = .ok (.ishl, 1) := by decide +kernel
theorem dX9_ends_117 : decode cX9_ends 117 = .ok (.ixor, 1) := by decide +kernel
theorem dX9_ends_118 : decode cX9_ends 118 = .ok (.iastore, 1) := by decide +kernel
theorem dX9_ends_119 : decode cX9_ends 119 = .ok (.iinc 2 1, 3) := by decide +kernel
theorem dX9_ends_122 : decode cX9_ends 122 = .ok (.goto (-98), 3) := by decide +kernel
theorem dX9_ends_125 : decode cX9_ends 125 = .ok (.iload_n 1, 1) := by decide +kernel
theorem dX9_ends_126 : decode cX9_ends 126 = .ok (.ifCond .ne 11, 3) := by decide +kernel
theorem dX9_ends_129 : decode cX9_ends 129 = .ok (.aload_n 0, 1) := by decide +kernel
theorem dX9_ends_130 : decode cX9_ends 130 = .ok (.iconst 2, 1) := by decide +kernel
theorem dX9_ends_131 : decode cX9_ends 131 = .ok (.invokevirtual 225, 3) := by decide +kernel
theorem dX9_ends_134 : decode cX9_ends 134 = .ok (.goto 8, 3) := by decide +kernel
theorem dX9_ends_137 : decode cX9_ends 137 = .ok (.aload_n 0, 1) := by decide +kernel
theorem dX9_ends_138 : decode cX9_ends 138 = .ok (.iconst 4, 1) := by decide +kernel
theorem dX9_ends_139 : decode cX9_ends 139 = .ok (.invokevirtual 225, 3) := by decide +kernel
theorem dX9_ends_142 : decode cX9_ends 142 = .ok (.istore_n 2, 1) := by decide +kernel
theorem dX9_ends_143 : decode cX9_ends 143 = .ok (.aload_n 0, 1) := by decide +kernel
theorem dX9_ends_144 : decode cX9_ends 144 = .ok (.getfield 15, 3) := by decide +kernel
theorem dX9_ends_147 : decode cX9_ends 147 = .ok (.aload_n 0, 1) := by decide +kernel
theorem dX9_ends_148 : decode cX9_ends 148 = .ok (.getfield 9, 3) := by decide +kernel
theorem dX9_ends_151 : decode cX9_ends 151 = .ok (.invokestatic 85, 3) := by decide +kernel
theorem dX9_ends_154 : decode cX9_ends 154 = .ok (.iload_n 2, 1) := by decide +kernel
theorem dX9_ends_155 : decode cX9_ends 155 = .ok (.ireturn, 1) := by decide +kernel
theorem dX9_book_0 : decode cX9_book 0 = .ok (.iload_n 1, 1) := by decide +kernel
theorem dX9_book_1 : decode cX9_book 1 = .ok (.iconst (-1), 1) := by decide +kernel
theorem dX9_book_2 : decode cX9_book 2 = .ok (.if_icmp .ne 13, 3) := by decide +kernel
theorem dX9_book_5 : decode cX9_book 5 = .ok (.aload_n 0, 1) := by decide +kernel
theorem dX9_book_6 : decode cX9_book 6 = .ok (.getfield 9, 3) := by decide +kernel
theorem dX9_book_9 : decode cX9_book 9 = .ok (.bipush 98, 2) := by decide +kernel
theorem dX9_book_11 : decode cX9_book 11 = .ok (.iconst 0, 1) := by decide +kernel
theorem dX9_book_12 : decode cX9_book 12 = .ok (.iastore, 1) := by decide +kernel
theorem dX9_book_13 : decode cX9_book 13 = .ok (.iconst 0, 1) := by decide +kernel
theorem dX9_book_14 : decode cX9_book 14 = .ok (.ireturn, 1) := by decide +kernel
theorem dX9_book_15 : decode cX9_book 15 = .ok (.aload_n 0, 1) := by decide +kernel
theorem dX9_book_16 : decode cX9_book 16 = .ok (.iload_n 1, 1) := by decide +kernel
theorem dX9_book_17 : decode cX9_book 17 = .ok (.invokevirtual 101, 3) := by decide +kernel
theorem dX9_book_20 : decode cX9_book 20 = .ok (.ifCond .ne 5, 3) := by decide +kernel
theorem dX9_book_23 : decode cX9_book 23 = .ok (.iconst (-1), 1) := by decide +kernel
theorem dX9_book_24 : decode cX9_book 24 = .ok (.ireturn, 1) := by decide +kernel
theorem dX9_book_25 : decode cX9_book 25 = .ok (.iload_n 2, 1) := by decide +kernel
theorem dX9_book_26 : decode cX9_book 26 = .ok (.iconst 0, 1) := by decide +kernel
theorem dX9_book_27 : decode cX9_book 27 = .ok (.bipush 9, 2) := by decide +kernel
theorem dX9_book_29 : decode cX9_book 29 = .ok (.invokestatic 89, 3) := by decide +kernel
theorem dX9_book_32 : decode cX9_book 32 = .ok (.ifCond .ne 6, 3) := by decide +kernel
theorem dX9_book_35 : decode cX9_book 35 = .ok (.bipush (-2), 2) := by decide +kernel
theorem dX9_book_37 : decode cX9_book 37 = .ok (.ireturn, 1) := by decide +kernel
theorem dX9_book_38 : decode cX9_book 38 = .ok (.aload_n 0, 1) := by decide +kernel
theorem dX9_book_39 : decode cX9_book 39 = .ok (.getfield 9, 3) := by decide +kernel
theorem dX9_book_42 : decode cX9_book 42 = .ok (.bipush 98, 2) := by decide +kernel
theorem dX9_book_44 : decode cX9_book 44 = .ok (.iaload, 1) := by decide +kernel
theorem dX9_book_45 : decode cX9_book 45 = .ok (.bipush 8, 2) := by decide +kernel
theorem dX9_book_47 : decode cX9_book 47 = .ok (.if_icmp .ne 6, 3) := by decide +kernel
theorem dX9_book_50 : decode cX9_book 50 = .ok (.bipush (-4), 2) := by decide +kernel
theorem dX9_book_52 : decode cX9_book 52 = .ok (.ireturn, 1) := by decide +kernel
theorem dX9_book_53 : decode cX9_book 53 = .ok (.aload_n 0, 1) := by decide +kernel
theorem dX9_book_54 : decode cX9_book 54 = .ok (.getfield 9, 3) := by decide +kernel
theorem dX9_book_57 : decode cX9_book 57 = .ok (.bipush 99, 2) := by decide +kernel
theorem dX9_book_59 : decode cX9_book 59 = .ok (.iconst 2, 1) := by decide +kernel
theorem dX9_book_60 : decode cX9_book 60 = .ok (.aload_n 0, 1) := by decide +kernel
theorem dX9_book_61 : decode cX9_book 61 = .ok (.getfield 9, 3) := by decide +kernel
theorem dX9_book_64 : decode cX9_book 64 = .ok (.bipush 98, 2) := by decide +kernel
theorem dX9_book_66 : decode cX9_book 66 = .ok (.iaload, 1) := by decide +kernel
theorem dX9_book_67 : decode cX9_book 67 = .ok (.imul, 1) := by decide +kernel
theorem dX9_book_68 : decode cX9_book 68 = .ok (.iadd, 1) := by decide +kernel
theorem dX9_book_69 : decode cX9_book 69 = .ok (.iload_n 1, 1) := by decide +kernel
theorem dX9_book_70 : decode cX9_book 70 = .ok (.iastore, 1) := by decide +kernel
theorem dX9_book_71 : decode cX9_book 71 = .ok (.aload_n 0, 1) := by decide +kernel
theorem dX9_book_72 : decode cX9_book 72 = .ok (.getfield 9, 3) := by decide +kernel
theorem dX9_book_75 : decode cX9_book 75 = .ok (.bipush 100, 2) := by decide +kernel
theorem dX9_book_77 : decode cX9_book 77 = .ok (.iconst 2, 1) := by decide +kernel
theorem dX9_book_78 : decode cX9_book 78 = .ok (.aload_n 0, 1) := by decide +kernel
theorem dX9_book_79 : decode cX9_book 79 = .ok (.getfield 9, 3) := by decide +kernel
theorem dX9_book_82 : decode cX9_book 82 = .ok (.bipush 98, 2) := by decide +kernel
theorem dX9_book_84 : decode cX9_book 84 = .ok (.iaload, 1) := by decide +kernel
theorem dX9_book_85 : decode cX9_book 85 = .ok (.imul, 1) := by decide +kernel
theorem dX9_book_86 : decode cX9_book 86 = .ok (.iadd, 1) := by decide +kernel
theorem dX9_book_87 : decode cX9_book 87 = .ok (.iload_n 2, 1) := by decide +kernel
theorem dX9_book_88 : decode cX9_book 88 = .ok (.iastore, 1) := by decide +kernel
theorem dX9_book_89 : decode cX9_book 89 = .ok (.aload_n 0, 1) := by decide +kernel
theorem dX9_book_90 : decode cX9_book 90 = .ok (.getfield 9, 3) := by decide +kernel
theorem dX9_book_93 : decode cX9_book 93 = .ok (.bipush 98, 2) := by decide +kernel
theorem dX9_book_95 : decode cX9_book 95 = .ok (.dup2, 1) := by decide +kernel
theorem dX9_book_96 : decode cX9_book 96 = .ok (.iaload, 1) := by decide +kernel
theorem dX9_book_97 : decode cX9_book 97 = .ok (.iconst 1, 1) := by decide +kernel
theorem dX9_book_98 : decode cX9_book 98 = .ok (.iadd, 1) := by decide +kernel
theorem dX9_book_99 : decode cX9_book 99 = .ok (.iastore, 1) := by decide +kernel
theorem dX9_book_100 : decode cX9_book 100 = .ok (.aload_n 0, 1) := by decide +kernel
theorem dX9_book_101 : decode cX9_book 101 = .ok (.getfield 9, 3) := by decide +kernel
theorem dX9_book_104 : decode cX9_book 104 = .ok (.bipush 98, 2) := by decide +kernel
theorem dX9_book_106 : decode cX9_book 106 = .ok (.iaload, 1) := by decide +kernel
theorem dX9_book_107 : decode cX9_book 107 = .ok (.ireturn, 1) := by decide +kernel
theorem dX9_looked_0 : decode cX9_looked 0 = .ok (.iconst 0, 1) := by decide +kernel
theorem dX9_looked_1 : decode cX9_looked 1 = .ok (.istore_n 1, 1) := by decide +kernel
theorem dX9_looked_2 : decode cX9_looked 2 = .ok (.iload_n 1, 1) := by decide +kernel
theorem dX9_looked_3 : decode cX9_looked 3 = .ok (.aload_n 0, 1) := by decide +kernel
theorem dX9_looked_4 : decode cX9_looked 4 = .ok (.getfield 9, 3) := by decide +kernel
theorem dX9_looked_7 : decode cX9_looked 7 = .ok (.bipush 98, 2) := by decide +kernel
theorem dX9_looked_9 : decode cX9_looked 9 = .ok (.iaload, 1) := by decide +kernel
theorem dX9_looked_10 : decode cX9_looked 10 = .ok (.if_icmp .ge 41, 3) := by decide +kernel
theorem dX9_looked_13 : decode cX9_looked 13 = .ok (.aload_n 0, 1) := by decide +kernel
theorem dX9_looked_14 : decode cX9_looked 14 = .ok (.aload_n 0, 1) := by decide +kernel
theorem dX9_looked_15 : decode cX9_looked 15 = .ok (.getfield 9, 3) := by decide +kernel
theorem dX9_looked_18 : decode cX9_looked 18 = .ok (.bipush 99, 2) := by decide +kernel
theorem dX9_looked_20 : decode cX9_looked 20 = .ok (.iconst 2, 1) := by decide +kernel
theorem dX9_looked_21 : decode cX9_looked 21 = .ok (.iload_n 1, 1) := by decide +kernel
theorem dX9_looked_22 : decode cX9_looked 22 = .ok (.imul, 1) := by decide +kernel
theorem dX9_looked_23 : decode cX9_looked 23 = .ok (.iadd, 1) := by decide +kernel
theorem dX9_looked_24 : decode cX9_looked 24 = .ok (.iaload, 1) := by decide +kernel
theorem dX9_looked_25 : decode cX9_looked 25 = .ok (.iconst 2, 1) := by decide +kernel
theorem dX9_looked_26 : decode cX9_looked 26 = .ok (.invokevirtual 93, 3) := by decide +kernel
theorem dX9_looked_29 : decode cX9_looked 29 = .ok (.aload_n 0, 1) := by decide +kernel
theorem dX9_looked_30 : decode cX9_looked 30 = .ok (.getfield 9, 3) := by decide +kernel
theorem dX9_looked_33 : decode cX9_looked 33 = .ok (.bipush 100, 2) := by decide +kernel
theorem dX9_looked_35 : decode cX9_looked 35 = .ok (.iconst 2, 1) := by decide +kernel
theorem dX9_looked_36 : decode cX9_looked 36 = .ok (.iload_n 1, 1) := by decide +kernel
theorem dX9_looked_37 : decode cX9_looked 37 = .ok (.imul, 1) := by decide +kernel
theorem dX9_looked_38 : decode cX9_looked 38 = .ok (.iadd, 1) := by decide +kernel
theorem dX9_looked_39 : decode cX9_looked 39 = .ok (.iaload, 1) := by decide +kernel
theorem dX9_looked_40 : decode cX9_looked 40 = .ok (.if_icmp .eq 5, 3) := by decide +kernel
theorem dX9_looked_43 : decode cX9_looked 43 = .ok (.iload_n 1, 1) := by decide +kernel
theorem dX9_looked_44 : decode cX9_looked 44 = .ok (.ireturn, 1) := by decide +kernel
theorem dX9_looked_45 : decode cX9_looked 45 = .ok (.iinc 1 1, 3) := by decide +kernel
theorem dX9_looked_48 : decode cX9_looked 48 = .ok (.goto (-46), 3) := by decide +kernel
theorem dX9_looked_51 : decode cX9_looked 51 = .ok (.bipush (-5), 2) := by decide +kernel
theorem dX9_looked_53 : decode cX9_looked 53 = .ok (.ireturn, 1) := by decide +kernel
theorem dX9_body_0 : decode cX9_body 0 = .ok (.aload_n 0, 1) := by decide +kernel
theorem dX9_body_1 : decode cX9_body 1 = .ok (.getfield 252, 3) := by decide +kernel
theorem dX9_body_4 : decode cX9_body 4 = .ok (.bipush 20, 2) := by decide +kernel
theorem dX9_body_6 : decode cX9_body 6 = .ok (.if_icmp .ge 13, 3) := by decide +kernel
theorem dX9_body_9 : decode cX9_body 9 = .ok (.aload_n 0, 1) := by decide +kernel
theorem dX9_body_10 : decode cX9_body 10 = .ok (.getfield 65, 3) := by decide +kernel
theorem dX9_body_13 : decode cX9_body 13 = .ok (.aload_n 0, 1) := by decide +kernel
theorem dX9_body_14 : decode cX9_body 14 = .ok (.getfield 252, 3) := by decide +kernel
theorem dX9_body_17 : decode cX9_body 17 = .ok (.iload_n 1, 1) := by decide +kernel
theorem dX9_body_18 : decode cX9_body 18 = .ok (.iastore, 1) := by decide +kernel
theorem dX9_body_19 : decode cX9_body 19 = .ok (.aload_n 0, 1) := by decide +kernel
theorem dX9_body_20 : decode cX9_body 20 = .ok (.dup, 1) := by decide +kernel
theorem dX9_body_21 : decode cX9_body 21 = .ok (.getfield 252, 3) := by decide +kernel
theorem dX9_body_24 : decode cX9_body 24 = .ok (.iconst 1, 1) := by decide +kernel
theorem dX9_body_25 : decode cX9_body 25 = .ok (.iadd, 1) := by decide +kernel
theorem dX9_body_26 : decode cX9_body 26 = .ok (.putfield 252, 3) := by decide +kernel
theorem dX9_body_29 : decode cX9_body 29 = .ok (.iload_n 1, 1) := by decide +kernel
theorem dX9_body_30 : decode cX9_body 30 = .ok (.ireturn, 1) := by decide +kernel
theorem dX9_begin_0 : decode cX9_begin 0 = .ok (.aload_n 0, 1) := by decide +kernel
theorem dX9_begin_1 : decode cX9_begin 1 = .ok (.aload_n 0, 1) := by decide +kernel
theorem dX9_begin_2 : decode cX9_begin 2 = .ok (.iload_n 1, 1) := by decide +kernel
theorem dX9_begin_3 : decode cX9_begin 3 = .ok (.iconst 0, 1) := by decide +kernel
theorem dX9_begin_4 : decode cX9_begin 4 = .ok (.invokevirtual 93, 3) := by decide +kernel
theorem dX9_begin_7 : decode cX9_begin 7 = .ok (.iload_n 1, 1) := by decide +kernel
theorem dX9_begin_8 : decode cX9_begin 8 = .ok (.iload_n 2, 1) := by decide +kernel
theorem dX9_begin_9 : decode cX9_begin 9 = .ok (.iload_n 3, 1) := by decide +kernel
theorem dX9_begin_10 : decode cX9_begin 10 = .ok (.invokevirtual 255, 3) := by decide +kernel
theorem dX9_begin_13 : decode cX9_begin 13 = .ok (.ireturn, 1) := by decide +kernel
theorem dX9_byKind_0 : decode cX9_byKind 0 = .ok (.iload_n 1, 1) := by decide +kernel
theorem dX9_byKind_1 : decode cX9_byKind 1 = .ok (.istore 5, 2) := by decide +kernel
theorem dX9_byKind_3 : decode cX9_byKind 3 = .ok (.aload_n 0, 1) := by decide +kernel
theorem dX9_byKind_4 : decode cX9_byKind 4 = .ok (.getfield 62, 3) := by decide +kernel
theorem dX9_byKind_7 : decode cX9_byKind 7 = .ok (.iconst 3, 1) := by decide +kernel
theorem dX9_byKind_8 : decode cX9_byKind 8 = .ok (.iload 5, 2) := by decide +kernel
theorem dX9_byKind_10 : decode cX9_byKind 10 = .ok (.imul, 1) := by decide +kernel
theorem dX9_byKind_11 : decode cX9_byKind 11 = .ok (.iload_n 3, 1) := by decide +kernel
theorem dX9_byKind_12 : decode cX9_byKind 12 = .ok (.iadd, 1) := by decide +kernel
theorem dX9_byKind_13 : decode cX9_byKind 13 = .ok (.iaload, 1) := by decide +kernel
theorem dX9_byKind_14 : decode cX9_byKind 14 = .ok (.ifCond .ne 15, 3) := by decide +kernel
theorem dX9_byKind_17 : decode cX9_byKind 17 = .ok (.aload_n 0, 1) := by decide +kernel
theorem dX9_byKind_18 : decode cX9_byKind 18 = .ok (.getfield 59, 3) := by decide +kernel
theorem dX9_byKind_21 : decode cX9_byKind 21 = .ok (.iload 5, 2) := by decide +kernel
theorem dX9_byKind_23 : decode cX9_byKind 23 = .ok (.iaload, 1) := by decide +kernel
theorem dX9_byKind_24 : decode cX9_byKind 24 = .ok (.istore 5, 2) := by decide +kernel
theorem dX9_byKind_26 : decode cX9_byKind 26 = .ok (.goto (-23), 3) := by decide +kernel
theorem dX9_byKind_29 : decode cX9_byKind 29 = .ok (.aload_n 0, 1) := by decide +kernel
theorem dX9_byKind_30 : decode cX9_byKind 30 = .ok (.getfield 59, 3) := by decide +kernel
theorem dX9_byKind_33 : decode cX9_byKind 33 = .ok (.iload 5, 2) := by decide +kernel
theorem dX9_byKind_35 : decode cX9_byKind 35 = .ok (.iaload, 1) := by decide +kernel
theorem dX9_byKind_36 : decode cX9_byKind 36 = .ok (.istore 6, 2) := by decide +kernel
theorem dX9_byKind_38 : decode cX9_byKind 38 = .ok (.aload_n 0, 1) := by decide +kernel
theorem dX9_byKind_39 : decode cX9_byKind 39 = .ok (.aload_n 0, 1) := by decide +kernel
theorem dX9_byKind_40 : decode cX9_byKind 40 = .ok (.getfield 62, 3) := by decide +kernel
theorem dX9_byKind_43 : decode cX9_byKind 43 = .ok (.iconst 3, 1) := by decide +kernel
theorem dX9_byKind_44 : decode cX9_byKind 44 = .ok (.iload 5, 2) := by decide +kernel
theorem dX9_byKind_46 : decode cX9_byKind 46 = .ok (.imul, 1) := by decide +kernel
theorem dX9_byKind_47 : decode cX9_byKind 47 = .ok (.iload_n 3, 1) := by decide +kernel
theorem dX9_byKind_48 : decode cX9_byKind 48 = .ok (.iadd, 1) := by decide +kernel
theorem dX9_byKind_49 : decode cX9_byKind 49 = .ok (.iaload, 1) := by decide +kernel
theorem dX9_byKind_50 : decode cX9_byKind 50 = .ok (.invokevirtual 259, 3) := by decide +kernel
theorem dX9_byKind_53 : decode cX9_byKind 53 = .ok (.lookupswitch 228 #[(10, 91), (11, 96), (12, 112), (20, 123), (30, 137), (40, 150), (50, 169), (51, 181), (60, 194), (70, 207)], 91) := by decide +kernel
theorem dX9_byKind_144 : decode cX9_byKind 144 = .ok (.iload 4, 2) := by decide +kernel
theorem dX9_byKind_146 : decode cX9_byKind 146 = .ok (.iload_n 2, 1) := by decide +kernel
theorem dX9_byKind_147 : decode cX9_byKind 147 = .ok (.iadd, 1) := by decide +kernel
theorem dX9_byKind_148 : decode cX9_byKind 148 = .ok (.ireturn, 1) := by decide +kernel
theorem dX9_byKind_149 : decode cX9_byKind 149 = .ok (.aload_n 0, 1) := by decide +kernel
theorem dX9_byKind_150 : decode cX9_byKind 150 = .ok (.iload_n 2, 1) := by decide +kernel
theorem dX9_byKind_151 : decode cX9_byKind 151 = .ok (.iconst 0, 1) := by decide +kernel
theorem dX9_byKind_152 : decode cX9_byKind 152 = .ok (.iload 4, 2) := by decide +kernel
theorem dX9_byKind_154 : decode cX9_byKind 154 = .ok (.invokevirtual 262, 3) := by decide +kernel
theorem dX9_byKind_157 : decode cX9_byKind 157 = .ok (.aload_n 0, 1) := by decide +kernel
theorem dX9_byKind_158 : decode cX9_byKind 158 = .ok (.iload_n 2, 1) := by decide +kernel
theorem dX9_byKind_159 : decode cX9_byKind 159 = .ok (.iconst 1, 1) := by decide +kernel
theorem dX9_byKind_160 : decode cX9_byKind 160 = .ok (.invokevirtual 93, 3) := by decide +kernel
theorem dX9_byKind_163 : decode cX9_byKind 163 = .ok (.isub, 1) := by decide +kernel
theorem dX9_byKind_164 : decode cX9_byKind 164 = .ok (.ireturn, 1) := by decide +kernel
theorem dX9_byKind_165 : decode cX9_byKind 165 = .ok (.aload_n 0, 1) := by decide +kernel
theorem dX9_byKind_166 : decode cX9_byKind 166 = .ok (.iload_n 2, 1) := by decide +kernel
theorem dX9_byKind_167 : decode cX9_byKind 167 = .ok (.iconst 1, 1) := by decide +kernel
theorem dX9_byKind_168 : decode cX9_byKind 168 = .ok (.iload 4, 2) := by decide +kernel
theorem dX9_byKind_170 : decode cX9_byKind 170 = .ok (.invokevirtual 262, 3) := by decide +kernel
theorem dX9_byKind_173 : decode cX9_byKind 173 = .ok (.iconst 2, 1) := by decide +kernel
theorem dX9_byKind_174 : decode cX9_byKind 174 = .ok (.imul, 1) := by decide +kernel
theorem dX9_byKind_175 : decode cX9_byKind 175 = .ok (.ireturn, 1) := by decide +kernel
theorem dX9_byKind_176 : decode cX9_byKind 176 = .ok (.aload_n 0, 1) := by decide +kernel
theorem dX9_byKind_177 : decode cX9_byKind 177 = .ok (.iload 6, 2) := by decide +kernel
theorem dX9_byKind_179 : decode cX9_byKind 179 = .ok (.iload_n 2, 1) := by decide +kernel
theorem dX9_byKind_180 : decode cX9_byKind 180 = .ok (.iconst 1, 1) := by decide +kernel
theorem dX9_byKind_181 : decode cX9_byKind 181 = .ok (.iload 4, 2) := by decide +kernel
theorem dX9_byKind_183 : decode cX9_byKind 183 = .ok (.invokevirtual 255, 3) := by decide +kernel
theorem dX9_byKind_186 : decode cX9_byKind 186 = .ok (.bipush 6, 2) := by decide +kernel
theorem dX9_byKind_188 : decode cX9_byKind 188 = .ok (.ixor, 1) := by decide +kernel
theorem dX9_byKind_189 : decode cX9_byKind 189 = .ok (.ireturn, 1) := by decide +kernel
theorem dX9_byKind_190 : decode cX9_byKind 190 = .ok (.aload_n 0, 1) := by decide +kernel
theorem dX9_byKind_191 : decode cX9_byKind 191 = .ok (.iload 6, 2) := by decide +kernel
theorem dX9_byKind_193 : decode cX9_byKind 193 = .ok (.iload_n 2, 1) := by decide +kernel
theorem dX9_byKind_194 : decode cX9_byKind 194 = .ok (.iconst 0, 1) := by decide +kernel
theorem dX9_byKind_195 : decode cX9_byKind 195 = .ok (.iload 4, 2) := by decide +kernel
theorem dX9_byKind_197 : decode cX9_byKind 197 = .ok (.iconst 3, 1) := by decide +kernel
theorem dX9_byKind_198 : decode cX9_byKind 198 = .ok (.imul, 1) := by decide +kernel
theorem dX9_byKind_199 : decode cX9_byKind 199 = .ok (.invokevirtual 255, 3) := by decide +kernel
theorem dX9_byKind_202 : decode cX9_byKind 202 = .ok (.ireturn, 1) := by decide +kernel
theorem dX9_byKind_203 : decode cX9_byKind 203 = .ok (.aload_n 0, 1) := by decide +kernel
theorem dX9_byKind_204 : decode cX9_byKind 204 = .ok (.iload 6, 2) := by decide +kernel
theorem dX9_byKind_206 : decode cX9_byKind 206 = .ok (.iload_n 2, 1) := by decide +kernel
theorem dX9_byKind_207 : decode cX9_byKind 207 = .ok (.iconst 2, 1) := by decide +kernel
theorem dX9_byKind_208 : decode cX9_byKind 208 = .ok (.iload 4, 2) := by decide +kernel
theorem dX9_byKind_210 : decode cX9_byKind 210 = .ok (.invokevirtual 255, 3) := by decide +kernel
theorem dX9_byKind_213 : decode cX9_byKind 213 = .ok (.aload_n 0, 1) := by decide +kernel
theorem dX9_byKind_214 : decode cX9_byKind 214 = .ok (.iload_n 2, 1) := by decide +kernel
theorem dX9_byKind_215 : decode cX9_byKind 215 = .ok (.iconst 1, 1) := by decide +kernel
theorem dX9_byKind_216 : decode cX9_byKind 216 = .ok (.iconst 1, 1) := by decide +kernel
theorem dX9_byKind_217 : decode cX9_byKind 217 = .ok (.invokevirtual 262, 3) := by decide +kernel
theorem dX9_byKind_220 : decode cX9_byKind 220 = .ok (.iadd, 1) := by decide +kernel
theorem dX9_byKind_221 : decode cX9_byKind 221 = .ok (.ireturn, 1) := by decide +kernel
theorem dX9_byKind_222 : decode cX9_byKind 222 = .ok (.aload_n 0, 1) := by decide +kernel
theorem dX9_byKind_223 : decode cX9_byKind 223 = .ok (.iload 6, 2) := by decide +kernel
theorem dX9_byKind_225 : decode cX9_byKind 225 = .ok (.iload_n 2, 1) := by decide +kernel
theorem dX9_byKind_226 : decode cX9_byKind 226 = .ok (.iconst 0, 1) := by decide +kernel
theorem dX9_byKind_227 : decode cX9_byKind 227 = .ok (.iload 4, 2) := by decide +kernel
theorem dX9_byKind_229 : decode cX9_byKind 229 = .ok (.invokevirtual 255, 3) := by decide +kernel
theorem dX9_byKind_232 : decode cX9_byKind 232 = .ok (.ineg, 1) := by decide +kernel
theorem dX9_byKind_233 : decode cX9_byKind 233 = .ok (.ireturn, 1) := by decide +kernel
theorem dX9_byKind_234 : decode cX9_byKind 234 = .ok (.aload_n 0, 1) := by decide +kernel
theorem dX9_byKind_235 : decode cX9_byKind 235 = .ok (.iload 6, 2) := by decide +kernel
theorem dX9_byKind_237 : decode cX9_byKind 237 = .ok (.iload_n 2, 1) := by decide +kernel
theorem dX9_byKind_238 : decode cX9_byKind 238 = .ok (.iconst 1, 1) := by decide +kernel
theorem dX9_byKind_239 : decode cX9_byKind 239 = .ok (.iload 4, 2) := by decide +kernel
theorem dX9_byKind_241 : decode cX9_byKind 241 = .ok (.iconst 1, 1) := by decide +kernel
theorem dX9_byKind_242 : decode cX9_byKind 242 = .ok (.iadd, 1) := by decide +kernel
theorem dX9_byKind_243 : decode cX9_byKind 243 = .ok (.invokevirtual 255, 3) := by decide +kernel
theorem dX9_byKind_246 : decode cX9_byKind 246 = .ok (.ireturn, 1) := by decide +kernel
theorem dX9_byKind_247 : decode cX9_byKind 247 = .ok (.aload_n 0, 1) := by decide +kernel
theorem dX9_byKind_248 : decode cX9_byKind 248 = .ok (.iload 6, 2) := by decide +kernel
theorem dX9_byKind_250 : decode cX9_byKind 250 = .ok (.iload_n 2, 1) := by decide +kernel
theorem dX9_byKind_251 : decode cX9_byKind 251 = .ok (.iconst 2, 1) := by decide +kernel
theorem dX9_byKind_252 : decode cX9_byKind 252 = .ok (.iload 4, 2) := by decide +kernel
theorem dX9_byKind_254 : decode cX9_byKind 254 = .ok (.iload_n 2, 1) := by decide +kernel
theorem dX9_byKind_255 : decode cX9_byKind 255 = .ok (.isub, 1) := by decide +kernel
theorem dX9_byKind_256 : decode cX9_byKind 256 = .ok (.invokevirtual 255, 3) := by decide +kernel
theorem dX9_byKind_259 : decode cX9_byKind 259 = .ok (.ireturn, 1) := by decide +kernel
theorem dX9_byKind_260 : decode cX9_byKind 260 = .ok (.aload_n 0, 1) := by decide +kernel
theorem dX9_byKind_261 : decode cX9_byKind 261 = .ok (.iload 6, 2) := by decide +kernel
theorem dX9_byKind_263 : decode cX9_byKind 263 = .ok (.iload_n 2, 1) := by decide +kernel
theorem dX9_byKind_264 : decode cX9_byKind 264 = .ok (.iconst 1, 1) := by decide +kernel
theorem dX9_byKind_265 : decode cX9_byKind 265 = .ok (.iload 4, 2) := by decide +kernel
theorem dX9_byKind_267 : decode cX9_byKind 267 = .ok (.invokevirtual 255, 3) := by decide +kernel
theorem dX9_byKind_270 : decode cX9_byKind 270 = .ok (.aload_n 0, 1) := by decide +kernel
theorem dX9_byKind_271 : decode cX9_byKind 271 = .ok (.iload 6, 2) := by decide +kernel
theorem dX9_byKind_273 : decode cX9_byKind 273 = .ok (.iload_n 2, 1) := by decide +kernel
theorem dX9_byKind_274 : decode cX9_byKind 274 = .ok (.iconst 0, 1) := by decide +kernel
theorem dX9_byKind_275 : decode cX9_byKind 275 = .ok (.iconst 2, 1) := by decide +kernel
theorem dX9_byKind_276 : decode cX9_byKind 276 = .ok (.invokevirtual 255, 3) := by decide +kernel
theorem dX9_byKind_279 : decode cX9_byKind 279 = .ok (.iadd, 1) := by decide +kernel
theorem dX9_byKind_280 : decode cX9_byKind 280 = .ok (.ireturn, 1) := by decide +kernel
theorem dX9_byKind_281 : decode cX9_byKind 281 = .ok (.aload_n 0, 1) := by decide +kernel
theorem dX9_byKind_282 : decode cX9_byKind 282 = .ok (.iload 6, 2) := by decide +kernel
theorem dX9_byKind_284 : decode cX9_byKind 284 = .ok (.iload_n 2, 1) := by decide +kernel
theorem dX9_byKind_285 : decode cX9_byKind 285 = .ok (.iconst 0, 1) := by decide +kernel
theorem dX9_byKind_286 : decode cX9_byKind 286 = .ok (.iload 4, 2) := by decide +kernel
theorem dX9_byKind_288 : decode cX9_byKind 288 = .ok (.invokevirtual 255, 3) := by decide +kernel
theorem dX9_byKind_291 : decode cX9_byKind 291 = .ok (.aload_n 0, 1) := by decide +kernel
theorem dX9_byKind_292 : decode cX9_byKind 292 = .ok (.iload_n 2, 1) := by decide +kernel
theorem dX9_byKind_293 : decode cX9_byKind 293 = .ok (.iconst 1, 1) := by decide +kernel
theorem dX9_byKind_294 : decode cX9_byKind 294 = .ok (.invokevirtual 93, 3) := by decide +kernel
theorem dX9_byKind_297 : decode cX9_byKind 297 = .ok (.ixor, 1) := by decide +kernel
theorem dX9_byKind_298 : decode cX9_byKind 298 = .ok (.ireturn, 1) := by decide +kernel
theorem dX9_act_0 : decode cX9_act 0 = .ok (.aload_n 0, 1) := by decide +kernel
theorem dX9_act_1 : decode cX9_act 1 = .ok (.iconst 0, 1) := by decide +kernel
theorem dX9_act_2 : decode cX9_act 2 = .ok (.putfield 252, 3) := by decide +kernel
theorem dX9_act_5 : decode cX9_act 5 = .ok (.aload_n 0, 1) := by decide +kernel
theorem dX9_act_6 : decode cX9_act 6 = .ok (.iload_n 1, 1) := by decide +kernel
theorem dX9_act_7 : decode cX9_act 7 = .ok (.invokevirtual 101, 3) := by decide +kernel
theorem dX9_act_10 : decode cX9_act 10 = .ok (.ifCond .eq 22, 3) := by decide +kernel
theorem dX9_act_13 : decode cX9_act 13 = .ok (.iload_n 2, 1) := by decide +kernel
theorem dX9_act_14 : decode cX9_act 14 = .ok (.iconst 0, 1) := by decide +kernel
theorem dX9_act_15 : decode cX9_act 15 = .ok (.iconst 2, 1) := by decide +kernel
theorem dX9_act_16 : decode cX9_act 16 = .ok (.invokestatic 89, 3) := by decide +kernel
theorem dX9_act_19 : decode cX9_act 19 = .ok (.ifCond .eq 13, 3) := by decide +kernel
theorem dX9_act_22 : decode cX9_act 22 = .ok (.aload_n 0, 1) := by decide +kernel
theorem dX9_act_23 : decode cX9_act 23 = .ok (.iload_n 1, 1) := by decide +kernel
theorem dX9_act_24 : decode cX9_act 24 = .ok (.iload_n 2, 1) := by decide +kernel
theorem dX9_act_25 : decode cX9_act 25 = .ok (.iload_n 3, 1) := by decide +kernel
theorem dX9_act_26 : decode cX9_act 26 = .ok (.invokevirtual 262, 3) := by decide +kernel
theorem dX9_act_29 : decode cX9_act 29 = .ok (.goto 4, 3) := by decide +kernel
theorem dX9_act_32 : decode cX9_act 32 = .ok (.iconst 0, 1) := by decide +kernel
theorem dX9_act_33 : decode cX9_act 33 = .ok (.ireturn, 1) := by decide +kernel
theorem dX9_trace_0 : decode cX9_trace 0 = .ok (.iload_n 1, 1) := by decide +kernel
theorem dX9_trace_1 : decode cX9_trace 1 = .ok (.iconst 0, 1) := by decide +kernel
theorem dX9_trace_2 : decode cX9_trace 2 = .ok (.bipush 20, 2) := by decide +kernel
theorem dX9_trace_4 : decode cX9_trace 4 = .ok (.aload_n 0, 1) := by decide +kernel
theorem dX9_trace_5 : decode cX9_trace 5 = .ok (.getfield 252, 3) := by decide +kernel
theorem dX9_trace_8 : decode cX9_trace 8 = .ok (.invokestatic 120, 3) := by decide +kernel
theorem dX9_trace_11 : decode cX9_trace 11 = .ok (.iconst 1, 1) := by decide +kernel
theorem dX9_trace_12 : decode cX9_trace 12 = .ok (.isub, 1) := by decide +kernel
theorem dX9_trace_13 : decode cX9_trace 13 = .ok (.invokestatic 89, 3) := by decide +kernel
theorem dX9_trace_16 : decode cX9_trace 16 = .ok (.ifCond .eq 12, 3) := by decide +kernel
theorem dX9_trace_19 : decode cX9_trace 19 = .ok (.aload_n 0, 1) := by decide +kernel
theorem dX9_trace_20 : decode cX9_trace 20 = .ok (.getfield 65, 3) := by decide +kernel
theorem dX9_trace_23 : decode cX9_trace 23 = .ok (.iload_n 1, 1) := by decide +kernel
theorem dX9_trace_24 : decode cX9_trace 24 = .ok (.iaload, 1) := by decide +kernel
theorem dX9_trace_25 : decode cX9_trace 25 = .ok (.goto 4, 3) := by decide +kernel
theorem dX9_trace_28 : decode cX9_trace 28 = .ok (.iconst (-1), 1) := by decide +kernel
theorem dX9_trace_29 : decode cX9_trace 29 = .ok (.ireturn, 1) := by decide +kernel
theorem dX9_taken_0 : decode cX9_taken 0 = .ok (.iload_n 2, 1) := by decide +kernel
theorem dX9_taken_1 : decode cX9_taken 1 = .ok (.iconst 0, 1) := by decide +kernel
theorem dX9_taken_2 : decode cX9_taken 2 = .ok (.bipush 6, 2) := by decide +kernel
theorem dX9_taken_4 : decode cX9_taken 4 = .ok (.invokestatic 89, 3) := by decide +kernel
theorem dX9_taken_7 : decode cX9_taken 7 = .ok (.ifCond .ne 6, 3) := by decide +kernel
theorem dX9_taken_10 : decode cX9_taken 10 = .ok (.bipush (-2), 2) := by decide +kernel
theorem dX9_taken_12 : decode cX9_taken 12 = .ok (.ireturn, 1) := by decide +kernel
theorem dX9_taken_13 : decode cX9_taken 13 = .ok (.aload_n 0, 1) := by decide +kernel
theorem dX9_taken_14 : decode cX9_taken 14 = .ok (.iload_n 1, 1) := by decide +kernel
theorem dX9_taken_15 : decode cX9_taken 15 = .ok (.invokevirtual 101, 3) := by decide +kernel
theorem dX9_taken_18 : decode cX9_taken 18 = .ok (.ifCond .ne 6, 3) := by decide +kernel
theorem dX9_taken_21 : decode cX9_taken 21 = .ok (.bipush (-11), 2) := by decide +kernel
theorem dX9_taken_23 : decode cX9_taken 23 = .ok (.ireturn, 1) := by decide +kernel
theorem dX9_taken_24 : decode cX9_taken 24 = .ok (.aload_n 0, 1) := by decide +kernel
theorem dX9_taken_25 : decode cX9_taken 25 = .ok (.iload_n 1, 1) := by decide +kernel
theorem dX9_taken_26 : decode cX9_taken 26 = .ok (.iconst 0, 1) := by decide +kernel
theorem dX9_taken_27 : decode cX9_taken 27 = .ok (.invokevirtual 93, 3) := by decide +kernel
theorem dX9_taken_30 : decode cX9_taken 30 = .ok (.istore_n 3, 1) := by decide +kernel
theorem dX9_taken_31 : decode cX9_taken 31 = .ok (.iload_n 3, 1) := by decide +kernel
theorem dX9_taken_32 : decode cX9_taken 32 = .ok (.iconst (-1), 1) := by decide +kernel
theorem dX9_taken_33 : decode cX9_taken 33 = .ok (.if_icmp .eq 18, 3) := by decide +kernel
theorem dX9_taken_36 : decode cX9_taken 36 = .ok (.iload_n 3, 1) := by decide +kernel
theorem dX9_taken_37 : decode cX9_taken 37 = .ok (.iload_n 2, 1) := by decide +kernel
theorem dX9_taken_38 : decode cX9_taken 38 = .ok (.if_icmp .eq 13, 3) := by decide +kernel
theorem dX9_taken_41 : decode cX9_taken 41 = .ok (.aload_n 0, 1) := by decide +kernel
theorem dX9_taken_42 : decode cX9_taken 42 = .ok (.getfield 59, 3) := by decide +kernel
theorem dX9_taken_45 : decode cX9_taken 45 = .ok (.iload_n 3, 1) := by decide +kernel
theorem dX9_taken_46 : decode cX9_taken 46 = .ok (.iaload, 1) := by decide +kernel
theorem dX9_taken_47 : decode cX9_taken 47 = .ok (.istore_n 3, 1) := by decide +kernel
theorem dX9_taken_48 : decode cX9_taken 48 = .ok (.goto (-17), 3) := by decide +kernel
theorem dX9_taken_51 : decode cX9_taken 51 = .ok (.iload_n 3, 1) := by decide +kernel
theorem dX9_taken_52 : decode cX9_taken 52 = .ok (.iload_n 2, 1) := by decide +kernel
theorem dX9_taken_53 : decode cX9_taken 53 = .ok (.if_icmp .ne 12, 3) := by decide +kernel
theorem dX9_taken_56 : decode cX9_taken 56 = .ok (.aload_n 0, 1) := by decide +kernel
theorem dX9_taken_57 : decode cX9_taken 57 = .ok (.iload_n 1, 1) := by decide +kernel
theorem dX9_taken_58 : decode cX9_taken 58 = .ok (.iconst 0, 1) := by decide +kernel
theorem dX9_taken_59 : decode cX9_taken 59 = .ok (.invokevirtual 93, 3) := by decide +kernel
theorem dX9_taken_62 : decode cX9_taken 62 = .ok (.goto 5, 3) := by decide +kernel
theorem dX9_taken_65 : decode cX9_taken 65 = .ok (.bipush (-12), 2) := by decide +kernel
theorem dX9_taken_67 : decode cX9_taken 67 = .ok (.ireturn, 1) := by decide +kernel
theorem dX9_count_0 : decode cX9_count 0 = .ok (.iload_n 1, 1) := by decide +kernel
theorem dX9_count_1 : decode cX9_count 1 = .ok (.tableswitch 90 0 6 #[43, 51, 56, 64, 72, 80, 85], 43) := by decide +kernel
theorem dX9_count_44 : decode cX9_count 44 = .ok (.aload_n 0, 1) := by decide +kernel
theorem dX9_count_45 : decode cX9_count 45 = .ok (.getfield 9, 3) := by decide +kernel
theorem dX9_count_48 : decode cX9_count 48 = .ok (.bipush 54, 2) := by decide +kernel
theorem dX9_count_50 : decode cX9_count 50 = .ok (.iaload, 1) := by decide +kernel
theorem dX9_count_51 : decode cX9_count 51 = .ok (.ireturn, 1) := by decide +kernel
theorem dX9_count_52 : decode cX9_count 52 = .ok (.aload_n 0, 1) := by decide +kernel
theorem dX9_count_53 : decode cX9_count 53 = .ok (.getfield 186, 3) := by decide +kernel
theorem dX9_count_56 : decode cX9_count 56 = .ok (.ireturn, 1) := by decide +kernel
theorem dX9_count_57 : decode cX9_count 57 = .ok (.aload_n 0, 1) := by decide +kernel
theorem dX9_count_58 : decode cX9_count 58 = .ok (.getfield 9, 3) := by decide +kernel
theorem dX9_count_61 : decode cX9_count 61 = .ok (.bipush 58, 2) := by decide +kernel
theorem dX9_count_63 : decode cX9_count 63 = .ok (.iaload, 1) := by decide +kernel
theorem dX9_count_64 : decode cX9_count 64 = .ok (.ireturn, 1) := by decide +kernel
theorem dX9_count_65 : decode cX9_count 65 = .ok (.aload_n 0, 1) := by decide +kernel
theorem dX9_count_66 : decode cX9_count 66 = .ok (.getfield 9, 3) := by decide +kernel
theorem dX9_count_69 : decode cX9_count 69 = .ok (.bipush 77, 2) := by decide +kernel
theorem dX9_count_71 : decode cX9_count 71 = .ok (.iaload, 1) := by decide +kernel
theorem dX9_count_72 : decode cX9_count 72 = .ok (.ireturn, 1) := by decide +kernel
theorem dX9_count_73 : decode cX9_count 73 = .ok (.aload_n 0, 1) := by decide +kernel
theorem dX9_count_74 : decode cX9_count 74 = .ok (.getfield 9, 3) := by decide +kernel
theorem dX9_count_77 : decode cX9_count 77 = .ok (.bipush 98, 2) := by decide +kernel
theorem dX9_count_79 : decode cX9_count 79 = .ok (.iaload, 1) := by decide +kernel
theorem dX9_count_80 : decode cX9_count 80 = .ok (.ireturn, 1) := by decide +kernel
theorem dX9_count_81 : decode cX9_count 81 = .ok (.aload_n 0, 1) := by decide +kernel
theorem dX9_count_82 : decode cX9_count 82 = .ok (.getfield 132, 3) := by decide +kernel
theorem dX9_count_85 : decode cX9_count 85 = .ok (.ireturn, 1) := by decide +kernel
theorem dX9_count_86 : decode cX9_count 86 = .ok (.aload_n 0, 1) := by decide +kernel
theorem dX9_count_87 : decode cX9_count 87 = .ok (.getfield 252, 3) := by decide +kernel
theorem dX9_count_90 : decode cX9_count 90 = .ok (.ireturn, 1) := by decide +kernel
theorem dX9_count_91 : decode cX9_count 91 = .ok (.bipush (-2), 2) := by decide +kernel
theorem dX9_count_93 : decode cX9_count 93 = .ok (.ireturn, 1) := by decide +kernel
theorem dX9_isTape_0 : decode cX9_isTape 0 = .ok (.iload_n 0, 1) := by decide +kernel
theorem dX9_isTape_1 : decode cX9_isTape 1 = .ok (.iconst 0, 1) := by decide +kernel
theorem dX9_isTape_2 : decode cX9_isTape 2 = .ok (.iconst 5, 1) := by decide +kernel
theorem dX9_isTape_3 : decode cX9_isTape 3 = .ok (.invokestatic 89, 3) := by decide +kernel
theorem dX9_isTape_6 : decode cX9_isTape 6 = .ok (.ireturn, 1) := by decide +kernel
theorem dX9_tape_0 : decode cX9_tape 0 = .ok (.iload_n 1, 1) := by decide +kernel
theorem dX9_tape_1 : decode cX9_tape 1 = .ok (.invokestatic 265, 3) := by decide +kernel
theorem dX9_tape_4 : decode cX9_tape 4 = .ok (.ifCond .ne 5, 3) := by decide +kernel
theorem dX9_tape_7 : decode cX9_tape 7 = .ok (.iconst (-1), 1) := by decide +kernel
theorem dX9_tape_8 : decode cX9_tape 8 = .ok (.ireturn, 1) := by decide +kernel
theorem dX9_tape_9 : decode cX9_tape 9 = .ok (.iload_n 2, 1) := by decide +kernel
theorem dX9_tape_10 : decode cX9_tape 10 = .ok (.iconst (-1), 1) := by decide +kernel
theorem dX9_tape_11 : decode cX9_tape 11 = .ok (.iconst 4, 1) := by decide +kernel
theorem dX9_tape_12 : decode cX9_tape 12 = .ok (.invokestatic 89, 3) := by decide +kernel
theorem dX9_tape_15 : decode cX9_tape 15 = .ok (.ifCond .eq 13, 3) := by decide +kernel
theorem dX9_tape_18 : decode cX9_tape 18 = .ok (.iload_n 2, 1) := by decide +kernel
theorem dX9_tape_19 : decode cX9_tape 19 = .ok (.ifCond .lt 12, 3) := by decide +kernel
theorem dX9_tape_22 : decode cX9_tape 22 = .ok (.iload_n 3, 1) := by decide +kernel
theorem dX9_tape_23 : decode cX9_tape 23 = .ok (.bipush 60, 2) := by decide +kernel
theorem dX9_tape_25 : decode cX9_tape 25 = .ok (.if_icmp .le 6, 3) := by decide +kernel
theorem dX9_tape_28 : decode cX9_tape 28 = .ok (.bipush (-2), 2) := by decide +kernel
theorem dX9_tape_30 : decode cX9_tape 30 = .ok (.ireturn, 1) := by decide +kernel
theorem dX9_tape_31 : decode cX9_tape 31 = .ok (.iload_n 2, 1) := by decide +kernel
theorem dX9_tape_32 : decode cX9_tape 32 = .ok (.ifCond .lt 10, 3) := by decide +kernel
theorem dX9_tape_35 : decode cX9_tape 35 = .ok (.iload_n 3, 1) := by decide +kernel
theorem dX9_tape_36 : decode cX9_tape 36 = .ok (.ifCond .ge 6, 3) := by decide +kernel
theorem dX9_tape_39 : decode cX9_tape 39 = .ok (.bipush (-14), 2) := by decide +kernel
theorem dX9_tape_41 : decode cX9_tape 41 = .ok (.ireturn, 1) := by decide +kernel
theorem dX9_tape_42 : decode cX9_tape 42 = .ok (.aload_n 0, 1) := by decide +kernel
theorem dX9_tape_43 : decode cX9_tape 43 = .ok (.getfield 68, 3) := by decide +kernel
theorem dX9_tape_46 : decode cX9_tape 46 = .ok (.iload_n 1, 1) := by decide +kernel
theorem dX9_tape_47 : decode cX9_tape 47 = .ok (.iload_n 2, 1) := by decide +kernel
theorem dX9_tape_48 : decode cX9_tape 48 = .ok (.iastore, 1) := by decide +kernel
theorem dX9_tape_49 : decode cX9_tape 49 = .ok (.aload_n 0, 1) := by decide +kernel
theorem dX9_tape_50 : decode cX9_tape 50 = .ok (.getfield 71, 3) := by decide +kernel
theorem dX9_tape_53 : decode cX9_tape 53 = .ok (.iload_n 1, 1) := by decide +kernel
theorem dX9_tape_54 : decode cX9_tape 54 = .ok (.iload_n 2, 1) := by decide +kernel
theorem dX9_tape_55 : decode cX9_tape 55 = .ok (.ifCond .ge 7, 3) := by decide +kernel
theorem dX9_tape_58 : decode cX9_tape 58 = .ok (.iconst 0, 1) := by decide +kernel
theorem dX9_tape_59 : decode cX9_tape 59 = .ok (.goto 4, 3) := by decide +kernel
theorem dX9_tape_62 : decode cX9_tape 62 = .ok (.iload_n 3, 1) := by decide +kernel
theorem dX9_tape_63 : decode cX9_tape 63 = .ok (.iastore, 1) := by decide +kernel
theorem dX9_tape_64 : decode cX9_tape 64 = .ok (.iconst 0, 1) := by decide +kernel
theorem dX9_tape_65 : decode cX9_tape 65 = .ok (.istore 4, 2) := by decide +kernel
theorem dX9_tape_67 : decode cX9_tape 67 = .ok (.iload 4, 2) := by decide +kernel
theorem dX9_tape_69 : decode cX9_tape 69 = .ok (.bipush 60, 2) := by decide +kernel
theorem dX9_tape_71 : decode cX9_tape 71 = .ok (.if_icmp .ge 22, 3) := by decide +kernel
theorem dX9_tape_74 : decode cX9_tape 74 = .ok (.aload_n 0, 1) := by decide +kernel
theorem dX9_tape_75 : decode cX9_tape 75 = .ok (.getfield 74, 3) := by decide +kernel
theorem dX9_tape_78 : decode cX9_tape 78 = .ok (.bipush 60, 2) := by decide +kernel
theorem dX9_tape_80 : decode cX9_tape 80 = .ok (.iload_n 1, 1) := by decide +kernel
theorem dX9_tape_81 : decode cX9_tape 81 = .ok (.imul, 1) := by decide +kernel
theorem dX9_tape_82 : decode cX9_tape 82 = .ok (.iload 4, 2) := by decide +kernel
theorem dX9_tape_84 : decode cX9_tape 84 = .ok (.iadd, 1) := by decide +kernel
theorem dX9_tape_85 : decode cX9_tape 85 = .ok (.lconst 0, 1) := by decide +kernel
theorem dX9_tape_86 : decode cX9_tape 86 = .ok (.lastore, 1) := by decide +kernel
theorem dX9_tape_87 : decode cX9_tape 87 = .ok (.iinc 4 1, 3) := by decide +kernel
theorem dX9_tape_90 : decode cX9_tape 90 = .ok (.goto (-23), 3) := by decide +kernel
theorem dX9_tape_93 : decode cX9_tape 93 = .ok (.iconst 1, 1) := by decide +kernel
theorem dX9_tape_94 : decode cX9_tape 94 = .ok (.ireturn, 1) := by decide +kernel
theorem dX9_item_0 : decode cX9_item 0 = .ok (.iload_n 1, 1) := by decide +kernel
theorem dX9_item_1 : decode cX9_item 1 = .ok (.invokestatic 265, 3) := by decide +kernel
theorem dX9_item_4 : decode cX9_item 4 = .ok (.ifCond .ne 5, 3) := by decide +kernel
theorem dX9_item_7 : decode cX9_item 7 = .ok (.iconst (-1), 1) := by decide +kernel
theorem dX9_item_8 : decode cX9_item 8 = .ok (.ireturn, 1) := by decide +kernel
theorem dX9_item_9 : decode cX9_item 9 = .ok (.aload_n 0, 1) := by decide +kernel
theorem dX9_item_10 : decode cX9_item 10 = .ok (.getfield 68, 3) := by decide +kernel
theorem dX9_item_13 : decode cX9_item 13 = .ok (.iload_n 1, 1) := by decide +kernel
theorem dX9_item_14 : decode cX9_item 14 = .ok (.iaload, 1) := by decide +kernel
theorem dX9_item_15 : decode cX9_item 15 = .ok (.ifCond .ge 6, 3) := by decide +kernel
theorem dX9_item_18 : decode cX9_item 18 = .ok (.bipush (-11), 2) := by decide +kernel
theorem dX9_item_20 : decode cX9_item 20 = .ok (.ireturn, 1) := by decide +kernel
theorem dX9_item_21 : decode cX9_item 21 = .ok (.iload_n 2, 1) := by decide +kernel
theorem dX9_item_22 : decode cX9_item 22 = .ok (.iconst 0, 1) := by decide +kernel
theorem dX9_item_23 : decode cX9_item 23 = .ok (.aload_n 0, 1) := by decide +kernel
theorem dX9_item_24 : decode cX9_item 24 = .ok (.getfield 71, 3) := by decide +kernel
theorem dX9_item_27 : decode cX9_item 27 = .ok (.iload_n 1, 1) := by decide +kernel
theorem dX9_item_28 : decode cX9_item 28 = .ok (.iaload, 1) := by decide +kernel
theorem dX9_item_29 : decode cX9_item 29 = .ok (.iconst 1, 1) := by decide +kernel
theorem dX9_item_30 : decode cX9_item 30 = .ok (.isub, 1) := by decide +kernel
theorem dX9_item_31 : decode cX9_item 31 = .ok (.invokestatic 89, 3) := by decide +kernel
theorem dX9_item_34 : decode cX9_item 34 = .ok (.ifCond .ne 6, 3) := by decide +kernel
theorem dX9_item_37 : decode cX9_item 37 = .ok (.bipush (-13), 2) := by decide +kernel
theorem dX9_item_39 : decode cX9_item 39 = .ok (.ireturn, 1) := by decide +kernel
theorem dX9_item_40 : decode cX9_item 40 = .ok (.aload_n 0, 1) := by decide +kernel
theorem dX9_item_41 : decode cX9_item 41 = .ok (.getfield 68, 3) := by decide +kernel
theorem dX9_item_44 : decode cX9_item 44 = .ok (.iload_n 1, 1) := by decide +kernel
theorem dX9_item_45 : decode cX9_item 45 = .ok (.iaload, 1) := by decide +kernel
theorem dX9_item_46 : decode cX9_item 46 = .ok (.istore 5, 2) := by decide +kernel
theorem dX9_item_48 : decode cX9_item 48 = .ok (.aload_n 0, 1) := by decide +kernel
theorem dX9_item_49 : decode cX9_item 49 = .ok (.getfield 74, 3) := by decide +kernel
theorem dX9_item_52 : decode cX9_item 52 = .ok (.bipush 60, 2) := by decide +kernel
theorem dX9_item_54 : decode cX9_item 54 = .ok (.iload_n 1, 1) := by decide +kernel
theorem dX9_item_55 : decode cX9_item 55 = .ok (.imul, 1) := by decide +kernel
theorem dX9_item_56 : decode cX9_item 56 = .ok (.iload_n 2, 1) := by decide +kernel
theorem dX9_item_57 : decode cX9_item 57 = .ok (.iadd, 1) := by decide +kernel
theorem dX9_item_58 : decode cX9_item 58 = .ok (.iload 5, 2) := by decide +kernel
theorem dX9_item_60 : decode cX9_item 60 = .ok (.ifCond .ne 10, 3) := by decide +kernel
theorem dX9_item_63 : decode cX9_item 63 = .ok (.lload_n 3, 1) := by decide +kernel
theorem dX9_item_64 : decode cX9_item 64 = .ok (.l2i, 1) := by decide +kernel
theorem dX9_item_65 : decode cX9_item 65 = .ok (.i2b, 1) := by decide +kernel
theorem dX9_item_66 : decode cX9_item 66 = .ok (.i2l, 1) := by decide +kernel
theorem dX9_item_67 : decode cX9_item 67 = .ok (.goto 49, 3) := by decide +kernel
theorem dX9_item_70 : decode cX9_item 70 = .ok (.iload 5, 2) := by decide +kernel
theorem dX9_item_72 : decode cX9_item 72 = .ok (.iconst 1, 1) := by decide +kernel
theorem dX9_item_73 : decode cX9_item 73 = .ok (.if_icmp .ne 10, 3) := by decide +kernel
theorem dX9_item_76 : decode cX9_item 76 = .ok (.lload_n 3, 1) := by decide +kernel
theorem dX9_item_77 : decode cX9_item 77 = .ok (.l2i, 1) := by decide +kernel
theorem dX9_item_78 : decode cX9_item 78 = .ok (.i2s, 1) := by decide +kernel
theorem dX9_item_79 : decode cX9_item 79 = .ok (.i2l, 1) := by decide +kernel
theorem dX9_item_80 : decode cX9_item 80 = .ok (.goto 36, 3) := by decide +kernel
theorem dX9_item_83 : decode cX9_item 83 = .ok (.iload 5, 2) := by decide +kernel
theorem dX9_item_85 : decode cX9_item 85 = .ok (.iconst 2, 1) := by decide +kernel
theorem dX9_item_86 : decode cX9_item 86 = .ok (.if_icmp .ne 9, 3) := by decide +kernel
theorem dX9_item_89 : decode cX9_item 89 = .ok (.lload_n 3, 1) := by decide +kernel
theorem dX9_item_90 : decode cX9_item 90 = .ok (.l2i, 1) := by decide +kernel
theorem dX9_item_91 : decode cX9_item 91 = .ok (.i2l, 1) := by decide +kernel
theorem dX9_item_92 : decode cX9_item 92 = .ok (.goto 24, 3) := by decide +kernel
theorem dX9_item_95 : decode cX9_item 95 = .ok (.iload 5, 2) := by decide +kernel
theorem dX9_item_97 : decode cX9_item 97 = .ok (.iconst 3, 1) := by decide +kernel
theorem dX9_item_98 : decode cX9_item 98 = .ok (.if_icmp .ne 7, 3) := by decide +kernel
theorem dX9_item_101 : decode cX9_item 101 = .ok (.lload_n 3, 1) := by decide +kernel
theorem dX9_item_102 : decode cX9_item 102 = .ok (.goto 14, 3) := by decide +kernel
theorem dX9_item_105 : decode cX9_item 105 = .ok (.lload_n 3, 1) := by decide +kernel
theorem dX9_item_106 : decode cX9_item 106 = .ok (.lconst 0, 1) := by decide +kernel
theorem dX9_item_107 : decode cX9_item 107 = .ok (.lcmp, 1) := by decide +kernel
theorem dX9_item_108 : decode cX9_item 108 = .ok (.ifCond .eq 7, 3) := by decide +kernel
theorem dX9_item_111 : decode cX9_item 111 = .ok (.lconst 1, 1) := by decide +kernel
theorem dX9_item_112 : decode cX9_item 112 = .ok (.goto 4, 3) := by decide +kernel
theorem dX9_item_115 : decode cX9_item 115 = .ok (.lconst 0, 1) := by decide +kernel
theorem dX9_item_116 : decode cX9_item 116 = .ok (.lastore, 1) := by decide +kernel
theorem dX9_item_117 : decode cX9_item 117 = .ok (.iconst 1, 1) := by decide +kernel
theorem dX9_item_118 : decode cX9_item 118 = .ok (.ireturn, 1) := by decide +kernel
theorem dX9_read_0 : decode cX9_read 0 = .ok (.iload_n 1, 1) := by decide +kernel
theorem dX9_read_1 : decode cX9_read 1 = .ok (.invokestatic 265, 3) := by decide +kernel
theorem dX9_read_4 : decode cX9_read 4 = .ok (.ifCond .eq 33, 3) := by decide +kernel
theorem dX9_read_7 : decode cX9_read 7 = .ok (.iload_n 2, 1) := by decide +kernel
theorem dX9_read_8 : decode cX9_read 8 = .ok (.iconst 0, 1) := by decide +kernel
theorem dX9_read_9 : decode cX9_read 9 = .ok (.aload_n 0, 1) := by decide +kernel
theorem dX9_read_10 : decode cX9_read 10 = .ok (.getfield 71, 3) := by decide +kernel
theorem dX9_read_13 : decode cX9_read 13 = .ok (.iload_n 1, 1) := by decide +kernel
theorem dX9_read_14 : decode cX9_read 14 = .ok (.iaload, 1) := by decide +kernel
theorem dX9_read_15 : decode cX9_read 15 = .ok (.iconst 1, 1) := by decide +kernel
theorem dX9_read_16 : decode cX9_read 16 = .ok (.isub, 1) := by decide +kernel
theorem dX9_read_17 : decode cX9_read 17 = .ok (.invokestatic 89, 3) := by decide +kernel
theorem dX9_read_20 : decode cX9_read 20 = .ok (.ifCond .eq 17, 3) := by decide +kernel
theorem dX9_read_23 : decode cX9_read 23 = .ok (.aload_n 0, 1) := by decide +kernel
theorem dX9_read_24 : decode cX9_read 24 = .ok (.getfield 74, 3) := by decide +kernel
theorem dX9_read_27 : decode cX9_read 27 = .ok (.bipush 60, 2) := by decide +kernel
theorem dX9_read_29 : decode cX9_read 29 = .ok (.iload_n 1, 1) := by decide +kernel
theorem dX9_read_30 : decode cX9_read 30 = .ok (.imul, 1) := by decide +kernel
theorem dX9_read_31 : decode cX9_read 31 = .ok (.iload_n 2, 1) := by decide +kernel
theorem dX9_read_32 : decode cX9_read 32 = .ok (.iadd, 1) := by decide +kernel
theorem dX9_read_33 : decode cX9_read 33 = .ok (.laload, 1) := by decide +kernel
theorem dX9_read_34 : decode cX9_read 34 = .ok (.goto 6, 3) := by decide +kernel
theorem dX9_read_37 : decode cX9_read 37 = .ok (.ldc2_w 243, 3) := by decide +kernel
theorem dX9_read_40 : decode cX9_read 40 = .ok (.lreturn, 1) := by decide +kernel
theorem dX9_shift_0 : decode cX9_shift 0 = .ok (.iload_n 1, 1) := by decide +kernel
theorem dX9_shift_1 : decode cX9_shift 1 = .ok (.invokestatic 265, 3) := by decide +kernel
theorem dX9_shift_4 : decode cX9_shift 4 = .ok (.ifCond .eq 10, 3) := by decide +kernel
theorem dX9_shift_7 : decode cX9_shift 7 = .ok (.iload_n 3, 1) := by decide +kernel
theorem dX9_shift_8 : decode cX9_shift 8 = .ok (.invokestatic 265, 3) := by decide +kernel
theorem dX9_shift_11 : decode cX9_shift 11 = .ok (.ifCond .ne 5, 3) := by decide +kernel
theorem dX9_shift_14 : decode cX9_shift 14 = .ok (.iconst (-1), 1) := by decide +kernel
theorem dX9_shift_15 : decode cX9_shift 15 = .ok (.ireturn, 1) := by decide +kernel
theorem dX9_shift_16 : decode cX9_shift 16 = .ok (.aload_n 0, 1) := by decide +kernel
theorem dX9_shift_17 : decode cX9_shift 17 = .ok (.getfield 68, 3) := by decide +kernel
theorem dX9_shift_20 : decode cX9_shift 20 = .ok (.iload_n 1, 1) := by decide +kernel
theorem dX9_shift_21 : decode cX9_shift 21 = .ok (.iaload, 1) := by decide +kernel
theorem dX9_shift_22 : decode cX9_shift 22 = .ok (.ifCond .lt 12, 3) := by decide +kernel
theorem dX9_shift_25 : decode cX9_shift 25 = .ok (.aload_n 0, 1) := by decide +kernel
theorem dX9_shift_26 : decode cX9_shift 26 = .ok (.getfield 68, 3) := by decide +kernel
theorem dX9_shift_29 : decode cX9_shift 29 = .ok (.iload_n 3, 1) := by decide +kernel
theorem dX9_shift_30 : decode cX9_shift 30 = .ok (.iaload, 1) := by decide +kernel
theorem dX9_shift_31 : decode cX9_shift 31 = .ok (.ifCond .ge 6, 3) := by decide +kernel
theorem dX9_shift_34 : decode cX9_shift 34 = .ok (.bipush (-11), 2) := by decide +kernel
theorem dX9_shift_36 : decode cX9_shift 36 = .ok (.ireturn, 1) := by decide +kernel
theorem dX9_shift_37 : decode cX9_shift 37 = .ok (.aload_n 0, 1) := by decide +kernel
theorem dX9_shift_38 : decode cX9_shift 38 = .ok (.getfield 68, 3) := by decide +kernel
theorem dX9_shift_41 : decode cX9_shift 41 = .ok (.iload_n 1, 1) := by decide +kernel
theorem dX9_shift_42 : decode cX9_shift 42 = .ok (.iaload, 1) := by decide +kernel
theorem dX9_shift_43 : decode cX9_shift 43 = .ok (.aload_n 0, 1) := by decide +kernel
theorem dX9_shift_44 : decode cX9_shift 44 = .ok (.getfield 68, 3) := by decide +kernel
theorem dX9_shift_47 : decode cX9_shift 47 = .ok (.iload_n 3, 1) := by decide +kernel
theorem dX9_shift_48 : decode cX9_shift 48 = .ok (.iaload, 1) := by decide +kernel
theorem dX9_shift_49 : decode cX9_shift 49 = .ok (.if_icmp .eq 6, 3) := by decide +kernel
theorem dX9_shift_52 : decode cX9_shift 52 = .ok (.bipush (-12), 2) := by decide +kernel
theorem dX9_shift_54 : decode cX9_shift 54 = .ok (.ireturn, 1) := by decide +kernel
theorem dX9_shift_55 : decode cX9_shift 55 = .ok (.iload 5, 2) := by decide +kernel
theorem dX9_shift_57 : decode cX9_shift 57 = .ok (.ifCond .lt 39, 3) := by decide +kernel
theorem dX9_shift_60 : decode cX9_shift 60 = .ok (.iload_n 2, 1) := by decide +kernel
theorem dX9_shift_61 : decode cX9_shift 61 = .ok (.ifCond .lt 35, 3) := by decide +kernel
theorem dX9_shift_64 : decode cX9_shift 64 = .ok (.iload 4, 2) := by decide +kernel
theorem dX9_shift_66 : decode cX9_shift 66 = .ok (.ifCond .lt 30, 3) := by decide +kernel
theorem dX9_shift_69 : decode cX9_shift 69 = .ok (.iload 5, 2) := by decide +kernel
theorem dX9_shift_71 : decode cX9_shift 71 = .ok (.aload_n 0, 1) := by decide +kernel
theorem dX9_shift_72 : decode cX9_shift 72 = .ok (.getfield 71, 3) := by decide +kernel
theorem dX9_shift_75 : decode cX9_shift 75 = .ok (.iload_n 1, 1) := by decide +kernel
theorem dX9_shift_76 : decode cX9_shift 76 = .ok (.iaload, 1) := by decide +kernel
theorem dX9_shift_77 : decode cX9_shift 77 = .ok (.iload_n 2, 1) := by decide +kernel
theorem dX9_shift_78 : decode cX9_shift 78 = .ok (.isub, 1) := by decide +kernel
theorem dX9_shift_79 : decode cX9_shift 79 = .ok (.if_icmp .gt 17, 3) := by decide +kernel
theorem dX9_shift_82 : decode cX9_shift 82 = .ok (.iload 5, 2) := by decide +kernel
theorem dX9_shift_84 : decode cX9_shift 84 = .ok (.aload_n 0, 1) := by decide +kernel
theorem dX9_shift_85 : decode cX9_shift 85 = .ok (.getfield 71, 3) := by decide +kernel
theorem dX9_shift_88 : decode cX9_shift 88 = .ok (.iload_n 3, 1) := by decide +kernel
theorem dX9_shift_89 : decode cX9_shift 89 = .ok (.iaload, 1) := by decide +kernel
theorem dX9_shift_90 : decode cX9_shift 90 = .ok (.iload 4, 2) := by decide +kernel
theorem dX9_shift_92 : decode cX9_shift 92 = .ok (.isub, 1) := by decide +kernel
theorem dX9_shift_93 : decode cX9_shift 93 = .ok (.if_icmp .le 6, 3) := by decide +kernel
theorem dX9_shift_96 : decode cX9_shift 96 = .ok (.bipush (-13), 2) := by decide +kernel
theorem dX9_shift_98 : decode cX9_shift 98 = .ok (.ireturn, 1) := by decide +kernel
theorem dX9_shift_99 : decode cX9_shift 99 = .ok (.iconst 0, 1) := by decide +kernel
theorem dX9_shift_100 : decode cX9_shift 100 = .ok (.istore 6, 2) := by decide +kernel
theorem dX9_shift_102 : decode cX9_shift 102 = .ok (.iload 6, 2) := by decide +kernel
theorem dX9_shift_104 : decode cX9_shift 104 = .ok (.iload 5, 2) := by decide +kernel
theorem dX9_shift_106 : decode cX9_shift 106 = .ok (.if_icmp .ge 30, 3) := by decide +kernel
theorem dX9_shift_109 : decode cX9_shift 109 = .ok (.aload_n 0, 1) := by decide +kernel
theorem dX9_shift_110 : decode cX9_shift 110 = .ok (.getfield 78, 3) := by decide +kernel
theorem dX9_shift_113 : decode cX9_shift 113 = .ok (.iload 6, 2) := by decide +kernel
theorem dX9_shift_115 : decode cX9_shift 115 = .ok (.aload_n 0, 1) := by decide +kernel
theorem dX9_shift_116 : decode cX9_shift 116 = .ok (.getfield 74, 3) := by decide +kernel
theorem dX9_shift_119 : decode cX9_shift 119 = .ok (.bipush 60, 2) := by decide +kernel
theorem dX9_shift_121 : decode cX9_shift 121 = .ok (.iload_n 1, 1) := by decide +kernel
theorem dX9_shift_122 : decode cX9_shift 122 = .ok (.imul, 1) := by decide +kernel
theorem dX9_shift_123 : decode cX9_shift 123 = .ok (.iload_n 2, 1) := by decide +kernel
theorem dX9_shift_124 : decode cX9_shift 124 = .ok (.iadd, 1) := by decide +kernel
theorem dX9_shift_125 : decode cX9_shift 125 = .ok (.iload 6, 2) := by decide +kernel
theorem dX9_shift_127 : decode cX9_shift 127 = .ok (.iadd, 1) := by decide +kernel
theorem dX9_shift_128 : decode cX9_shift 128 = .ok (.laload, 1) := by decide +kernel
theorem dX9_shift_129 : decode cX9_shift 129 = .ok (.lastore, 1) := by decide +kernel
theorem dX9_shift_130 : decode cX9_shift 130 = .ok (.iinc 6 1, 3) := by decide +kernel
theorem dX9_shift_133 : decode cX9_shift 133 = .ok (.goto (-31), 3) := by decide +kernel
theorem dX9_shift_136 : decode cX9_shift 136 = .ok (.iconst 0, 1) := by decide +kernel
theorem dX9_shift_137 : decode cX9_shift 137 = .ok (.istore 6, 2) := by decide +kernel
theorem dX9_shift_139 : decode cX9_shift 139 = .ok (.iload 6, 2) := by decide +kernel
theorem dX9_shift_141 : decode cX9_shift 141 = .ok (.iload 5, 2) := by decide +kernel
theorem dX9_shift_143 : decode cX9_shift 143 = .ok (.if_icmp .ge 31, 3) := by decide +kernel
theorem dX9_shift_146 : decode cX9_shift 146 = .ok (.aload_n 0, 1) := by decide +kernel
theorem dX9_shift_147 : decode cX9_shift 147 = .ok (.getfield 74, 3) := by decide +kernel
theorem dX9_shift_150 : decode cX9_shift 150 = .ok (.bipush 60, 2) := by decide +kernel
theorem dX9_shift_152 : decode cX9_shift 152 = .ok (.iload_n 3, 1) := by decide +kernel
theorem dX9_shift_153 : decode cX9_shift 153 = .ok (.imul, 1) := by decide +kernel
theorem dX9_shift_154 : decode cX9_shift 154 = .ok (.iload 4, 2) := by decide +kernel
theorem dX9_shift_156 : decode cX9_shift 156 = .ok (.iadd, 1) := by decide +kernel
theorem dX9_shift_157 : decode cX9_shift 157 = .ok (.iload 6, 2) := by decide +kernel
theorem dX9_shift_159 : decode cX9_shift 159 = .ok (.iadd, 1) := by decide +kernel
theorem dX9_shift_160 : decode cX9_shift 160 = .ok (.aload_n 0, 1) := by decide +kernel
theorem dX9_shift_161 : decode cX9_shift 161 = .ok (.getfield 78, 3) := by decide +kernel
theorem dX9_shift_164 : decode cX9_shift 164 = .ok (.iload 6, 2) := by decide +kernel
theorem dX9_shift_166 : decode cX9_shift 166 = .ok (.laload, 1) := by decide +kernel
theorem dX9_shift_167 : decode cX9_shift 167 = .ok (.lastore, 1) := by decide +kernel
theorem dX9_shift_168 : decode cX9_shift 168 = .ok (.iinc 6 1, 3) := by decide +kernel
theorem dX9_shift_171 : decode cX9_shift 171 = .ok (.goto (-32), 3) := by decide +kernel
theorem dX9_shift_174 : decode cX9_shift 174 = .ok (.iload 5, 2) := by decide +kernel
theorem dX9_shift_176 : decode cX9_shift 176 = .ok (.ireturn, 1) := by decide +kernel
theorem dX9_judge_0 : decode cX9_judge 0 = .ok (.iload_n 1, 1) := by decide +kernel
theorem dX9_judge_1 : decode cX9_judge 1 = .ok (.invokestatic 265, 3) := by decide +kernel
theorem dX9_judge_4 : decode cX9_judge 4 = .ok (.ifCond .ne 5, 3) := by decide +kernel
theorem dX9_judge_7 : decode cX9_judge 7 = .ok (.iconst (-1), 1) := by decide +kernel
theorem dX9_judge_8 : decode cX9_judge 8 = .ok (.ireturn, 1) := by decide +kernel
theorem dX9_judge_9 : decode cX9_judge 9 = .ok (.aload_n 0, 1) := by decide +kernel
theorem dX9_judge_10 : decode cX9_judge 10 = .ok (.getfield 68, 3) := by decide +kernel
theorem dX9_judge_13 : decode cX9_judge 13 = .ok (.iload_n 1, 1) := by decide +kernel
theorem dX9_judge_14 : decode cX9_judge 14 = .ok (.iaload, 1) := by decide +kernel
theorem dX9_judge_15 : decode cX9_judge 15 = .ok (.iconst (-1), 1) := by decide +kernel
theorem dX9_judge_16 : decode cX9_judge 16 = .ok (.if_icmp .eq 16, 3) := by decide +kernel
theorem dX9_judge_19 : decode cX9_judge 19 = .ok (.aload_n 0, 1) := by decide +kernel
theorem dX9_judge_20 : decode cX9_judge 20 = .ok (.getfield 68, 3) := by decide +kernel
theorem dX9_judge_23 : decode cX9_judge 23 = .ok (.iload_n 1, 1) := by decide +kernel
theorem dX9_judge_24 : decode cX9_judge 24 = .ok (.iaload, 1) := by decide +kernel
theorem dX9_judge_25 : decode cX9_judge 25 = .ok (.iconst 4, 1) := by decide +kernel
theorem dX9_judge_26 : decode cX9_judge 26 = .ok (.if_icmp .eq 6, 3) := by decide +kernel
theorem dX9_judge_29 : decode cX9_judge 29 = .ok (.bipush (-12), 2) := by decide +kernel
theorem dX9_judge_31 : decode cX9_judge 31 = .ok (.ireturn, 1) := by decide +kernel
theorem dX9_judge_32 : decode cX9_judge 32 = .ok (.iconst 0, 1) := by decide +kernel
theorem dX9_judge_33 : decode cX9_judge 33 = .ok (.istore_n 3, 1) := by decide +kernel
theorem dX9_judge_34 : decode cX9_judge 34 = .ok (.iload_n 3, 1) := by decide +kernel
theorem dX9_judge_35 : decode cX9_judge 35 = .ok (.bipush 8, 2) := by decide +kernel
theorem dX9_judge_37 : decode cX9_judge 37 = .ok (.if_icmp .ge 69, 3) := by decide +kernel
theorem dX9_judge_40 : decode cX9_judge 40 = .ok (.iload_n 2, 1) := by decide +kernel
theorem dX9_judge_41 : decode cX9_judge 41 = .ok (.i2l, 1) := by decide +kernel
theorem dX9_judge_42 : decode cX9_judge 42 = .ok (.iload_n 3, 1) := by decide +kernel
theorem dX9_judge_43 : decode cX9_judge 43 = .ok (.i2l, 1) := by decide +kernel
theorem dX9_judge_44 : decode cX9_judge 44 = .ok (.ladd, 1) := by decide +kernel
theorem dX9_judge_45 : decode cX9_judge 45 = .ok (.lstore 4, 2) := by decide +kernel
theorem dX9_judge_47 : decode cX9_judge 47 = .ok (.iload_n 2, 1) := by decide +kernel
theorem dX9_judge_48 : decode cX9_judge 48 = .ok (.ifCond .lt 16, 3) := by decide +kernel
theorem dX9_judge_51 : decode cX9_judge 51 = .ok (.lload 4, 2) := by decide +kernel
theorem dX9_judge_53 : decode cX9_judge 53 = .ok (.aload_n 0, 1) := by decide +kernel
theorem dX9_judge_54 : decode cX9_judge 54 = .ok (.getfield 71, 3) := by decide +kernel
theorem dX9_judge_57 : decode cX9_judge 57 = .ok (.iload_n 1, 1) := by decide +kernel
theorem dX9_judge_58 : decode cX9_judge 58 = .ok (.iaload, 1) := by decide +kernel
theorem dX9_judge_59 : decode cX9_judge 59 = .ok (.i2l, 1) := by decide +kernel
theorem dX9_judge_60 : decode cX9_judge 60 = .ok (.lcmp, 1) := by decide +kernel
theorem dX9_judge_61 : decode cX9_judge 61 = .ok (.ifCond .lt 8, 3) := by decide +kernel
theorem dX9_judge_64 : decode cX9_judge 64 = .ok (.bipush 100, 2) := by decide +kernel
theorem dX9_judge_66 : decode cX9_judge 66 = .ok (.iload_n 3, 1) := by decide +kernel
theorem dX9_judge_67 : decode cX9_judge 67 = .ok (.iadd, 1) := by decide +kernel
theorem dX9_judge_68 : decode cX9_judge 68 = .ok (.ireturn, 1) := by decide +kernel
theorem dX9_judge_69 : decode cX9_judge 69 = .ok (.aload_n 0, 1) := by decide +kernel
theorem dX9_judge_70 : decode cX9_judge 70 = .ok (.getfield 74, 3) := by decide +kernel
theorem dX9_judge_73 : decode cX9_judge 73 = .ok (.bipush 60, 2) := by decide +kernel
theorem dX9_judge_75 : decode cX9_judge 75 = .ok (.iload_n 1, 1) := by decide +kernel
theorem dX9_judge_76 : decode cX9_judge 76 = .ok (.imul, 1) := by decide +kernel
theorem dX9_judge_77 : decode cX9_judge 77 = .ok (.lload 4, 2) := by decide +kernel
theorem dX9_judge_79 : decode cX9_judge 79 = .ok (.l2i, 1) := by decide +kernel
theorem dX9_judge_80 : decode cX9_judge 80 = .ok (.iadd, 1) := by decide +kernel
theorem dX9_judge_81 : decode cX9_judge 81 = .ok (.laload, 1) := by decide +kernel
theorem dX9_judge_82 : decode cX9_judge 82 = .ok (.aload_n 0, 1) := by decide +kernel
theorem dX9_judge_83 : decode cX9_judge 83 = .ok (.getfield 9, 3) := by decide +kernel
theorem dX9_judge_86 : decode cX9_judge 86 = .ok (.bipush 55, 2) := by decide +kernel
theorem dX9_judge_88 : decode cX9_judge 88 = .ok (.iaload, 1) := by decide +kernel
theorem dX9_judge_89 : decode cX9_judge 89 = .ok (.iload_n 3, 1) := by decide +kernel
theorem dX9_judge_90 : decode cX9_judge 90 = .ok (.ishr, 1) := by decide +kernel
theorem dX9_judge_91 : decode cX9_judge 91 = .ok (.iconst 1, 1) := by decide +kernel
theorem dX9_judge_92 : decode cX9_judge 92 = .ok (.iand, 1) := by decide +kernel
theorem dX9_judge_93 : decode cX9_judge 93 = .ok (.i2l, 1) := by decide +kernel
theorem dX9_judge_94 : decode cX9_judge 94 = .ok (.lcmp, 1) := by decide +kernel
theorem dX9_judge_95 : decode cX9_judge 95 = .ok (.ifCond .eq 5, 3) := by decide +kernel
theorem dX9_judge_98 : decode cX9_judge 98 = .ok (.iload_n 3, 1) := by decide +kernel
theorem dX9_judge_99 : decode cX9_judge 99 = .ok (.ireturn, 1) := by decide +kernel
theorem dX9_judge_100 : decode cX9_judge 100 = .ok (.iinc 3 1, 3) := by decide +kernel
theorem dX9_judge_103 : decode cX9_judge 103 = .ok (.goto (-69), 3) := by decide +kernel
theorem dX9_judge_106 : decode cX9_judge 106 = .ok (.bipush (-5), 2) := by decide +kernel
theorem dX9_judge_108 : decode cX9_judge 108 = .ok (.ireturn, 1) := by decide +kernel
theorem dJ6_bitCount_0f7a4_0 : decode cJ6_bitCount_0f7a4 0 = .ok (.iload_n 0, 1) := by decide +kernel
theorem dJ6_bitCount_0f7a4_1 : decode cJ6_bitCount_0f7a4 1 = .ok (.iload_n 0, 1) := by decide +kernel
theorem dJ6_bitCount_0f7a4_2 : decode cJ6_bitCount_0f7a4 2 = .ok (.iconst 1, 1) := by decide +kernel
theorem dJ6_bitCount_0f7a4_3 : decode cJ6_bitCount_0f7a4 3 = .ok (.iushr, 1) := by decide +kernel
theorem dJ6_bitCount_0f7a4_4 : decode cJ6_bitCount_0f7a4 4 = .ok (.ldc_w 265, 3) := by decide +kernel
theorem dJ6_bitCount_0f7a4_7 : decode cJ6_bitCount_0f7a4 7 = .ok (.iand, 1) := by decide +kernel
theorem dJ6_bitCount_0f7a4_8 : decode cJ6_bitCount_0f7a4 8 = .ok (.isub, 1) := by decide +kernel
theorem dJ6_bitCount_0f7a4_9 : decode cJ6_bitCount_0f7a4 9 = .ok (.istore_n 0, 1) := by decide +kernel
theorem dJ6_bitCount_0f7a4_10 : decode cJ6_bitCount_0f7a4 10 = .ok (.iload_n 0, 1) := by decide +kernel
theorem dJ6_bitCount_0f7a4_11 : decode cJ6_bitCount_0f7a4 11 = .ok (.ldc_w 266, 3) := by decide +kernel
theorem dJ6_bitCount_0f7a4_14 : decode cJ6_bitCount_0f7a4 14 = .ok (.iand, 1) := by decide +kernel
theorem dJ6_bitCount_0f7a4_15 : decode cJ6_bitCount_0f7a4 15 = .ok (.iload_n 0, 1) := by decide +kernel
theorem dJ6_bitCount_0f7a4_16 : decode cJ6_bitCount_0f7a4 16 = .ok (.iconst 2, 1) := by decide +kernel
theorem dJ6_bitCount_0f7a4_17 : decode cJ6_bitCount_0f7a4 17 = .ok (.iushr, 1) := by decide +kernel
theorem dJ6_bitCount_0f7a4_18 : decode cJ6_bitCount_0f7a4 18 = .ok (.ldc_w 266, 3) := by decide +kernel
theorem dJ6_bitCount_0f7a4_21 : decode cJ6_bitCount_0f7a4 21 = .ok (.iand, 1) := by decide +kernel
theorem dJ6_bitCount_0f7a4_22 : decode cJ6_bitCount_0f7a4 22 = .ok (.iadd, 1) := by decide +kernel
theorem dJ6_bitCount_0f7a4_23 : decode cJ6_bitCount_0f7a4 23 = .ok (.istore_n 0, 1) := by decide +kernel
theorem dJ6_bitCount_0f7a4_24 : decode cJ6_bitCount_0f7a4 24 = .ok (.iload_n 0, 1) := by decide +kernel
theorem dJ6_bitCount_0f7a4_25 : decode cJ6_bitCount_0f7a4 25 = .ok (.iload_n 0, 1) := by decide +kernel
theorem dJ6_bitCount_0f7a4_26 : decode cJ6_bitCount_0f7a4 26 = .ok (.iconst 4, 1) := by decide +kernel
theorem dJ6_bitCount_0f7a4_27 : decode cJ6_bitCount_0f7a4 27 = .ok (.iushr, 1) := by decide +kernel
theorem dJ6_bitCount_0f7a4_28 : decode cJ6_bitCount_0f7a4 28 = .ok (.iadd, 1) := by decide +kernel
theorem dJ6_bitCount_0f7a4_29 : decode cJ6_bitCount_0f7a4 29 = .ok (.ldc_w 267, 3) := by decide +kernel
theorem dJ6_bitCount_0f7a4_32 : decode cJ6_bitCount_0f7a4 32 = .ok (.iand, 1) := by decide +kernel
theorem dJ6_bitCount_0f7a4_33 : decode cJ6_bitCount_0f7a4 33 = .ok (.istore_n 0, 1) := by decide +kernel
theorem dJ6_bitCount_0f7a4_34 : decode cJ6_bitCount_0f7a4 34 = .ok (.iload_n 0, 1) := by decide +kernel
theorem dJ6_bitCount_0f7a4_35 : decode cJ6_bitCount_0f7a4 35 = .ok (.iload_n 0, 1) := by decide +kernel
theorem dJ6_bitCount_0f7a4_36 : decode cJ6_bitCount_0f7a4 36 = .ok (.bipush 8, 2) := by decide +kernel
theorem dJ6_bitCount_0f7a4_38 : decode cJ6_bitCount_0f7a4 38 = .ok (.iushr, 1) := by decide +kernel
theorem dJ6_bitCount_0f7a4_39 : decode cJ6_bitCount_0f7a4 39 = .ok (.iadd, 1) := by decide +kernel
theorem dJ6_bitCount_0f7a4_40 : decode cJ6_bitCount_0f7a4 40 = .ok (.istore_n 0, 1) := by decide +kernel
theorem dJ6_bitCount_0f7a4_41 : decode cJ6_bitCount_0f7a4 41 = .ok (.iload_n 0, 1) := by decide +kernel
theorem dJ6_bitCount_0f7a4_42 : decode cJ6_bitCount_0f7a4 42 = .ok (.iload_n 0, 1) := by decide +kernel
theorem dJ6_bitCount_0f7a4_43 : decode cJ6_bitCount_0f7a4 43 = .ok (.bipush 16, 2) := by decide +kernel
theorem dJ6_bitCount_0f7a4_45 : decode cJ6_bitCount_0f7a4 45 = .ok (.iushr, 1) := by decide +kernel
theorem dJ6_bitCount_0f7a4_46 : decode cJ6_bitCount_0f7a4 46 = .ok (.iadd, 1) := by decide +kernel
theorem dJ6_bitCount_0f7a4_47 : decode cJ6_bitCount_0f7a4 47 = .ok (.istore_n 0, 1) := by decide +kernel
theorem dJ6_bitCount_0f7a4_48 : decode cJ6_bitCount_0f7a4 48 = .ok (.iload_n 0, 1) := by decide +kernel
theorem dJ6_bitCount_0f7a4_49 : decode cJ6_bitCount_0f7a4 49 = .ok (.bipush 63, 2) := by decide +kernel
theorem dJ6_bitCount_0f7a4_51 : decode cJ6_bitCount_0f7a4 51 = .ok (.iand, 1) := by decide +kernel
theorem dJ6_bitCount_0f7a4_52 : decode cJ6_bitCount_0f7a4 52 = .ok (.ireturn, 1) := by decide +kernel
theorem dJ9_abs_0f7a4_0 : decode cJ9_abs_0f7a4 0 = .ok (.iload_n 0, 1) := by decide +kernel
theorem dJ9_abs_0f7a4_1 : decode cJ9_abs_0f7a4 1 = .ok (.ifCond .ge 8, 3) := by decide +kernel
theorem dJ9_abs_0f7a4_4 : decode cJ9_abs_0f7a4 4 = .ok (.iload_n 0, 1) := by decide +kernel
theorem dJ9_abs_0f7a4_5 : decode cJ9_abs_0f7a4 5 = .ok (.ineg, 1) := by decide +kernel
theorem dJ9_abs_0f7a4_6 : decode cJ9_abs_0f7a4 6 = .ok (.goto 4, 3) := by decide +kernel
theorem dJ9_abs_0f7a4_9 : decode cJ9_abs_0f7a4 9 = .ok (.iload_n 0, 1) := by decide +kernel
theorem dJ9_abs_0f7a4_10 : decode cJ9_abs_0f7a4 10 = .ok (.ireturn, 1) := by decide +kernel
theorem dJ9_max_7cf53_0 : decode cJ9_max_7cf53 0 = .ok (.iload_n 0, 1) := by decide +kernel
theorem dJ9_max_7cf53_1 : decode cJ9_max_7cf53 1 = .ok (.iload_n 1, 1) := by decide +kernel
theorem dJ9_max_7cf53_2 : decode cJ9_max_7cf53 2 = .ok (.if_icmp .lt 7, 3) := by decide +kernel
theorem dJ9_max_7cf53_5 : decode cJ9_max_7cf53 5 = .ok (.iload_n 0, 1) := by decide +kernel
theorem dJ9_max_7cf53_6 : decode cJ9_max_7cf53 6 = .ok (.goto 4, 3) := by decide +kernel
theorem dJ9_max_7cf53_9 : decode cJ9_max_7cf53 9 = .ok (.iload_n 1, 1) := by decide +kernel
theorem dJ9_max_7cf53_10 : decode cJ9_max_7cf53 10 = .ok (.ireturn, 1) := by decide +kernel
theorem dJ9_min_7cf53_0 : decode cJ9_min_7cf53 0 = .ok (.iload_n 0, 1) := by decide +kernel
theorem dJ9_min_7cf53_1 : decode cJ9_min_7cf53 1 = .ok (.iload_n 1, 1) := by decide +kernel
theorem dJ9_min_7cf53_2 : decode cJ9_min_7cf53 2 = .ok (.if_icmp .gt 7, 3) := by decide +kernel
theorem dJ9_min_7cf53_5 : decode cJ9_min_7cf53 5 = .ok (.iload_n 0, 1) := by decide +kernel
theorem dJ9_min_7cf53_6 : decode cJ9_min_7cf53 6 = .ok (.goto 4, 3) := by decide +kernel
theorem dJ9_min_7cf53_9 : decode cJ9_min_7cf53 9 = .ok (.iload_n 1, 1) := by decide +kernel
theorem dJ9_min_7cf53_10 : decode cJ9_min_7cf53 10 = .ok (.ireturn, 1) := by decide +kernel
theorem dJ0_length_8abf5_0 : decode cJ0_length_8abf5 0 = .ok (.aload_n 0, 1) := by decide +kernel
theorem dJ0_length_8abf5_1 : decode cJ0_length_8abf5 1 = .ok (.getfield 9, 3) := by decide +kernel
theorem dJ0_length_8abf5_4 : decode cJ0_length_8abf5 4 = .ok (.arraylength, 1) := by decide +kernel
theorem dJ0_length_8abf5_5 : decode cJ0_length_8abf5 5 = .ok (.aload_n 0, 1) := by decide +kernel
theorem dJ0_length_8abf5_6 : decode cJ0_length_8abf5 6 = .ok (.invokevirtual 335, 3) := by decide +kernel
theorem dJ0_length_8abf5_9 : decode cJ0_length_8abf5 9 = .ok (.ishr, 1) := by decide +kernel
theorem dJ0_length_8abf5_10 : decode cJ0_length_8abf5 10 = .ok (.ireturn, 1) := by decide +kernel
theorem dJ0_charAt_5068e_0 : decode cJ0_charAt_5068e 0 = .ok (.aload_n 0, 1) := by decide +kernel
theorem dJ0_charAt_5068e_1 : decode cJ0_charAt_5068e 1 = .ok (.invokevirtual 492, 3) := by decide +kernel
theorem dJ0_charAt_5068e_4 : decode cJ0_charAt_5068e 4 = .ok (.ifCond .eq 12, 3) := by decide +kernel
theorem dJ0_charAt_5068e_7 : decode cJ0_charAt_5068e 7 = .ok (.aload_n 0, 1) := by decide +kernel
theorem dJ0_charAt_5068e_8 : decode cJ0_charAt_5068e 8 = .ok (.getfield 9, 3) := by decide +kernel
theorem dJ0_charAt_5068e_11 : decode cJ0_charAt_5068e 11 = .ok (.iload_n 1, 1) := by decide +kernel
theorem dJ0_charAt_5068e_12 : decode cJ0_charAt_5068e 12 = .ok (.invokestatic 495, 3) := by decide +kernel
theorem dJ0_charAt_5068e_15 : decode cJ0_charAt_5068e 15 = .ok (.ireturn, 1) := by decide +kernel
theorem dJ0_charAt_5068e_16 : decode cJ0_charAt_5068e 16 = .ok (.aload_n 0, 1) := by decide +kernel
theorem dJ0_charAt_5068e_17 : decode cJ0_charAt_5068e 17 = .ok (.getfield 9, 3) := by decide +kernel
theorem dJ0_charAt_5068e_20 : decode cJ0_charAt_5068e 20 = .ok (.iload_n 1, 1) := by decide +kernel
theorem dJ0_charAt_5068e_21 : decode cJ0_charAt_5068e 21 = .ok (.invokestatic 498, 3) := by decide +kernel
theorem dJ0_charAt_5068e_24 : decode cJ0_charAt_5068e 24 = .ok (.ireturn, 1) := by decide +kernel
theorem dJ0_indexOf_0f7a4_0 : decode cJ0_indexOf_0f7a4 0 = .ok (.aload_n 0, 1) := by decide +kernel
theorem dJ0_indexOf_0f7a4_1 : decode cJ0_indexOf_0f7a4 1 = .ok (.iload_n 1, 1) := by decide +kernel
theorem dJ0_indexOf_0f7a4_2 : decode cJ0_indexOf_0f7a4 2 = .ok (.iconst 0, 1) := by decide +kernel
theorem dJ0_indexOf_0f7a4_3 : decode cJ0_indexOf_0f7a4 3 = .ok (.invokevirtual 633, 3) := by decide +kernel
theorem dJ0_indexOf_0f7a4_6 : decode cJ0_indexOf_0f7a4 6 = .ok (.ireturn, 1) := by decide +kernel
theorem dJ0_indexOf_7cf53_0 : decode cJ0_indexOf_7cf53 0 = .ok (.aload_n 0, 1) := by decide +kernel
theorem dJ0_indexOf_7cf53_1 : decode cJ0_indexOf_7cf53 1 = .ok (.invokevirtual 492, 3) := by decide +kernel
theorem dJ0_indexOf_7cf53_4 : decode cJ0_indexOf_7cf53 4 = .ok (.ifCond .eq 19, 3) := by decide +kernel
theorem dJ0_indexOf_7cf53_7 : decode cJ0_indexOf_7cf53 7 = .ok (.aload_n 0, 1) := by decide +kernel
theorem dJ0_indexOf_7cf53_8 : decode cJ0_indexOf_7cf53 8 = .ok (.getfield 9, 3) := by decide +kernel
theorem dJ0_indexOf_7cf53_11 : decode cJ0_indexOf_7cf53 11 = .ok (.iload_n 1, 1) := by decide +kernel
theorem dJ0_indexOf_7cf53_12 : decode cJ0_indexOf_7cf53 12 = .ok (.iload_n 2, 1) := by decide +kernel
theorem dJ0_indexOf_7cf53_13 : decode cJ0_indexOf_7cf53 13 = .ok (.aload_n 0, 1) := by decide +kernel
theorem dJ0_indexOf_7cf53_14 : decode cJ0_indexOf_7cf53 14 = .ok (.invokevirtual 505, 3) := by decide +kernel
theorem dJ0_indexOf_7cf53_17 : decode cJ0_indexOf_7cf53 17 = .ok (.invokestatic 637, 3) := by decide +kernel
theorem dJ0_indexOf_7cf53_20 : decode cJ0_indexOf_7cf53 20 = .ok (.goto 16, 3) := by decide +kernel
theorem dJ0_indexOf_7cf53_23 : decode cJ0_indexOf_7cf53 23 = .ok (.aload_n 0, 1) := by decide +kernel
theorem dJ0_indexOf_7cf53_24 : decode cJ0_indexOf_7cf53 24 = .ok (.getfield 9, 3) := by decide +kernel
theorem dJ0_indexOf_7cf53_27 : decode cJ0_indexOf_7cf53 27 = .ok (.iload_n 1, 1) := by decide +kernel
theorem dJ0_indexOf_7cf53_28 : decode cJ0_indexOf_7cf53 28 = .ok (.iload_n 2, 1) := by decide +kernel
theorem dJ0_indexOf_7cf53_29 : decode cJ0_indexOf_7cf53 29 = .ok (.aload_n 0, 1) := by decide +kernel
theorem dJ0_indexOf_7cf53_30 : decode cJ0_indexOf_7cf53 30 = .ok (.invokevirtual 505, 3) := by decide +kernel
theorem dJ0_indexOf_7cf53_33 : decode cJ0_indexOf_7cf53 33 = .ok (.invokestatic 640, 3) := by decide +kernel
theorem dJ0_indexOf_7cf53_36 : decode cJ0_indexOf_7cf53 36 = .ok (.ireturn, 1) := by decide +kernel
theorem dJ0_coder_7d493_0 : decode cJ0_coder_7d493 0 = .ok (.getstatic 38, 3) := by decide +kernel
theorem dJ0_coder_7d493_3 : decode cJ0_coder_7d493 3 = .ok (.ifCond .eq 10, 3) := by decide +kernel
theorem dJ0_coder_7d493_6 : decode cJ0_coder_7d493 6 = .ok (.aload_n 0, 1) := by decide +kernel
theorem dJ0_coder_7d493_7 : decode cJ0_coder_7d493 7 = .ok (.getfield 15, 3) := by decide +kernel
theorem dJ0_coder_7d493_10 : decode cJ0_coder_7d493 10 = .ok (.goto 4, 3) := by decide +kernel
theorem dJ0_coder_7d493_13 : decode cJ0_coder_7d493 13 = .ok (.iconst 1, 1) := by decide +kernel
theorem dJ0_coder_7d493_14 : decode cJ0_coder_7d493 14 = .ok (.ireturn, 1) := by decide +kernel
theorem dJ0_isLatin1_aae02_0 : decode cJ0_isLatin1_aae02 0 = .ok (.getstatic 38, 3) := by decide +kernel
theorem dJ0_isLatin1_aae02_3 : decode cJ0_isLatin1_aae02 3 = .ok (.ifCond .eq 14, 3) := by decide +kernel
theorem dJ0_isLatin1_aae02_6 : decode cJ0_isLatin1_aae02 6 = .ok (.aload_n 0, 1) := by decide +kernel
theorem dJ0_isLatin1_aae02_7 : decode cJ0_isLatin1_aae02 7 = .ok (.getfield 15, 3) := by decide +kernel
theorem dJ0_isLatin1_aae02_10 : decode cJ0_isLatin1_aae02 10 = .ok (.ifCond .ne 7, 3) := by decide +kernel
theorem dJ0_isLatin1_aae02_13 : decode cJ0_isLatin1_aae02 13 = .ok (.iconst 1, 1) := by decide +kernel
theorem dJ0_isLatin1_aae02_14 : decode cJ0_isLatin1_aae02 14 = .ok (.goto 4, 3) := by decide +kernel
theorem dJ0_isLatin1_aae02_17 : decode cJ0_isLatin1_aae02 17 = .ok (.iconst 0, 1) := by decide +kernel
theorem dJ0_isLatin1_aae02_18 : decode cJ0_isLatin1_aae02 18 = .ok (.ireturn, 1) := by decide +kernel
theorem dJ0_checkIndex_df160_0 : decode cJ0_checkIndex_df160 0 = .ok (.iload_n 0, 1) := by decide +kernel
theorem dJ0_checkIndex_df160_1 : decode cJ0_checkIndex_df160 1 = .ok (.iload_n 1, 1) := by decide +kernel
theorem dJ0_checkIndex_df160_2 : decode cJ0_checkIndex_df160 2 = .ok (.getstatic 1053, 3) := by decide +kernel
theorem dJ0_checkIndex_df160_5 : decode cJ0_checkIndex_df160 5 = .ok (.invokestatic 1059, 3) := by decide +kernel
theorem dJ0_checkIndex_df160_8 : decode cJ0_checkIndex_df160 8 = .ok (.pop, 1) := by decide +kernel
theorem dJ0_checkIndex_df160_9 : decode cJ0_checkIndex_df160 9 = .ok (.return_, 1) := by decide +kernel
theorem dJ0_checkBoundsBeginEnd_23922_0 : decode cJ0_checkBoundsBeginEnd_23922 0 = .ok (.iload_n 0, 1) := by decide +kernel
theorem dJ0_checkBoundsBeginEnd_23922_1 : decode cJ0_checkBoundsBeginEnd_23922 1 = .ok (.iload_n 1, 1) := by decide +kernel
theorem dJ0_checkBoundsBeginEnd_23922_2 : decode cJ0_checkBoundsBeginEnd_23922 2 = .ok (.iload_n 2, 1) := by decide +kernel
theorem dJ0_checkBoundsBeginEnd_23922_3 : decode cJ0_checkBoundsBeginEnd_23922 3 = .ok (.getstatic 1053, 3) := by decide +kernel
theorem dJ0_checkBoundsBeginEnd_23922_6 : decode cJ0_checkBoundsBeginEnd_23922 6 = .ok (.invokestatic 1062, 3) := by decide +kernel
theorem dJ0_checkBoundsBeginEnd_23922_9 : decode cJ0_checkBoundsBeginEnd_23922 9 = .ok (.pop, 1) := by decide +kernel
theorem dJ0_checkBoundsBeginEnd_23922_10 : decode cJ0_checkBoundsBeginEnd_23922 10 = .ok (.return_, 1) := by decide +kernel
theorem dJ1_charAt_3b067_0 : decode cJ1_charAt_3b067 0 = .ok (.iload_n 1, 1) := by decide +kernel
theorem dJ1_charAt_3b067_1 : decode cJ1_charAt_3b067 1 = .ok (.aload_n 0, 1) := by decide +kernel
theorem dJ1_charAt_3b067_2 : decode cJ1_charAt_3b067 2 = .ok (.arraylength, 1) := by decide +kernel
theorem dJ1_charAt_3b067_3 : decode cJ1_charAt_3b067 3 = .ok (.invokestatic 9, 3) := by decide +kernel
theorem dJ1_charAt_3b067_6 : decode cJ1_charAt_3b067 6 = .ok (.aload_n 0, 1) := by decide +kernel
theorem dJ1_charAt_3b067_7 : decode cJ1_charAt_3b067 7 = .ok (.iload_n 1, 1) := by decide +kernel
theorem dJ1_charAt_3b067_8 : decode cJ1_charAt_3b067 8 = .ok (.baload, 1) := by decide +kernel
theorem dJ1_charAt_3b067_9 : decode cJ1_charAt_3b067 9 = .ok (.sipush 255, 3) := by decide +kernel
theorem dJ1_charAt_3b067_12 : decode cJ1_charAt_3b067 12 = .ok (.iand, 1) := by decide +kernel
theorem dJ1_charAt_3b067_13 : decode cJ1_charAt_3b067 13 = .ok (.i2c, 1) := by decide +kernel
theorem dJ1_charAt_3b067_14 : decode cJ1_charAt_3b067 14 = .ok (.ireturn, 1) := by decide +kernel
theorem dJ1_canEncode_9a6ad_0 : decode cJ1_canEncode_9a6ad 0 = .ok (.iload_n 0, 1) := by decide +kernel
theorem dJ1_canEncode_9a6ad_1 : decode cJ1_canEncode_9a6ad 1 = .ok (.ifCond .lt 14, 3) := by decide +kernel
theorem dJ1_canEncode_9a6ad_4 : decode cJ1_canEncode_9a6ad 4 = .ok (.iload_n 0, 1) := by decide +kernel
theorem dJ1_canEncode_9a6ad_5 : decode cJ1_canEncode_9a6ad 5 = .ok (.sipush 255, 3) := by decide +kernel
theorem dJ1_canEncode_9a6ad_8 : decode cJ1_canEncode_9a6ad 8 = .ok (.if_icmp .gt 7, 3) := by decide +kernel
theorem dJ1_canEncode_9a6ad_11 : decode cJ1_canEncode_9a6ad 11 = .ok (.iconst 1, 1) := by decide +kernel
theorem dJ1_canEncode_9a6ad_12 : decode cJ1_canEncode_9a6ad 12 = .ok (.goto 4, 3) := by decide +kernel
theorem dJ1_canEncode_9a6ad_15 : decode cJ1_canEncode_9a6ad 15 = .ok (.iconst 0, 1) := by decide +kernel
theorem dJ1_canEncode_9a6ad_16 : decode cJ1_canEncode_9a6ad 16 = .ok (.ireturn, 1) := by decide +kernel
theorem dJ1_indexOf_4cfef_0 : decode cJ1_indexOf_4cfef 0 = .ok (.iload_n 1, 1) := by decide +kernel
theorem dJ1_indexOf_4cfef_1 : decode cJ1_indexOf_4cfef 1 = .ok (.invokestatic 88, 3) := by decide +kernel
theorem dJ1_indexOf_4cfef_4 : decode cJ1_indexOf_4cfef 4 = .ok (.ifCond .ne 5, 3) := by decide +kernel
theorem dJ1_indexOf_4cfef_7 : decode cJ1_indexOf_4cfef 7 = .ok (.iconst (-1), 1) := by decide +kernel
theorem dJ1_indexOf_4cfef_8 : decode cJ1_indexOf_4cfef 8 = .ok (.ireturn, 1) := by decide +kernel
theorem dJ1_indexOf_4cfef_9 : decode cJ1_indexOf_4cfef 9 = .ok (.iload_n 2, 1) := by decide +kernel
theorem dJ1_indexOf_4cfef_10 : decode cJ1_indexOf_4cfef 10 = .ok (.iconst 0, 1) := by decide +kernel
theorem dJ1_indexOf_4cfef_11 : decode cJ1_indexOf_4cfef 11 = .ok (.invokestatic 92, 3) := by decide +kernel
theorem dJ1_indexOf_4cfef_14 : decode cJ1_indexOf_4cfef 14 = .ok (.istore_n 2, 1) := by decide +kernel
theorem dJ1_indexOf_4cfef_15 : decode cJ1_indexOf_4cfef 15 = .ok (.iload_n 3, 1) := by decide +kernel
theorem dJ1_indexOf_4cfef_16 : decode cJ1_indexOf_4cfef 16 = .ok (.aload_n 0, 1) := by decide +kernel
theorem dJ1_indexOf_4cfef_17 : decode cJ1_indexOf_4cfef 17 = .ok (.arraylength, 1) := by decide +kernel
theorem dJ1_indexOf_4cfef_18 : decode cJ1_indexOf_4cfef 18 = .ok (.invokestatic 38, 3) := by decide +kernel
theorem dJ1_indexOf_4cfef_21 : decode cJ1_indexOf_4cfef 21 = .ok (.istore_n 3, 1) := by decide +kernel
theorem dJ1_indexOf_4cfef_22 : decode cJ1_indexOf_4cfef 22 = .ok (.iload_n 2, 1) := by decide +kernel
theorem dJ1_indexOf_4cfef_23 : decode cJ1_indexOf_4cfef 23 = .ok (.iload_n 3, 1) := by decide +kernel
theorem dJ1_indexOf_4cfef_24 : decode cJ1_indexOf_4cfef 24 = .ok (.if_icmp .lt 5, 3) := by decide +kernel
theorem dJ1_indexOf_4cfef_27 : decode cJ1_indexOf_4cfef 27 = .ok (.iconst (-1), 1) := by decide +kernel
theorem dJ1_indexOf_4cfef_28 : decode cJ1_indexOf_4cfef 28 = .ok (.ireturn, 1) := by decide +kernel
theorem dJ1_indexOf_4cfef_29 : decode cJ1_indexOf_4cfef 29 = .ok (.aload_n 0, 1) := by decide +kernel
theorem dJ1_indexOf_4cfef_30 : decode cJ1_indexOf_4cfef 30 = .ok (.iload_n 1, 1) := by decide +kernel
theorem dJ1_indexOf_4cfef_31 : decode cJ1_indexOf_4cfef 31 = .ok (.iload_n 2, 1) := by decide +kernel
theorem dJ1_indexOf_4cfef_32 : decode cJ1_indexOf_4cfef 32 = .ok (.iload_n 3, 1) := by decide +kernel
theorem dJ1_indexOf_4cfef_33 : decode cJ1_indexOf_4cfef 33 = .ok (.invokestatic 95, 3) := by decide +kernel
theorem dJ1_indexOf_4cfef_36 : decode cJ1_indexOf_4cfef 36 = .ok (.ireturn, 1) := by decide +kernel
theorem dJ1_indexOfChar_4cfef_0 : decode cJ1_indexOfChar_4cfef 0 = .ok (.iload_n 1, 1) := by decide +kernel
