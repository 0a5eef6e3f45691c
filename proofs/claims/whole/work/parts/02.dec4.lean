theorem dX9_test_99 : decode cX9_test 99 = .ok (.bipush 62, 2) := by decide +kernel
theorem dX9_test_101 : decode cX9_test 101 = .ok (.goto 5, 3) := by decide +kernel
theorem dX9_test_104 : decode cX9_test 104 = .ok (.bipush 61, 2) := by decide +kernel
theorem dX9_test_106 : decode cX9_test 106 = .ok (.invokevirtual 152, 3) := by decide +kernel
theorem dX9_test_109 : decode cX9_test 109 = .ok (.aload_n 0, 1) := by decide +kernel
theorem dX9_test_110 : decode cX9_test 110 = .ok (.invokevirtual 155, 3) := by decide +kernel
theorem dX9_test_113 : decode cX9_test 113 = .ok (.istore_n 3, 1) := by decide +kernel
theorem dX9_test_114 : decode cX9_test 114 = .ok (.iload_n 2, 1) := by decide +kernel
theorem dX9_test_115 : decode cX9_test 115 = .ok (.ifCond .ge 21, 3) := by decide +kernel
theorem dX9_test_118 : decode cX9_test 118 = .ok (.aload_n 0, 1) := by decide +kernel
theorem dX9_test_119 : decode cX9_test 119 = .ok (.getfield 33, 3) := by decide +kernel
theorem dX9_test_122 : decode cX9_test 122 = .ok (.iload_n 1, 1) := by decide +kernel
theorem dX9_test_123 : decode cX9_test 123 = .ok (.iaload, 1) := by decide +kernel
theorem dX9_test_124 : decode cX9_test 124 = .ok (.iload_n 3, 1) := by decide +kernel
theorem dX9_test_125 : decode cX9_test 125 = .ok (.if_icmp .ge 7, 3) := by decide +kernel
theorem dX9_test_128 : decode cX9_test 128 = .ok (.iconst 1, 1) := by decide +kernel
theorem dX9_test_129 : decode cX9_test 129 = .ok (.goto 44, 3) := by decide +kernel
theorem dX9_test_132 : decode cX9_test 132 = .ok (.iconst 0, 1) := by decide +kernel
theorem dX9_test_133 : decode cX9_test 133 = .ok (.goto 40, 3) := by decide +kernel
theorem dX9_test_136 : decode cX9_test 136 = .ok (.iload_n 2, 1) := by decide +kernel
theorem dX9_test_137 : decode cX9_test 137 = .ok (.ifCond .le 21, 3) := by decide +kernel
theorem dX9_test_140 : decode cX9_test 140 = .ok (.aload_n 0, 1) := by decide +kernel
theorem dX9_test_141 : decode cX9_test 141 = .ok (.getfield 33, 3) := by decide +kernel
theorem dX9_test_144 : decode cX9_test 144 = .ok (.iload_n 1, 1) := by decide +kernel
theorem dX9_test_145 : decode cX9_test 145 = .ok (.iaload, 1) := by decide +kernel
theorem dX9_test_146 : decode cX9_test 146 = .ok (.iload_n 3, 1) := by decide +kernel
theorem dX9_test_147 : decode cX9_test 147 = .ok (.if_icmp .le 7, 3) := by decide +kernel
theorem dX9_test_150 : decode cX9_test 150 = .ok (.iconst 1, 1) := by decide +kernel
theorem dX9_test_151 : decode cX9_test 151 = .ok (.goto 22, 3) := by decide +kernel
theorem dX9_test_154 : decode cX9_test 154 = .ok (.iconst 0, 1) := by decide +kernel
theorem dX9_test_155 : decode cX9_test 155 = .ok (.goto 18, 3) := by decide +kernel
theorem dX9_test_158 : decode cX9_test 158 = .ok (.aload_n 0, 1) := by decide +kernel
theorem dX9_test_159 : decode cX9_test 159 = .ok (.getfield 33, 3) := by decide +kernel
theorem dX9_test_162 : decode cX9_test 162 = .ok (.iload_n 1, 1) := by decide +kernel
theorem dX9_test_163 : decode cX9_test 163 = .ok (.iaload, 1) := by decide +kernel
theorem dX9_test_164 : decode cX9_test 164 = .ok (.iload_n 3, 1) := by decide +kernel
theorem dX9_test_165 : decode cX9_test 165 = .ok (.if_icmp .ne 7, 3) := by decide +kernel
theorem dX9_test_168 : decode cX9_test 168 = .ok (.iconst 1, 1) := by decide +kernel
theorem dX9_test_169 : decode cX9_test 169 = .ok (.goto 4, 3) := by decide +kernel
theorem dX9_test_172 : decode cX9_test 172 = .ok (.iconst 0, 1) := by decide +kernel
theorem dX9_test_173 : decode cX9_test 173 = .ok (.ireturn, 1) := by decide +kernel
theorem dX9_factor_0 : decode cX9_factor 0 = .ok (.aload_n 0, 1) := by decide +kernel
theorem dX9_factor_1 : decode cX9_factor 1 = .ok (.getfield 159, 3) := by decide +kernel
theorem dX9_factor_4 : decode cX9_factor 4 = .ok (.iconst 4, 1) := by decide +kernel
theorem dX9_factor_5 : decode cX9_factor 5 = .ok (.if_icmp .ge 58, 3) := by decide +kernel
theorem dX9_factor_8 : decode cX9_factor 8 = .ok (.aload_n 0, 1) := by decide +kernel
theorem dX9_factor_9 : decode cX9_factor 9 = .ok (.bipush 33, 2) := by decide +kernel
theorem dX9_factor_11 : decode cX9_factor 11 = .ok (.invokevirtual 145, 3) := by decide +kernel
theorem dX9_factor_14 : decode cX9_factor 14 = .ok (.ifCond .eq 49, 3) := by decide +kernel
theorem dX9_factor_17 : decode cX9_factor 17 = .ok (.aload_n 0, 1) := by decide +kernel
theorem dX9_factor_18 : decode cX9_factor 18 = .ok (.dup, 1) := by decide +kernel
theorem dX9_factor_19 : decode cX9_factor 19 = .ok (.getfield 139, 3) := by decide +kernel
theorem dX9_factor_22 : decode cX9_factor 22 = .ok (.iconst 1, 1) := by decide +kernel
theorem dX9_factor_23 : decode cX9_factor 23 = .ok (.iadd, 1) := by decide +kernel
theorem dX9_factor_24 : decode cX9_factor 24 = .ok (.putfield 139, 3) := by decide +kernel
theorem dX9_factor_27 : decode cX9_factor 27 = .ok (.aload_n 0, 1) := by decide +kernel
theorem dX9_factor_28 : decode cX9_factor 28 = .ok (.dup, 1) := by decide +kernel
theorem dX9_factor_29 : decode cX9_factor 29 = .ok (.getfield 159, 3) := by decide +kernel
theorem dX9_factor_32 : decode cX9_factor 32 = .ok (.iconst 1, 1) := by decide +kernel
theorem dX9_factor_33 : decode cX9_factor 33 = .ok (.iadd, 1) := by decide +kernel
theorem dX9_factor_34 : decode cX9_factor 34 = .ok (.putfield 159, 3) := by decide +kernel
theorem dX9_factor_37 : decode cX9_factor 37 = .ok (.aload_n 0, 1) := by decide +kernel
theorem dX9_factor_38 : decode cX9_factor 38 = .ok (.invokevirtual 162, 3) := by decide +kernel
theorem dX9_factor_41 : decode cX9_factor 41 = .ok (.ifCond .ne 7, 3) := by decide +kernel
theorem dX9_factor_44 : decode cX9_factor 44 = .ok (.iconst 1, 1) := by decide +kernel
theorem dX9_factor_45 : decode cX9_factor 45 = .ok (.goto 4, 3) := by decide +kernel
theorem dX9_factor_48 : decode cX9_factor 48 = .ok (.iconst 0, 1) := by decide +kernel
theorem dX9_factor_49 : decode cX9_factor 49 = .ok (.istore_n 1, 1) := by decide +kernel
theorem dX9_factor_50 : decode cX9_factor 50 = .ok (.aload_n 0, 1) := by decide +kernel
theorem dX9_factor_51 : decode cX9_factor 51 = .ok (.dup, 1) := by decide +kernel
theorem dX9_factor_52 : decode cX9_factor 52 = .ok (.getfield 159, 3) := by decide +kernel
theorem dX9_factor_55 : decode cX9_factor 55 = .ok (.iconst 1, 1) := by decide +kernel
theorem dX9_factor_56 : decode cX9_factor 56 = .ok (.isub, 1) := by decide +kernel
theorem dX9_factor_57 : decode cX9_factor 57 = .ok (.putfield 159, 3) := by decide +kernel
theorem dX9_factor_60 : decode cX9_factor 60 = .ok (.goto 69, 3) := by decide +kernel
theorem dX9_factor_63 : decode cX9_factor 63 = .ok (.aload_n 0, 1) := by decide +kernel
theorem dX9_factor_64 : decode cX9_factor 64 = .ok (.getfield 159, 3) := by decide +kernel
theorem dX9_factor_67 : decode cX9_factor 67 = .ok (.iconst 4, 1) := by decide +kernel
theorem dX9_factor_68 : decode cX9_factor 68 = .ok (.if_icmp .ge 56, 3) := by decide +kernel
theorem dX9_factor_71 : decode cX9_factor 71 = .ok (.aload_n 0, 1) := by decide +kernel
theorem dX9_factor_72 : decode cX9_factor 72 = .ok (.bipush 40, 2) := by decide +kernel
theorem dX9_factor_74 : decode cX9_factor 74 = .ok (.invokevirtual 145, 3) := by decide +kernel
theorem dX9_factor_77 : decode cX9_factor 77 = .ok (.ifCond .eq 47, 3) := by decide +kernel
theorem dX9_factor_80 : decode cX9_factor 80 = .ok (.aload_n 0, 1) := by decide +kernel
theorem dX9_factor_81 : decode cX9_factor 81 = .ok (.dup, 1) := by decide +kernel
theorem dX9_factor_82 : decode cX9_factor 82 = .ok (.getfield 139, 3) := by decide +kernel
theorem dX9_factor_85 : decode cX9_factor 85 = .ok (.iconst 1, 1) := by decide +kernel
theorem dX9_factor_86 : decode cX9_factor 86 = .ok (.iadd, 1) := by decide +kernel
theorem dX9_factor_87 : decode cX9_factor 87 = .ok (.putfield 139, 3) := by decide +kernel
theorem dX9_factor_90 : decode cX9_factor 90 = .ok (.aload_n 0, 1) := by decide +kernel
theorem dX9_factor_91 : decode cX9_factor 91 = .ok (.dup, 1) := by decide +kernel
theorem dX9_factor_92 : decode cX9_factor 92 = .ok (.getfield 159, 3) := by decide +kernel
theorem dX9_factor_95 : decode cX9_factor 95 = .ok (.iconst 1, 1) := by decide +kernel
theorem dX9_factor_96 : decode cX9_factor 96 = .ok (.iadd, 1) := by decide +kernel
theorem dX9_factor_97 : decode cX9_factor 97 = .ok (.putfield 159, 3) := by decide +kernel
theorem dX9_factor_100 : decode cX9_factor 100 = .ok (.aload_n 0, 1) := by decide +kernel
theorem dX9_factor_101 : decode cX9_factor 101 = .ok (.invokevirtual 165, 3) := by decide +kernel
theorem dX9_factor_104 : decode cX9_factor 104 = .ok (.istore_n 1, 1) := by decide +kernel
theorem dX9_factor_105 : decode cX9_factor 105 = .ok (.aload_n 0, 1) := by decide +kernel
theorem dX9_factor_106 : decode cX9_factor 106 = .ok (.dup, 1) := by decide +kernel
theorem dX9_factor_107 : decode cX9_factor 107 = .ok (.getfield 159, 3) := by decide +kernel
theorem dX9_factor_110 : decode cX9_factor 110 = .ok (.iconst 1, 1) := by decide +kernel
theorem dX9_factor_111 : decode cX9_factor 111 = .ok (.isub, 1) := by decide +kernel
theorem dX9_factor_112 : decode cX9_factor 112 = .ok (.putfield 159, 3) := by decide +kernel
theorem dX9_factor_115 : decode cX9_factor 115 = .ok (.aload_n 0, 1) := by decide +kernel
theorem dX9_factor_116 : decode cX9_factor 116 = .ok (.bipush 41, 2) := by decide +kernel
theorem dX9_factor_118 : decode cX9_factor 118 = .ok (.invokevirtual 152, 3) := by decide +kernel
theorem dX9_factor_121 : decode cX9_factor 121 = .ok (.goto 8, 3) := by decide +kernel
theorem dX9_factor_124 : decode cX9_factor 124 = .ok (.aload_n 0, 1) := by decide +kernel
theorem dX9_factor_125 : decode cX9_factor 125 = .ok (.invokevirtual 168, 3) := by decide +kernel
theorem dX9_factor_128 : decode cX9_factor 128 = .ok (.istore_n 1, 1) := by decide +kernel
theorem dX9_factor_129 : decode cX9_factor 129 = .ok (.iload_n 1, 1) := by decide +kernel
theorem dX9_factor_130 : decode cX9_factor 130 = .ok (.ireturn, 1) := by decide +kernel
theorem dX9_both_0 : decode cX9_both 0 = .ok (.aload_n 0, 1) := by decide +kernel
theorem dX9_both_1 : decode cX9_both 1 = .ok (.invokevirtual 162, 3) := by decide +kernel
theorem dX9_both_4 : decode cX9_both 4 = .ok (.istore_n 1, 1) := by decide +kernel
theorem dX9_both_5 : decode cX9_both 5 = .ok (.aload_n 0, 1) := by decide +kernel
theorem dX9_both_6 : decode cX9_both 6 = .ok (.bipush 38, 2) := by decide +kernel
theorem dX9_both_8 : decode cX9_both 8 = .ok (.invokevirtual 145, 3) := by decide +kernel
theorem dX9_both_11 : decode cX9_both 11 = .ok (.ifCond .eq 35, 3) := by decide +kernel
theorem dX9_both_14 : decode cX9_both 14 = .ok (.aload_n 0, 1) := by decide +kernel
theorem dX9_both_15 : decode cX9_both 15 = .ok (.dup, 1) := by decide +kernel
theorem dX9_both_16 : decode cX9_both 16 = .ok (.getfield 139, 3) := by decide +kernel
theorem dX9_both_19 : decode cX9_both 19 = .ok (.iconst 1, 1) := by decide +kernel
theorem dX9_both_20 : decode cX9_both 20 = .ok (.iadd, 1) := by decide +kernel
theorem dX9_both_21 : decode cX9_both 21 = .ok (.putfield 139, 3) := by decide +kernel
theorem dX9_both_24 : decode cX9_both 24 = .ok (.aload_n 0, 1) := by decide +kernel
theorem dX9_both_25 : decode cX9_both 25 = .ok (.invokevirtual 162, 3) := by decide +kernel
theorem dX9_both_28 : decode cX9_both 28 = .ok (.istore_n 2, 1) := by decide +kernel
theorem dX9_both_29 : decode cX9_both 29 = .ok (.iload_n 1, 1) := by decide +kernel
theorem dX9_both_30 : decode cX9_both 30 = .ok (.ifCond .eq 11, 3) := by decide +kernel
theorem dX9_both_33 : decode cX9_both 33 = .ok (.iload_n 2, 1) := by decide +kernel
theorem dX9_both_34 : decode cX9_both 34 = .ok (.ifCond .eq 7, 3) := by decide +kernel
theorem dX9_both_37 : decode cX9_both 37 = .ok (.iconst 1, 1) := by decide +kernel
theorem dX9_both_38 : decode cX9_both 38 = .ok (.goto 4, 3) := by decide +kernel
theorem dX9_both_41 : decode cX9_both 41 = .ok (.iconst 0, 1) := by decide +kernel
theorem dX9_both_42 : decode cX9_both 42 = .ok (.istore_n 1, 1) := by decide +kernel
theorem dX9_both_43 : decode cX9_both 43 = .ok (.goto (-38), 3) := by decide +kernel
theorem dX9_both_46 : decode cX9_both 46 = .ok (.iload_n 1, 1) := by decide +kernel
theorem dX9_both_47 : decode cX9_both 47 = .ok (.ireturn, 1) := by decide +kernel
theorem dX9_any_0 : decode cX9_any 0 = .ok (.aload_n 0, 1) := by decide +kernel
theorem dX9_any_1 : decode cX9_any 1 = .ok (.invokevirtual 171, 3) := by decide +kernel
theorem dX9_any_4 : decode cX9_any 4 = .ok (.istore_n 1, 1) := by decide +kernel
theorem dX9_any_5 : decode cX9_any 5 = .ok (.aload_n 0, 1) := by decide +kernel
theorem dX9_any_6 : decode cX9_any 6 = .ok (.bipush 124, 2) := by decide +kernel
theorem dX9_any_8 : decode cX9_any 8 = .ok (.invokevirtual 145, 3) := by decide +kernel
theorem dX9_any_11 : decode cX9_any 11 = .ok (.ifCond .eq 35, 3) := by decide +kernel
theorem dX9_any_14 : decode cX9_any 14 = .ok (.aload_n 0, 1) := by decide +kernel
theorem dX9_any_15 : decode cX9_any 15 = .ok (.dup, 1) := by decide +kernel
theorem dX9_any_16 : decode cX9_any 16 = .ok (.getfield 139, 3) := by decide +kernel
theorem dX9_any_19 : decode cX9_any 19 = .ok (.iconst 1, 1) := by decide +kernel
theorem dX9_any_20 : decode cX9_any 20 = .ok (.iadd, 1) := by decide +kernel
theorem dX9_any_21 : decode cX9_any 21 = .ok (.putfield 139, 3) := by decide +kernel
theorem dX9_any_24 : decode cX9_any 24 = .ok (.aload_n 0, 1) := by decide +kernel
theorem dX9_any_25 : decode cX9_any 25 = .ok (.invokevirtual 171, 3) := by decide +kernel
theorem dX9_any_28 : decode cX9_any 28 = .ok (.istore_n 2, 1) := by decide +kernel
theorem dX9_any_29 : decode cX9_any 29 = .ok (.iload_n 1, 1) := by decide +kernel
theorem dX9_any_30 : decode cX9_any 30 = .ok (.ifCond .ne 7, 3) := by decide +kernel
theorem dX9_any_33 : decode cX9_any 33 = .ok (.iload_n 2, 1) := by decide +kernel
theorem dX9_any_34 : decode cX9_any 34 = .ok (.ifCond .eq 7, 3) := by decide +kernel
theorem dX9_any_37 : decode cX9_any 37 = .ok (.iconst 1, 1) := by decide +kernel
theorem dX9_any_38 : decode cX9_any 38 = .ok (.goto 4, 3) := by decide +kernel
theorem dX9_any_41 : decode cX9_any 41 = .ok (.iconst 0, 1) := by decide +kernel
theorem dX9_any_42 : decode cX9_any 42 = .ok (.istore_n 1, 1) := by decide +kernel
theorem dX9_any_43 : decode cX9_any 43 = .ok (.goto (-38), 3) := by decide +kernel
theorem dX9_any_46 : decode cX9_any 46 = .ok (.iload_n 1, 1) := by decide +kernel
theorem dX9_any_47 : decode cX9_any 47 = .ok (.ireturn, 1) := by decide +kernel
theorem dX9_clause_0 : decode cX9_clause 0 = .ok (.iconst (-1), 1) := by decide +kernel
theorem dX9_clause_1 : decode cX9_clause 1 = .ok (.istore_n 1, 1) := by decide +kernel
theorem dX9_clause_2 : decode cX9_clause 2 = .ok (.iconst 0, 1) := by decide +kernel
theorem dX9_clause_3 : decode cX9_clause 3 = .ok (.istore_n 2, 1) := by decide +kernel
theorem dX9_clause_4 : decode cX9_clause 4 = .ok (.iload_n 2, 1) := by decide +kernel
theorem dX9_clause_5 : decode cX9_clause 5 = .ok (.iconst 3, 1) := by decide +kernel
theorem dX9_clause_6 : decode cX9_clause 6 = .ok (.if_icmp .ge 28, 3) := by decide +kernel
theorem dX9_clause_9 : decode cX9_clause 9 = .ok (.aload_n 0, 1) := by decide +kernel
theorem dX9_clause_10 : decode cX9_clause 10 = .ok (.aload_n 0, 1) := by decide +kernel
theorem dX9_clause_11 : decode cX9_clause 11 = .ok (.getfield 40, 3) := by decide +kernel
theorem dX9_clause_14 : decode cX9_clause 14 = .ok (.iload_n 2, 1) := by decide +kernel
theorem dX9_clause_15 : decode cX9_clause 15 = .ok (.caload, 1) := by decide +kernel
theorem dX9_clause_16 : decode cX9_clause 16 = .ok (.invokevirtual 145, 3) := by decide +kernel
theorem dX9_clause_19 : decode cX9_clause 19 = .ok (.ifCond .eq 7, 3) := by decide +kernel
theorem dX9_clause_22 : decode cX9_clause 22 = .ok (.iload_n 2, 1) := by decide +kernel
theorem dX9_clause_23 : decode cX9_clause 23 = .ok (.goto 4, 3) := by decide +kernel
theorem dX9_clause_26 : decode cX9_clause 26 = .ok (.iload_n 1, 1) := by decide +kernel
theorem dX9_clause_27 : decode cX9_clause 27 = .ok (.istore_n 1, 1) := by decide +kernel
theorem dX9_clause_28 : decode cX9_clause 28 = .ok (.iinc 2 1, 3) := by decide +kernel
theorem dX9_clause_31 : decode cX9_clause 31 = .ok (.goto (-27), 3) := by decide +kernel
theorem dX9_clause_34 : decode cX9_clause 34 = .ok (.iload_n 1, 1) := by decide +kernel
theorem dX9_clause_35 : decode cX9_clause 35 = .ok (.iconst (-1), 1) := by decide +kernel
theorem dX9_clause_36 : decode cX9_clause 36 = .ok (.if_icmp .ne 9, 3) := by decide +kernel
theorem dX9_clause_39 : decode cX9_clause 39 = .ok (.aload_n 0, 1) := by decide +kernel
theorem dX9_clause_40 : decode cX9_clause 40 = .ok (.iconst 0, 1) := by decide +kernel
theorem dX9_clause_41 : decode cX9_clause 41 = .ok (.putfield 136, 3) := by decide +kernel
theorem dX9_clause_44 : decode cX9_clause 44 = .ok (.return_, 1) := by decide +kernel
theorem dX9_clause_45 : decode cX9_clause 45 = .ok (.iconst 0, 1) := by decide +kernel
theorem dX9_clause_46 : decode cX9_clause 46 = .ok (.istore_n 2, 1) := by decide +kernel
theorem dX9_clause_47 : decode cX9_clause 47 = .ok (.iload_n 2, 1) := by decide +kernel
theorem dX9_clause_48 : decode cX9_clause 48 = .ok (.iconst 5, 1) := by decide +kernel
theorem dX9_clause_49 : decode cX9_clause 49 = .ok (.if_icmp .ge 36, 3) := by decide +kernel
theorem dX9_clause_52 : decode cX9_clause 52 = .ok (.aload_n 0, 1) := by decide +kernel
theorem dX9_clause_53 : decode cX9_clause 53 = .ok (.getfield 43, 3) := by decide +kernel
theorem dX9_clause_56 : decode cX9_clause 56 = .ok (.iconst 5, 1) := by decide +kernel
theorem dX9_clause_57 : decode cX9_clause 57 = .ok (.iload_n 1, 1) := by decide +kernel
theorem dX9_clause_58 : decode cX9_clause 58 = .ok (.imul, 1) := by decide +kernel
theorem dX9_clause_59 : decode cX9_clause 59 = .ok (.iload_n 2, 1) := by decide +kernel
theorem dX9_clause_60 : decode cX9_clause 60 = .ok (.iadd, 1) := by decide +kernel
theorem dX9_clause_61 : decode cX9_clause 61 = .ok (.caload, 1) := by decide +kernel
theorem dX9_clause_62 : decode cX9_clause 62 = .ok (.ifCond .eq 23, 3) := by decide +kernel
theorem dX9_clause_65 : decode cX9_clause 65 = .ok (.aload_n 0, 1) := by decide +kernel
theorem dX9_clause_66 : decode cX9_clause 66 = .ok (.aload_n 0, 1) := by decide +kernel
theorem dX9_clause_67 : decode cX9_clause 67 = .ok (.getfield 43, 3) := by decide +kernel
theorem dX9_clause_70 : decode cX9_clause 70 = .ok (.iconst 5, 1) := by decide +kernel
theorem dX9_clause_71 : decode cX9_clause 71 = .ok (.iload_n 1, 1) := by decide +kernel
theorem dX9_clause_72 : decode cX9_clause 72 = .ok (.imul, 1) := by decide +kernel
theorem dX9_clause_73 : decode cX9_clause 73 = .ok (.iload_n 2, 1) := by decide +kernel
theorem dX9_clause_74 : decode cX9_clause 74 = .ok (.iadd, 1) := by decide +kernel
theorem dX9_clause_75 : decode cX9_clause 75 = .ok (.caload, 1) := by decide +kernel
theorem dX9_clause_76 : decode cX9_clause 76 = .ok (.invokevirtual 152, 3) := by decide +kernel
theorem dX9_clause_79 : decode cX9_clause 79 = .ok (.iinc 2 1, 3) := by decide +kernel
theorem dX9_clause_82 : decode cX9_clause 82 = .ok (.goto (-35), 3) := by decide +kernel
theorem dX9_clause_85 : decode cX9_clause 85 = .ok (.aload_n 0, 1) := by decide +kernel
theorem dX9_clause_86 : decode cX9_clause 86 = .ok (.bipush 32, 2) := by decide +kernel
theorem dX9_clause_88 : decode cX9_clause 88 = .ok (.invokevirtual 152, 3) := by decide +kernel
theorem dX9_clause_91 : decode cX9_clause 91 = .ok (.aload_n 0, 1) := by decide +kernel
theorem dX9_clause_92 : decode cX9_clause 92 = .ok (.invokevirtual 155, 3) := by decide +kernel
theorem dX9_clause_95 : decode cX9_clause 95 = .ok (.istore_n 2, 1) := by decide +kernel
theorem dX9_clause_96 : decode cX9_clause 96 = .ok (.iload_n 1, 1) := by decide +kernel
theorem dX9_clause_97 : decode cX9_clause 97 = .ok (.iconst 2, 1) := by decide +kernel
theorem dX9_clause_98 : decode cX9_clause 98 = .ok (.if_icmp .ne 9, 3) := by decide +kernel
theorem dX9_clause_101 : decode cX9_clause 101 = .ok (.aload_n 0, 1) := by decide +kernel
theorem dX9_clause_102 : decode cX9_clause 102 = .ok (.iload_n 2, 1) := by decide +kernel
theorem dX9_clause_103 : decode cX9_clause 103 = .ok (.putfield 174, 3) := by decide +kernel
theorem dX9_clause_106 : decode cX9_clause 106 = .ok (.return_, 1) := by decide +kernel
theorem dX9_clause_107 : decode cX9_clause 107 = .ok (.aload_n 0, 1) := by decide +kernel
theorem dX9_clause_108 : decode cX9_clause 108 = .ok (.bipush 32, 2) := by decide +kernel
theorem dX9_clause_110 : decode cX9_clause 110 = .ok (.invokevirtual 152, 3) := by decide +kernel
theorem dX9_clause_113 : decode cX9_clause 113 = .ok (.aload_n 0, 1) := by decide +kernel
theorem dX9_clause_114 : decode cX9_clause 114 = .ok (.iconst 0, 1) := by decide +kernel
theorem dX9_clause_115 : decode cX9_clause 115 = .ok (.putfield 159, 3) := by decide +kernel
theorem dX9_clause_118 : decode cX9_clause 118 = .ok (.aload_n 0, 1) := by decide +kernel
theorem dX9_clause_119 : decode cX9_clause 119 = .ok (.invokevirtual 165, 3) := by decide +kernel
theorem dX9_clause_122 : decode cX9_clause 122 = .ok (.istore_n 3, 1) := by decide +kernel
theorem dX9_clause_123 : decode cX9_clause 123 = .ok (.aload_n 0, 1) := by decide +kernel
theorem dX9_clause_124 : decode cX9_clause 124 = .ok (.dup, 1) := by decide +kernel
theorem dX9_clause_125 : decode cX9_clause 125 = .ok (.getfield 177, 3) := by decide +kernel
theorem dX9_clause_128 : decode cX9_clause 128 = .ok (.iload_n 3, 1) := by decide +kernel
theorem dX9_clause_129 : decode cX9_clause 129 = .ok (.ifCond .ne 7, 3) := by decide +kernel
theorem dX9_clause_132 : decode cX9_clause 132 = .ok (.iconst 0, 1) := by decide +kernel
theorem dX9_clause_133 : decode cX9_clause 133 = .ok (.goto 13, 3) := by decide +kernel
theorem dX9_clause_136 : decode cX9_clause 136 = .ok (.iload_n 1, 1) := by decide +kernel
theorem dX9_clause_137 : decode cX9_clause 137 = .ok (.ifCond .ne 7, 3) := by decide +kernel
theorem dX9_clause_140 : decode cX9_clause 140 = .ok (.iload_n 2, 1) := by decide +kernel
theorem dX9_clause_141 : decode cX9_clause 141 = .ok (.goto 5, 3) := by decide +kernel
theorem dX9_clause_144 : decode cX9_clause 144 = .ok (.iload_n 2, 1) := by decide +kernel
theorem dX9_clause_145 : decode cX9_clause 145 = .ok (.ineg, 1) := by decide +kernel
theorem dX9_clause_146 : decode cX9_clause 146 = .ok (.iadd, 1) := by decide +kernel
theorem dX9_clause_147 : decode cX9_clause 147 = .ok (.putfield 177, 3) := by decide +kernel
theorem dX9_clause_150 : decode cX9_clause 150 = .ok (.return_, 1) := by decide +kernel
theorem dX9_readAll_0 : decode cX9_readAll 0 = .ok (.aload_n 0, 1) := by decide +kernel
theorem dX9_readAll_1 : decode cX9_readAll 1 = .ok (.iconst 0, 1) := by decide +kernel
theorem dX9_readAll_2 : decode cX9_readAll 2 = .ok (.putfield 139, 3) := by decide +kernel
theorem dX9_readAll_5 : decode cX9_readAll 5 = .ok (.aload_n 0, 1) := by decide +kernel
theorem dX9_readAll_6 : decode cX9_readAll 6 = .ok (.iconst 1, 1) := by decide +kernel
theorem dX9_readAll_7 : decode cX9_readAll 7 = .ok (.putfield 136, 3) := by decide +kernel
theorem dX9_readAll_10 : decode cX9_readAll 10 = .ok (.aload_n 0, 1) := by decide +kernel
theorem dX9_readAll_11 : decode cX9_readAll 11 = .ok (.aload_n 0, 1) := by decide +kernel
theorem dX9_readAll_12 : decode cX9_readAll 12 = .ok (.getfield 33, 3) := by decide +kernel
theorem dX9_readAll_15 : decode cX9_readAll 15 = .ok (.iconst 4, 1) := by decide +kernel
theorem dX9_readAll_16 : decode cX9_readAll 16 = .ok (.iaload, 1) := by decide +kernel
theorem dX9_readAll_17 : decode cX9_readAll 17 = .ok (.putfield 177, 3) := by decide +kernel
theorem dX9_readAll_20 : decode cX9_readAll 20 = .ok (.aload_n 0, 1) := by decide +kernel
theorem dX9_readAll_21 : decode cX9_readAll 21 = .ok (.iconst 5, 1) := by decide +kernel
theorem dX9_readAll_22 : decode cX9_readAll 22 = .ok (.putfield 174, 3) := by decide +kernel
theorem dX9_readAll_25 : decode cX9_readAll 25 = .ok (.iconst 1, 1) := by decide +kernel
theorem dX9_readAll_26 : decode cX9_readAll 26 = .ok (.istore_n 1, 1) := by decide +kernel
theorem dX9_readAll_27 : decode cX9_readAll 27 = .ok (.aload_n 0, 1) := by decide +kernel
theorem dX9_readAll_28 : decode cX9_readAll 28 = .ok (.invokevirtual 180, 3) := by decide +kernel
theorem dX9_readAll_31 : decode cX9_readAll 31 = .ok (.iload_n 1, 1) := by decide +kernel
theorem dX9_readAll_32 : decode cX9_readAll 32 = .ok (.bipush 10, 2) := by decide +kernel
theorem dX9_readAll_34 : decode cX9_readAll 34 = .ok (.if_icmp .ge 32, 3) := by decide +kernel
theorem dX9_readAll_37 : decode cX9_readAll 37 = .ok (.aload_n 0, 1) := by decide +kernel
theorem dX9_readAll_38 : decode cX9_readAll 38 = .ok (.bipush 59, 2) := by decide +kernel
theorem dX9_readAll_40 : decode cX9_readAll 40 = .ok (.invokevirtual 145, 3) := by decide +kernel
theorem dX9_readAll_43 : decode cX9_readAll 43 = .ok (.ifCond .eq 23, 3) := by decide +kernel
theorem dX9_readAll_46 : decode cX9_readAll 46 = .ok (.aload_n 0, 1) := by decide +kernel
theorem dX9_readAll_47 : decode cX9_readAll 47 = .ok (.dup, 1) := by decide +kernel
theorem dX9_readAll_48 : decode cX9_readAll 48 = .ok (.getfield 139, 3) := by decide +kernel
theorem dX9_readAll_51 : decode cX9_readAll 51 = .ok (.iconst 1, 1) := by decide +kernel
theorem dX9_readAll_52 : decode cX9_readAll 52 = .ok (.iadd, 1) := by decide +kernel
theorem dX9_readAll_53 : decode cX9_readAll 53 = .ok (.putfield 139, 3) := by decide +kernel
theorem dX9_readAll_56 : decode cX9_readAll 56 = .ok (.aload_n 0, 1) := by decide +kernel
theorem dX9_readAll_57 : decode cX9_readAll 57 = .ok (.invokevirtual 180, 3) := by decide +kernel
theorem dX9_readAll_60 : decode cX9_readAll 60 = .ok (.iinc 1 1, 3) := by decide +kernel
theorem dX9_readAll_63 : decode cX9_readAll 63 = .ok (.goto (-32), 3) := by decide +kernel
theorem dX9_readAll_66 : decode cX9_readAll 66 = .ok (.aload_n 0, 1) := by decide +kernel
theorem dX9_readAll_67 : decode cX9_readAll 67 = .ok (.getfield 136, 3) := by decide +kernel
theorem dX9_readAll_70 : decode cX9_readAll 70 = .ok (.ifCond .eq 18, 3) := by decide +kernel
theorem dX9_readAll_73 : decode cX9_readAll 73 = .ok (.aload_n 0, 1) := by decide +kernel
theorem dX9_readAll_74 : decode cX9_readAll 74 = .ok (.getfield 139, 3) := by decide +kernel
theorem dX9_readAll_77 : decode cX9_readAll 77 = .ok (.aload_n 0, 1) := by decide +kernel
theorem dX9_readAll_78 : decode cX9_readAll 78 = .ok (.getfield 142, 3) := by decide +kernel
theorem dX9_readAll_81 : decode cX9_readAll 81 = .ok (.if_icmp .ne 7, 3) := by decide +kernel
theorem dX9_readAll_84 : decode cX9_readAll 84 = .ok (.iconst 1, 1) := by decide +kernel
theorem dX9_readAll_85 : decode cX9_readAll 85 = .ok (.goto 4, 3) := by decide +kernel
theorem dX9_readAll_88 : decode cX9_readAll 88 = .ok (.iconst 0, 1) := by decide +kernel
theorem dX9_readAll_89 : decode cX9_readAll 89 = .ok (.ireturn, 1) := by decide +kernel
theorem dX9_readFor_0 : decode cX9_readFor 0 = .ok (.aload_n 0, 1) := by decide +kernel
theorem dX9_readFor_1 : decode cX9_readFor 1 = .ok (.getfield 33, 3) := by decide +kernel
theorem dX9_readFor_4 : decode cX9_readFor 4 = .ok (.iconst 0, 1) := by decide +kernel
theorem dX9_readFor_5 : decode cX9_readFor 5 = .ok (.iload_n 1, 1) := by decide +kernel
theorem dX9_readFor_6 : decode cX9_readFor 6 = .ok (.iastore, 1) := by decide +kernel
theorem dX9_readFor_7 : decode cX9_readFor 7 = .ok (.aload_n 0, 1) := by decide +kernel
theorem dX9_readFor_8 : decode cX9_readFor 8 = .ok (.getfield 33, 3) := by decide +kernel
theorem dX9_readFor_11 : decode cX9_readFor 11 = .ok (.iconst 1, 1) := by decide +kernel
theorem dX9_readFor_12 : decode cX9_readFor 12 = .ok (.aload_n 0, 1) := by decide +kernel
theorem dX9_readFor_13 : decode cX9_readFor 13 = .ok (.iload_n 1, 1) := by decide +kernel
theorem dX9_readFor_14 : decode cX9_readFor 14 = .ok (.iconst 0, 1) := by decide +kernel
theorem dX9_readFor_15 : decode cX9_readFor 15 = .ok (.invokevirtual 93, 3) := by decide +kernel
theorem dX9_readFor_18 : decode cX9_readFor 18 = .ok (.iastore, 1) := by decide +kernel
theorem dX9_readFor_19 : decode cX9_readFor 19 = .ok (.aload_n 0, 1) := by decide +kernel
theorem dX9_readFor_20 : decode cX9_readFor 20 = .ok (.getfield 33, 3) := by decide +kernel
theorem dX9_readFor_23 : decode cX9_readFor 23 = .ok (.iconst 2, 1) := by decide +kernel
theorem dX9_readFor_24 : decode cX9_readFor 24 = .ok (.aload_n 0, 1) := by decide +kernel
theorem dX9_readFor_25 : decode cX9_readFor 25 = .ok (.iload_n 1, 1) := by decide +kernel
theorem dX9_readFor_26 : decode cX9_readFor 26 = .ok (.iconst 1, 1) := by decide +kernel
theorem dX9_readFor_27 : decode cX9_readFor 27 = .ok (.invokevirtual 93, 3) := by decide +kernel
theorem dX9_readFor_30 : decode cX9_readFor 30 = .ok (.iastore, 1) := by decide +kernel
theorem dX9_readFor_31 : decode cX9_readFor 31 = .ok (.aload_n 0, 1) := by decide +kernel
theorem dX9_readFor_32 : decode cX9_readFor 32 = .ok (.getfield 33, 3) := by decide +kernel
theorem dX9_readFor_35 : decode cX9_readFor 35 = .ok (.iconst 3, 1) := by decide +kernel
theorem dX9_readFor_36 : decode cX9_readFor 36 = .ok (.iload_n 2, 1) := by decide +kernel
theorem dX9_readFor_37 : decode cX9_readFor 37 = .ok (.iastore, 1) := by decide +kernel
theorem dX9_readFor_38 : decode cX9_readFor 38 = .ok (.aload_n 0, 1) := by decide +kernel
theorem dX9_readFor_39 : decode cX9_readFor 39 = .ok (.getfield 33, 3) := by decide +kernel
theorem dX9_readFor_42 : decode cX9_readFor 42 = .ok (.iconst 4, 1) := by decide +kernel
theorem dX9_readFor_43 : decode cX9_readFor 43 = .ok (.aload_n 0, 1) := by decide +kernel
theorem dX9_readFor_44 : decode cX9_readFor 44 = .ok (.iload_n 1, 1) := by decide +kernel
theorem dX9_readFor_45 : decode cX9_readFor 45 = .ok (.iconst 2, 1) := by decide +kernel
theorem dX9_readFor_46 : decode cX9_readFor 46 = .ok (.invokevirtual 93, 3) := by decide +kernel
theorem dX9_readFor_49 : decode cX9_readFor 49 = .ok (.iastore, 1) := by decide +kernel
theorem dX9_readFor_50 : decode cX9_readFor 50 = .ok (.aload_n 0, 1) := by decide +kernel
theorem dX9_readFor_51 : decode cX9_readFor 51 = .ok (.getfield 33, 3) := by decide +kernel
theorem dX9_readFor_54 : decode cX9_readFor 54 = .ok (.iconst 5, 1) := by decide +kernel
theorem dX9_readFor_55 : decode cX9_readFor 55 = .ok (.aload_n 0, 1) := by decide +kernel
theorem dX9_readFor_56 : decode cX9_readFor 56 = .ok (.iload_n 1, 1) := by decide +kernel
theorem dX9_readFor_57 : decode cX9_readFor 57 = .ok (.iconst 3, 1) := by decide +kernel
theorem dX9_readFor_58 : decode cX9_readFor 58 = .ok (.invokevirtual 93, 3) := by decide +kernel
theorem dX9_readFor_61 : decode cX9_readFor 61 = .ok (.bipush 10, 2) := by decide +kernel
theorem dX9_readFor_63 : decode cX9_readFor 63 = .ok (.irem, 1) := by decide +kernel
theorem dX9_readFor_64 : decode cX9_readFor 64 = .ok (.iastore, 1) := by decide +kernel
theorem dX9_readFor_65 : decode cX9_readFor 65 = .ok (.aload_n 0, 1) := by decide +kernel
theorem dX9_readFor_66 : decode cX9_readFor 66 = .ok (.getfield 9, 3) := by decide +kernel
theorem dX9_readFor_69 : decode cX9_readFor 69 = .ok (.bipush 57, 2) := by decide +kernel
theorem dX9_readFor_71 : decode cX9_readFor 71 = .ok (.iaload, 1) := by decide +kernel
theorem dX9_readFor_72 : decode cX9_readFor 72 = .ok (.ifCond .ne 19, 3) := by decide +kernel
theorem dX9_readFor_75 : decode cX9_readFor 75 = .ok (.aload_n 0, 1) := by decide +kernel
theorem dX9_readFor_76 : decode cX9_readFor 76 = .ok (.aload_n 0, 1) := by decide +kernel
theorem dX9_readFor_77 : decode cX9_readFor 77 = .ok (.getfield 33, 3) := by decide +kernel
theorem dX9_readFor_80 : decode cX9_readFor 80 = .ok (.iconst 4, 1) := by decide +kernel
theorem dX9_readFor_81 : decode cX9_readFor 81 = .ok (.iaload, 1) := by decide +kernel
theorem dX9_readFor_82 : decode cX9_readFor 82 = .ok (.putfield 177, 3) := by decide +kernel
theorem dX9_readFor_85 : decode cX9_readFor 85 = .ok (.aload_n 0, 1) := by decide +kernel
theorem dX9_readFor_86 : decode cX9_readFor 86 = .ok (.iconst 5, 1) := by decide +kernel
theorem dX9_readFor_87 : decode cX9_readFor 87 = .ok (.putfield 174, 3) := by decide +kernel
theorem dX9_readFor_90 : decode cX9_readFor 90 = .ok (.return_, 1) := by decide +kernel
theorem dX9_readFor_91 : decode cX9_readFor 91 = .ok (.aload_n 0, 1) := by decide +kernel
theorem dX9_readFor_92 : decode cX9_readFor 92 = .ok (.getfield 9, 3) := by decide +kernel
theorem dX9_readFor_95 : decode cX9_readFor 95 = .ok (.bipush 57, 2) := by decide +kernel
theorem dX9_readFor_97 : decode cX9_readFor 97 = .ok (.iaload, 1) := by decide +kernel
theorem dX9_readFor_98 : decode cX9_readFor 98 = .ok (.iconst 1, 1) := by decide +kernel
theorem dX9_readFor_99 : decode cX9_readFor 99 = .ok (.isub, 1) := by decide +kernel
theorem dX9_readFor_100 : decode cX9_readFor 100 = .ok (.istore_n 3, 1) := by decide +kernel
theorem dX9_readFor_101 : decode cX9_readFor 101 = .ok (.aload_n 0, 1) := by decide +kernel
theorem dX9_readFor_102 : decode cX9_readFor 102 = .ok (.aload_n 0, 1) := by decide +kernel
theorem dX9_readFor_103 : decode cX9_readFor 103 = .ok (.getfield 27, 3) := by decide +kernel
theorem dX9_readFor_106 : decode cX9_readFor 106 = .ok (.iload_n 3, 1) := by decide +kernel
theorem dX9_readFor_107 : decode cX9_readFor 107 = .ok (.iaload, 1) := by decide +kernel
theorem dX9_readFor_108 : decode cX9_readFor 108 = .ok (.putfield 142, 3) := by decide +kernel
theorem dX9_readFor_111 : decode cX9_readFor 111 = .ok (.iconst 0, 1) := by decide +kernel
theorem dX9_readFor_112 : decode cX9_readFor 112 = .ok (.istore 4, 2) := by decide +kernel
theorem dX9_readFor_114 : decode cX9_readFor 114 = .ok (.iload 4, 2) := by decide +kernel
theorem dX9_readFor_116 : decode cX9_readFor 116 = .ok (.aload_n 0, 1) := by decide +kernel
theorem dX9_readFor_117 : decode cX9_readFor 117 = .ok (.getfield 142, 3) := by decide +kernel
theorem dX9_readFor_120 : decode cX9_readFor 120 = .ok (.if_icmp .ge 28, 3) := by decide +kernel
theorem dX9_readFor_123 : decode cX9_readFor 123 = .ok (.aload_n 0, 1) := by decide +kernel
theorem dX9_readFor_124 : decode cX9_readFor 124 = .ok (.getfield 30, 3) := by decide +kernel
theorem dX9_readFor_127 : decode cX9_readFor 127 = .ok (.iload 4, 2) := by decide +kernel
theorem dX9_readFor_129 : decode cX9_readFor 129 = .ok (.aload_n 0, 1) := by decide +kernel
theorem dX9_readFor_130 : decode cX9_readFor 130 = .ok (.getfield 24, 3) := by decide +kernel
theorem dX9_readFor_133 : decode cX9_readFor 133 = .ok (.bipush 100, 2) := by decide +kernel
theorem dX9_readFor_135 : decode cX9_readFor 135 = .ok (.iload_n 3, 1) := by decide +kernel
theorem dX9_readFor_136 : decode cX9_readFor 136 = .ok (.imul, 1) := by decide +kernel
theorem dX9_readFor_137 : decode cX9_readFor 137 = .ok (.iload 4, 2) := by decide +kernel
theorem dX9_readFor_139 : decode cX9_readFor 139 = .ok (.iadd, 1) := by decide +kernel
theorem dX9_readFor_140 : decode cX9_readFor 140 = .ok (.iaload, 1) := by decide +kernel
theorem dX9_readFor_141 : decode cX9_readFor 141 = .ok (.iastore, 1) := by decide +kernel
theorem dX9_readFor_142 : decode cX9_readFor 142 = .ok (.iinc 4 1, 3) := by decide +kernel
theorem dX9_readFor_145 : decode cX9_readFor 145 = .ok (.goto (-31), 3) := by decide +kernel
theorem dX9_readFor_148 : decode cX9_readFor 148 = .ok (.aload_n 0, 1) := by decide +kernel
theorem dX9_readFor_149 : decode cX9_readFor 149 = .ok (.invokevirtual 183, 3) := by decide +kernel
theorem dX9_readFor_152 : decode cX9_readFor 152 = .ok (.pop, 1) := by decide +kernel
theorem dX9_readFor_153 : decode cX9_readFor 153 = .ok (.return_, 1) := by decide +kernel
theorem dX9_cellar_0 : decode cX9_cellar 0 = .ok (.aload_n 0, 1) := by decide +kernel
theorem dX9_cellar_1 : decode cX9_cellar 1 = .ok (.getfield 186, 3) := by decide +kernel
theorem dX9_cellar_4 : decode cX9_cellar 4 = .ok (.bipush 6, 2) := by decide +kernel
theorem dX9_cellar_6 : decode cX9_cellar 6 = .ok (.if_icmp .ne 6, 3) := by decide +kernel
theorem dX9_cellar_9 : decode cX9_cellar 9 = .ok (.bipush (-4), 2) := by decide +kernel
theorem dX9_cellar_11 : decode cX9_cellar 11 = .ok (.ireturn, 1) := by decide +kernel
theorem dX9_cellar_12 : decode cX9_cellar 12 = .ok (.aload_n 0, 1) := by decide +kernel
theorem dX9_cellar_13 : decode cX9_cellar 13 = .ok (.aload_n 0, 1) := by decide +kernel
theorem dX9_cellar_14 : decode cX9_cellar 14 = .ok (.getfield 132, 3) := by decide +kernel
theorem dX9_cellar_17 : decode cX9_cellar 17 = .ok (.putfield 142, 3) := by decide +kernel
theorem dX9_cellar_20 : decode cX9_cellar 20 = .ok (.iconst 0, 1) := by decide +kernel
theorem dX9_cellar_21 : decode cX9_cellar 21 = .ok (.istore_n 1, 1) := by decide +kernel
theorem dX9_cellar_22 : decode cX9_cellar 22 = .ok (.iload_n 1, 1) := by decide +kernel
theorem dX9_cellar_23 : decode cX9_cellar 23 = .ok (.aload_n 0, 1) := by decide +kernel
theorem dX9_cellar_24 : decode cX9_cellar 24 = .ok (.getfield 142, 3) := by decide +kernel
theorem dX9_cellar_27 : decode cX9_cellar 27 = .ok (.if_icmp .ge 21, 3) := by decide +kernel
theorem dX9_cellar_30 : decode cX9_cellar 30 = .ok (.aload_n 0, 1) := by decide +kernel
theorem dX9_cellar_31 : decode cX9_cellar 31 = .ok (.getfield 30, 3) := by decide +kernel
theorem dX9_cellar_34 : decode cX9_cellar 34 = .ok (.iload_n 1, 1) := by decide +kernel
theorem dX9_cellar_35 : decode cX9_cellar 35 = .ok (.aload_n 0, 1) := by decide +kernel
theorem dX9_cellar_36 : decode cX9_cellar 36 = .ok (.getfield 21, 3) := by decide +kernel
theorem dX9_cellar_39 : decode cX9_cellar 39 = .ok (.iload_n 1, 1) := by decide +kernel
theorem dX9_cellar_40 : decode cX9_cellar 40 = .ok (.iaload, 1) := by decide +kernel
theorem dX9_cellar_41 : decode cX9_cellar 41 = .ok (.iastore, 1) := by decide +kernel
theorem dX9_cellar_42 : decode cX9_cellar 42 = .ok (.iinc 1 1, 3) := by decide +kernel
theorem dX9_cellar_45 : decode cX9_cellar 45 = .ok (.goto (-23), 3) := by decide +kernel
theorem dX9_cellar_48 : decode cX9_cellar 48 = .ok (.aload_n 0, 1) := by decide +kernel
theorem dX9_cellar_49 : decode cX9_cellar 49 = .ok (.iconst 0, 1) := by decide +kernel
theorem dX9_cellar_50 : decode cX9_cellar 50 = .ok (.putfield 132, 3) := by decide +kernel
theorem dX9_cellar_53 : decode cX9_cellar 53 = .ok (.aload_n 0, 1) := by decide +kernel
theorem dX9_cellar_54 : decode cX9_cellar 54 = .ok (.invokevirtual 183, 3) := by decide +kernel
theorem dX9_cellar_57 : decode cX9_cellar 57 = .ok (.ifCond .ne 11, 3) := by decide +kernel
theorem dX9_cellar_60 : decode cX9_cellar 60 = .ok (.bipush (-10), 2) := by decide +kernel
theorem dX9_cellar_62 : decode cX9_cellar 62 = .ok (.aload_n 0, 1) := by decide +kernel
theorem dX9_cellar_63 : decode cX9_cellar 63 = .ok (.getfield 139, 3) := by decide +kernel
theorem dX9_cellar_66 : decode cX9_cellar 66 = .ok (.isub, 1) := by decide +kernel
theorem dX9_cellar_67 : decode cX9_cellar 67 = .ok (.ireturn, 1) := by decide +kernel
theorem dX9_cellar_68 : decode cX9_cellar 68 = .ok (.iconst 0, 1) := by decide +kernel
theorem dX9_cellar_69 : decode cX9_cellar 69 = .ok (.istore_n 1, 1) := by decide +kernel
theorem dX9_cellar_70 : decode cX9_cellar 70 = .ok (.iload_n 1, 1) := by decide +kernel
theorem dX9_cellar_71 : decode cX9_cellar 71 = .ok (.aload_n 0, 1) := by decide +kernel
theorem dX9_cellar_72 : decode cX9_cellar 72 = .ok (.getfield 142, 3) := by decide +kernel
theorem dX9_cellar_75 : decode cX9_cellar 75 = .ok (.if_icmp .ge 29, 3) := by decide +kernel
theorem dX9_cellar_78 : decode cX9_cellar 78 = .ok (.aload_n 0, 1) := by decide +kernel
theorem dX9_cellar_79 : decode cX9_cellar 79 = .ok (.getfield 24, 3) := by decide +kernel
theorem dX9_cellar_82 : decode cX9_cellar 82 = .ok (.bipush 100, 2) := by decide +kernel
theorem dX9_cellar_84 : decode cX9_cellar 84 = .ok (.aload_n 0, 1) := by decide +kernel
theorem dX9_cellar_85 : decode cX9_cellar 85 = .ok (.getfield 186, 3) := by decide +kernel
theorem dX9_cellar_88 : decode cX9_cellar 88 = .ok (.imul, 1) := by decide +kernel
theorem dX9_cellar_89 : decode cX9_cellar 89 = .ok (.iload_n 1, 1) := by decide +kernel
theorem dX9_cellar_90 : decode cX9_cellar 90 = .ok (.iadd, 1) := by decide +kernel
theorem dX9_cellar_91 : decode cX9_cellar 91 = .ok (.aload_n 0, 1) := by decide +kernel
theorem dX9_cellar_92 : decode cX9_cellar 92 = .ok (.getfield 30, 3) := by decide +kernel
theorem dX9_cellar_95 : decode cX9_cellar 95 = .ok (.iload_n 1, 1) := by decide +kernel
theorem dX9_cellar_96 : decode cX9_cellar 96 = .ok (.iaload, 1) := by decide +kernel
theorem dX9_cellar_97 : decode cX9_cellar 97 = .ok (.iastore, 1) := by decide +kernel
theorem dX9_cellar_98 : decode cX9_cellar 98 = .ok (.iinc 1 1, 3) := by decide +kernel
theorem dX9_cellar_101 : decode cX9_cellar 101 = .ok (.goto (-31), 3) := by decide +kernel
theorem dX9_cellar_104 : decode cX9_cellar 104 = .ok (.aload_n 0, 1) := by decide +kernel
theorem dX9_cellar_105 : decode cX9_cellar 105 = .ok (.getfield 27, 3) := by decide +kernel
theorem dX9_cellar_108 : decode cX9_cellar 108 = .ok (.aload_n 0, 1) := by decide +kernel
theorem dX9_cellar_109 : decode cX9_cellar 109 = .ok (.getfield 186, 3) := by decide +kernel
theorem dX9_cellar_112 : decode cX9_cellar 112 = .ok (.aload_n 0, 1) := by decide +kernel
theorem dX9_cellar_113 : decode cX9_cellar 113 = .ok (.getfield 142, 3) := by decide +kernel
theorem dX9_cellar_116 : decode cX9_cellar 116 = .ok (.iastore, 1) := by decide +kernel
theorem dX9_cellar_117 : decode cX9_cellar 117 = .ok (.aload_n 0, 1) := by decide +kernel
theorem dX9_cellar_118 : decode cX9_cellar 118 = .ok (.dup, 1) := by decide +kernel
theorem dX9_cellar_119 : decode cX9_cellar 119 = .ok (.getfield 186, 3) := by decide +kernel
theorem dX9_cellar_122 : decode cX9_cellar 122 = .ok (.iconst 1, 1) := by decide +kernel
theorem dX9_cellar_123 : decode cX9_cellar 123 = .ok (.iadd, 1) := by decide +kernel
theorem dX9_cellar_124 : decode cX9_cellar 124 = .ok (.putfield 186, 3) := by decide +kernel
theorem dX9_cellar_127 : decode cX9_cellar 127 = .ok (.aload_n 0, 1) := by decide +kernel
theorem dX9_cellar_128 : decode cX9_cellar 128 = .ok (.getfield 9, 3) := by decide +kernel
theorem dX9_cellar_131 : decode cX9_cellar 131 = .ok (.bipush 57, 2) := by decide +kernel
theorem dX9_cellar_133 : decode cX9_cellar 133 = .ok (.aload_n 0, 1) := by decide +kernel
theorem dX9_cellar_134 : decode cX9_cellar 134 = .ok (.getfield 186, 3) := by decide +kernel
theorem dX9_cellar_137 : decode cX9_cellar 137 = .ok (.iastore, 1) := by decide +kernel
theorem dX9_cellar_138 : decode cX9_cellar 138 = .ok (.aload_n 0, 1) := by decide +kernel
theorem dX9_cellar_139 : decode cX9_cellar 139 = .ok (.getfield 186, 3) := by decide +kernel
theorem dX9_cellar_142 : decode cX9_cellar 142 = .ok (.iconst 1, 1) := by decide +kernel
theorem dX9_cellar_143 : decode cX9_cellar 143 = .ok (.isub, 1) := by decide +kernel
theorem dX9_cellar_144 : decode cX9_cellar 144 = .ok (.ireturn, 1) := by decide +kernel
theorem dX9_clear_0 : decode cX9_clear 0 = .ok (.aload_n 0, 1) := by decide +kernel
theorem dX9_clear_1 : decode cX9_clear 1 = .ok (.iload_n 1, 1) := by decide +kernel
theorem dX9_clear_2 : decode cX9_clear 2 = .ok (.iload_n 2, 1) := by decide +kernel
theorem dX9_clear_3 : decode cX9_clear 3 = .ok (.invokevirtual 189, 3) := by decide +kernel
theorem dX9_clear_6 : decode cX9_clear 6 = .ok (.aload_n 0, 1) := by decide +kernel
theorem dX9_clear_7 : decode cX9_clear 7 = .ok (.getfield 177, 3) := by decide +kernel
theorem dX9_clear_10 : decode cX9_clear 10 = .ok (.iconst 2, 1) := by decide +kernel
theorem dX9_clear_11 : decode cX9_clear 11 = .ok (.aload_n 0, 1) := by decide +kernel
theorem dX9_clear_12 : decode cX9_clear 12 = .ok (.iload_n 1, 1) := by decide +kernel
theorem dX9_clear_13 : decode cX9_clear 13 = .ok (.iconst 4, 1) := by decide +kernel
theorem dX9_clear_14 : decode cX9_clear 14 = .ok (.invokevirtual 93, 3) := by decide +kernel
theorem dX9_clear_17 : decode cX9_clear 17 = .ok (.imul, 1) := by decide +kernel
theorem dX9_clear_18 : decode cX9_clear 18 = .ok (.isub, 1) := by decide +kernel
theorem dX9_clear_19 : decode cX9_clear 19 = .ok (.istore_n 3, 1) := by decide +kernel
theorem dX9_clear_20 : decode cX9_clear 20 = .ok (.aload_n 0, 1) := by decide +kernel
theorem dX9_clear_21 : decode cX9_clear 21 = .ok (.iload_n 1, 1) := by decide +kernel
theorem dX9_clear_22 : decode cX9_clear 22 = .ok (.iconst 0, 1) := by decide +kernel
theorem dX9_clear_23 : decode cX9_clear 23 = .ok (.invokevirtual 93, 3) := by decide +kernel
theorem dX9_clear_26 : decode cX9_clear 26 = .ok (.tableswitch 126 1 6 #[38, 50, 57, 59, 90, 111], 38) := by decide +kernel
theorem dX9_clear_64 : decode cX9_clear 64 = .ok (.aload_n 0, 1) := by decide +kernel
theorem dX9_clear_65 : decode cX9_clear 65 = .ok (.getfield 177, 3) := by decide +kernel
theorem dX9_clear_68 : decode cX9_clear 68 = .ok (.aload_n 0, 1) := by decide +kernel
theorem dX9_clear_69 : decode cX9_clear 69 = .ok (.iload_n 1, 1) := by decide +kernel
theorem dX9_clear_70 : decode cX9_clear 70 = .ok (.iconst 1, 1) := by decide +kernel
theorem dX9_clear_71 : decode cX9_clear 71 = .ok (.invokevirtual 93, 3) := by decide +kernel
theorem dX9_clear_74 : decode cX9_clear 74 = .ok (.iadd, 1) := by decide +kernel
theorem dX9_clear_75 : decode cX9_clear 75 = .ok (.ireturn, 1) := by decide +kernel
theorem dX9_clear_76 : decode cX9_clear 76 = .ok (.aload_n 0, 1) := by decide +kernel
theorem dX9_clear_77 : decode cX9_clear 77 = .ok (.getfield 177, 3) := by decide +kernel
theorem dX9_clear_80 : decode cX9_clear 80 = .ok (.iconst 2, 1) := by decide +kernel
theorem dX9_clear_81 : decode cX9_clear 81 = .ok (.idiv, 1) := by decide +kernel
theorem dX9_clear_82 : decode cX9_clear 82 = .ok (.ireturn, 1) := by decide +kernel
theorem dX9_clear_83 : decode cX9_clear 83 = .ok (.iload_n 3, 1) := by decide +kernel
theorem dX9_clear_84 : decode cX9_clear 84 = .ok (.ireturn, 1) := by decide +kernel
theorem dX9_clear_85 : decode cX9_clear 85 = .ok (.aload_n 0, 1) := by decide +kernel
theorem dX9_clear_86 : decode cX9_clear 86 = .ok (.iload_n 1, 1) := by decide +kernel
theorem dX9_clear_87 : decode cX9_clear 87 = .ok (.iconst 3, 1) := by decide +kernel
theorem dX9_clear_88 : decode cX9_clear 88 = .ok (.invokevirtual 93, 3) := by decide +kernel
theorem dX9_clear_91 : decode cX9_clear 91 = .ok (.aload_n 0, 1) := by decide +kernel
theorem dX9_clear_92 : decode cX9_clear 92 = .ok (.iload_n 1, 1) := by decide +kernel
theorem dX9_clear_93 : decode cX9_clear 93 = .ok (.iconst 1, 1) := by decide +kernel
theorem dX9_clear_94 : decode cX9_clear 94 = .ok (.invokevirtual 93, 3) := by decide +kernel
theorem dX9_clear_97 : decode cX9_clear 97 = .ok (.if_icmp .ge 7, 3) := by decide +kernel
theorem dX9_clear_100 : decode cX9_clear 100 = .ok (.iconst 0, 1) := by decide +kernel
theorem dX9_clear_101 : decode cX9_clear 101 = .ok (.goto 14, 3) := by decide +kernel
theorem dX9_clear_104 : decode cX9_clear 104 = .ok (.aload_n 0, 1) := by decide +kernel
theorem dX9_clear_105 : decode cX9_clear 105 = .ok (.getfield 177, 3) := by decide +kernel
theorem dX9_clear_108 : decode cX9_clear 108 = .ok (.aload_n 0, 1) := by decide +kernel
theorem dX9_clear_109 : decode cX9_clear 109 = .ok (.iload_n 1, 1) := by decide +kernel
theorem dX9_clear_110 : decode cX9_clear 110 = .ok (.iconst 1, 1) := by decide +kernel
theorem dX9_clear_111 : decode cX9_clear 111 = .ok (.invokevirtual 93, 3) := by decide +kernel
theorem dX9_clear_114 : decode cX9_clear 114 = .ok (.iadd, 1) := by decide +kernel
theorem dX9_clear_115 : decode cX9_clear 115 = .ok (.ireturn, 1) := by decide +kernel
theorem dX9_clear_116 : decode cX9_clear 116 = .ok (.aload_n 0, 1) := by decide +kernel
theorem dX9_clear_117 : decode cX9_clear 117 = .ok (.getfield 177, 3) := by decide +kernel
theorem dX9_clear_120 : decode cX9_clear 120 = .ok (.iconst 2, 1) := by decide +kernel
theorem dX9_clear_121 : decode cX9_clear 121 = .ok (.idiv, 1) := by decide +kernel
theorem dX9_clear_122 : decode cX9_clear 122 = .ok (.iload_n 2, 1) := by decide +kernel
theorem dX9_clear_123 : decode cX9_clear 123 = .ok (.iconst 2, 1) := by decide +kernel
theorem dX9_clear_124 : decode cX9_clear 124 = .ok (.irem, 1) := by decide +kernel
theorem dX9_clear_125 : decode cX9_clear 125 = .ok (.iconst 1, 1) := by decide +kernel
theorem dX9_clear_126 : decode cX9_clear 126 = .ok (.if_icmp .ne 8, 3) := by decide +kernel
theorem dX9_clear_129 : decode cX9_clear 129 = .ok (.bipush 6, 2) := by decide +kernel
theorem dX9_clear_131 : decode cX9_clear 131 = .ok (.goto 4, 3) := by decide +kernel
theorem dX9_clear_134 : decode cX9_clear 134 = .ok (.iconst 0, 1) := by decide +kernel
theorem dX9_clear_135 : decode cX9_clear 135 = .ok (.isub, 1) := by decide +kernel
theorem dX9_clear_136 : decode cX9_clear 136 = .ok (.ireturn, 1) := by decide +kernel
theorem dX9_clear_137 : decode cX9_clear 137 = .ok (.iload_n 3, 1) := by decide +kernel
theorem dX9_clear_138 : decode cX9_clear 138 = .ok (.aload_n 0, 1) := by decide +kernel
theorem dX9_clear_139 : decode cX9_clear 139 = .ok (.iload_n 1, 1) := by decide +kernel
theorem dX9_clear_140 : decode cX9_clear 140 = .ok (.iconst 5, 1) := by decide +kernel
theorem dX9_clear_141 : decode cX9_clear 141 = .ok (.iload_n 2, 1) := by decide +kernel
theorem dX9_clear_142 : decode cX9_clear 142 = .ok (.iconst 4, 1) := by decide +kernel
theorem dX9_clear_143 : decode cX9_clear 143 = .ok (.irem, 1) := by decide +kernel
theorem dX9_clear_144 : decode cX9_clear 144 = .ok (.iadd, 1) := by decide +kernel
theorem dX9_clear_145 : decode cX9_clear 145 = .ok (.invokevirtual 93, 3) := by decide +kernel
theorem dX9_clear_148 : decode cX9_clear 148 = .ok (.iadd, 1) := by decide +kernel
theorem dX9_clear_149 : decode cX9_clear 149 = .ok (.iconst 4, 1) := by decide +kernel
theorem dX9_clear_150 : decode cX9_clear 150 = .ok (.isub, 1) := by decide +kernel
theorem dX9_clear_151 : decode cX9_clear 151 = .ok (.ireturn, 1) := by decide +kernel
theorem dX9_clear_152 : decode cX9_clear 152 = .ok (.aload_n 0, 1) := by decide +kernel
theorem dX9_clear_153 : decode cX9_clear 153 = .ok (.getfield 177, 3) := by decide +kernel
theorem dX9_clear_156 : decode cX9_clear 156 = .ok (.ireturn, 1) := by decide +kernel
theorem dX9_saysBy_0 : decode cX9_saysBy 0 = .ok (.iload_n 2, 1) := by decide +kernel
theorem dX9_saysBy_1 : decode cX9_saysBy 1 = .ok (.iload_n 1, 1) := by decide +kernel
theorem dX9_saysBy_2 : decode cX9_saysBy 2 = .ok (.ishr, 1) := by decide +kernel
theorem dX9_saysBy_3 : decode cX9_saysBy 3 = .ok (.iconst 1, 1) := by decide +kernel
theorem dX9_saysBy_4 : decode cX9_saysBy 4 = .ok (.iand, 1) := by decide +kernel
theorem dX9_saysBy_5 : decode cX9_saysBy 5 = .ok (.istore_n 3, 1) := by decide +kernel
theorem dX9_saysBy_6 : decode cX9_saysBy 6 = .ok (.iload_n 0, 1) := by decide +kernel
theorem dX9_saysBy_7 : decode cX9_saysBy 7 = .ok (.iconst 4, 1) := by decide +kernel
theorem dX9_saysBy_8 : decode cX9_saysBy 8 = .ok (.if_icmp .lt 7, 3) := by decide +kernel
theorem dX9_saysBy_11 : decode cX9_saysBy 11 = .ok (.iload_n 3, 1) := by decide +kernel
theorem dX9_saysBy_12 : decode cX9_saysBy 12 = .ok (.goto 15, 3) := by decide +kernel
theorem dX9_saysBy_15 : decode cX9_saysBy 15 = .ok (.iload_n 0, 1) := by decide +kernel
theorem dX9_saysBy_16 : decode cX9_saysBy 16 = .ok (.ifCond .ge 9, 3) := by decide +kernel
theorem dX9_saysBy_19 : decode cX9_saysBy 19 = .ok (.iconst 1, 1) := by decide +kernel
theorem dX9_saysBy_20 : decode cX9_saysBy 20 = .ok (.iload_n 3, 1) := by decide +kernel
theorem dX9_saysBy_21 : decode cX9_saysBy 21 = .ok (.isub, 1) := by decide +kernel
theorem dX9_saysBy_22 : decode cX9_saysBy 22 = .ok (.goto 5, 3) := by decide +kernel
theorem dX9_saysBy_25 : decode cX9_saysBy 25 = .ok (.bipush (-5), 2) := by decide +kernel
theorem dX9_saysBy_27 : decode cX9_saysBy 27 = .ok (.ireturn, 1) := by decide +kernel
theorem dX9_says_0 : decode cX9_says 0 = .ok (.aload_n 0, 1) := by decide +kernel
theorem dX9_says_1 : decode cX9_says 1 = .ok (.iload_n 1, 1) := by decide +kernel
theorem dX9_says_2 : decode cX9_says 2 = .ok (.iload_n 2, 1) := by decide +kernel
theorem dX9_says_3 : decode cX9_says 3 = .ok (.invokevirtual 111, 3) := by decide +kernel
theorem dX9_says_6 : decode cX9_says 6 = .ok (.iload_n 2, 1) := by decide +kernel
theorem dX9_says_7 : decode cX9_says 7 = .ok (.iload_n 3, 1) := by decide +kernel
theorem dX9_says_8 : decode cX9_says 8 = .ok (.invokestatic 193, 3) := by decide +kernel
theorem dX9_says_11 : decode cX9_says 11 = .ok (.ireturn, 1) := by decide +kernel
theorem dX9_keepNow_0 : decode cX9_keepNow 0 = .ok (.aload_n 0, 1) := by decide +kernel
theorem dX9_keepNow_1 : decode cX9_keepNow 1 = .ok (.iconst 0, 1) := by decide +kernel
theorem dX9_keepNow_2 : decode cX9_keepNow 2 = .ok (.iconst 0, 1) := by decide +kernel
theorem dX9_keepNow_3 : decode cX9_keepNow 3 = .ok (.invokevirtual 189, 3) := by decide +kernel
theorem dX9_keepNow_6 : decode cX9_keepNow 6 = .ok (.aload_n 0, 1) := by decide +kernel
theorem dX9_keepNow_7 : decode cX9_keepNow 7 = .ok (.getfield 174, 3) := by decide +kernel
theorem dX9_keepNow_10 : decode cX9_keepNow 10 = .ok (.ireturn, 1) := by decide +kernel
theorem dX9_term_0 : decode cX9_term 0 = .ok (.aload_n 0, 1) := by decide +kernel
theorem dX9_term_1 : decode cX9_term 1 = .ok (.invokevirtual 196, 3) := by decide +kernel
theorem dX9_term_4 : decode cX9_term 4 = .ok (.istore_n 1, 1) := by decide +kernel
theorem dX9_term_5 : decode cX9_term 5 = .ok (.iconst 0, 1) := by decide +kernel
theorem dX9_term_6 : decode cX9_term 6 = .ok (.istore_n 2, 1) := by decide +kernel
theorem dX9_term_7 : decode cX9_term 7 = .ok (.iload_n 2, 1) := by decide +kernel
theorem dX9_term_8 : decode cX9_term 8 = .ok (.aload_n 0, 1) := by decide +kernel
theorem dX9_term_9 : decode cX9_term 9 = .ok (.getfield 9, 3) := by decide +kernel
theorem dX9_term_12 : decode cX9_term 12 = .ok (.bipush 54, 2) := by decide +kernel
theorem dX9_term_14 : decode cX9_term 14 = .ok (.iaload, 1) := by decide +kernel
theorem dX9_term_15 : decode cX9_term 15 = .ok (.if_icmp .ge 73, 3) := by decide +kernel
theorem dX9_term_18 : decode cX9_term 18 = .ok (.aload_n 0, 1) := by decide +kernel
theorem dX9_term_19 : decode cX9_term 19 = .ok (.iload_n 2, 1) := by decide +kernel
theorem dX9_term_20 : decode cX9_term 20 = .ok (.iconst 3, 1) := by decide +kernel
theorem dX9_term_21 : decode cX9_term 21 = .ok (.aload_n 0, 1) := by decide +kernel
theorem dX9_term_22 : decode cX9_term 22 = .ok (.iload_n 2, 1) := by decide +kernel
theorem dX9_term_23 : decode cX9_term 23 = .ok (.iconst 3, 1) := by decide +kernel
theorem dX9_term_24 : decode cX9_term 24 = .ok (.invokevirtual 93, 3) := by decide +kernel
theorem dX9_term_27 : decode cX9_term 27 = .ok (.iconst 1, 1) := by decide +kernel
theorem dX9_term_28 : decode cX9_term 28 = .ok (.iadd, 1) := by decide +kernel
theorem dX9_term_29 : decode cX9_term 29 = .ok (.invokevirtual 97, 3) := by decide +kernel
theorem dX9_term_32 : decode cX9_term 32 = .ok (.pop, 1) := by decide +kernel
theorem dX9_term_33 : decode cX9_term 33 = .ok (.iload_n 1, 1) := by decide +kernel
theorem dX9_term_34 : decode cX9_term 34 = .ok (.ifCond .le 18, 3) := by decide +kernel
theorem dX9_term_37 : decode cX9_term 37 = .ok (.aload_n 0, 1) := by decide +kernel
theorem dX9_term_38 : decode cX9_term 38 = .ok (.iload_n 2, 1) := by decide +kernel
theorem dX9_term_39 : decode cX9_term 39 = .ok (.iconst 3, 1) := by decide +kernel
theorem dX9_term_40 : decode cX9_term 40 = .ok (.invokevirtual 93, 3) := by decide +kernel
theorem dX9_term_43 : decode cX9_term 43 = .ok (.iload_n 1, 1) := by decide +kernel
theorem dX9_term_44 : decode cX9_term 44 = .ok (.irem, 1) := by decide +kernel
theorem dX9_term_45 : decode cX9_term 45 = .ok (.ifCond .ne 7, 3) := by decide +kernel
theorem dX9_term_48 : decode cX9_term 48 = .ok (.iconst 1, 1) := by decide +kernel
theorem dX9_term_49 : decode cX9_term 49 = .ok (.goto 4, 3) := by decide +kernel
theorem dX9_term_52 : decode cX9_term 52 = .ok (.iconst 0, 1) := by decide +kernel
theorem dX9_term_53 : decode cX9_term 53 = .ok (.istore_n 3, 1) := by decide +kernel
theorem dX9_term_54 : decode cX9_term 54 = .ok (.aload_n 0, 1) := by decide +kernel
theorem dX9_term_55 : decode cX9_term 55 = .ok (.iload_n 2, 1) := by decide +kernel
theorem dX9_term_56 : decode cX9_term 56 = .ok (.iconst 2, 1) := by decide +kernel
theorem dX9_term_57 : decode cX9_term 57 = .ok (.bipush 9, 2) := by decide +kernel
theorem dX9_term_59 : decode cX9_term 59 = .ok (.aload_n 0, 1) := by decide +kernel
theorem dX9_term_60 : decode cX9_term 60 = .ok (.iload_n 2, 1) := by decide +kernel
theorem dX9_term_61 : decode cX9_term 61 = .ok (.iconst 2, 1) := by decide +kernel
theorem dX9_term_62 : decode cX9_term 62 = .ok (.invokevirtual 93, 3) := by decide +kernel
theorem dX9_term_65 : decode cX9_term 65 = .ok (.iload_n 3, 1) := by decide +kernel
theorem dX9_term_66 : decode cX9_term 66 = .ok (.ifCond .eq 7, 3) := by decide +kernel
theorem dX9_term_69 : decode cX9_term 69 = .ok (.iconst 1, 1) := by decide +kernel
theorem dX9_term_70 : decode cX9_term 70 = .ok (.goto 4, 3) := by decide +kernel
theorem dX9_term_73 : decode cX9_term 73 = .ok (.iconst 0, 1) := by decide +kernel
theorem dX9_term_74 : decode cX9_term 74 = .ok (.iadd, 1) := by decide +kernel
theorem dX9_term_75 : decode cX9_term 75 = .ok (.invokestatic 120, 3) := by decide +kernel
theorem dX9_term_78 : decode cX9_term 78 = .ok (.invokevirtual 97, 3) := by decide +kernel
theorem dX9_term_81 : decode cX9_term 81 = .ok (.pop, 1) := by decide +kernel
theorem dX9_term_82 : decode cX9_term 82 = .ok (.iinc 2 1, 3) := by decide +kernel
theorem dX9_term_85 : decode cX9_term 85 = .ok (.goto (-78), 3) := by decide +kernel
theorem dX9_term_88 : decode cX9_term 88 = .ok (.aload_n 0, 1) := by decide +kernel
theorem dX9_term_89 : decode cX9_term 89 = .ok (.getfield 9, 3) := by decide +kernel
theorem dX9_term_92 : decode cX9_term 92 = .ok (.bipush 56, 2) := by decide +kernel
theorem dX9_term_94 : decode cX9_term 94 = .ok (.dup2, 1) := by decide +kernel
theorem dX9_term_95 : decode cX9_term 95 = .ok (.iaload, 1) := by decide +kernel
theorem dX9_term_96 : decode cX9_term 96 = .ok (.iconst 1, 1) := by decide +kernel
theorem dX9_term_97 : decode cX9_term 97 = .ok (.iadd, 1) := by decide +kernel
theorem dX9_term_98 : decode cX9_term 98 = .ok (.iastore, 1) := by decide +kernel
theorem dX9_term_99 : decode cX9_term 99 = .ok (.return_, 1) := by decide +kernel
theorem dX9_terms_0 : decode cX9_terms 0 = .ok (.iconst 0, 1) := by decide +kernel
theorem dX9_terms_1 : decode cX9_terms 1 = .ok (.istore_n 2, 1) := by decide +kernel
theorem dX9_terms_2 : decode cX9_terms 2 = .ok (.iload_n 2, 1) := by decide +kernel
theorem dX9_terms_3 : decode cX9_terms 3 = .ok (.iload_n 1, 1) := by decide +kernel
theorem dX9_terms_4 : decode cX9_terms 4 = .ok (.if_icmp .ge 13, 3) := by decide +kernel
theorem dX9_terms_7 : decode cX9_terms 7 = .ok (.aload_n 0, 1) := by decide +kernel
theorem dX9_terms_8 : decode cX9_terms 8 = .ok (.invokevirtual 199, 3) := by decide +kernel
theorem dX9_terms_11 : decode cX9_terms 11 = .ok (.iinc 2 1, 3) := by decide +kernel
theorem dX9_terms_14 : decode cX9_terms 14 = .ok (.goto (-12), 3) := by decide +kernel
theorem dX9_terms_17 : decode cX9_terms 17 = .ok (.return_, 1) := by decide +kernel
theorem dX9_all_0 : decode cX9_all 0 = .ok (.iconst 0, 1) := by decide +kernel
theorem dX9_all_1 : decode cX9_all 1 = .ok (.istore_n 2, 1) := by decide +kernel
theorem dX9_all_2 : decode cX9_all 2 = .ok (.iconst 0, 1) := by decide +kernel
theorem dX9_all_3 : decode cX9_all 3 = .ok (.istore_n 3, 1) := by decide +kernel
theorem dX9_all_4 : decode cX9_all 4 = .ok (.iload_n 3, 1) := by decide +kernel
theorem dX9_all_5 : decode cX9_all 5 = .ok (.aload_n 0, 1) := by decide +kernel
theorem dX9_all_6 : decode cX9_all 6 = .ok (.getfield 9, 3) := by decide +kernel
theorem dX9_all_9 : decode cX9_all 9 = .ok (.bipush 54, 2) := by decide +kernel
theorem dX9_all_11 : decode cX9_all 11 = .ok (.iaload, 1) := by decide +kernel
theorem dX9_all_12 : decode cX9_all 12 = .ok (.if_icmp .ge 18, 3) := by decide +kernel
theorem dX9_all_15 : decode cX9_all 15 = .ok (.iload_n 2, 1) := by decide +kernel
theorem dX9_all_16 : decode cX9_all 16 = .ok (.aload_n 0, 1) := by decide +kernel
theorem dX9_all_17 : decode cX9_all 17 = .ok (.iload_n 3, 1) := by decide +kernel
theorem dX9_all_18 : decode cX9_all 18 = .ok (.iload_n 1, 1) := by decide +kernel
theorem dX9_all_19 : decode cX9_all 19 = .ok (.invokevirtual 93, 3) := by decide +kernel
theorem dX9_all_22 : decode cX9_all 22 = .ok (.iadd, 1) := by decide +kernel
theorem dX9_all_23 : decode cX9_all 23 = .ok (.istore_n 2, 1) := by decide +kernel
theorem dX9_all_24 : decode cX9_all 24 = .ok (.iinc 3 1, 3) := by decide +kernel
theorem dX9_all_27 : decode cX9_all 27 = .ok (.goto (-23), 3) := by decide +kernel
theorem dX9_all_30 : decode cX9_all 30 = .ok (.iload_n 2, 1) := by decide +kernel
theorem dX9_all_31 : decode cX9_all 31 = .ok (.ireturn, 1) := by decide +kernel
theorem dX9_when_0 : decode cX9_when 0 = .ok (.aload_n 0, 1) := by decide +kernel
theorem dX9_when_1 : decode cX9_when 1 = .ok (.getfield 9, 3) := by decide +kernel
theorem dX9_when_4 : decode cX9_when 4 = .ok (.aload_n 0, 1) := by decide +kernel
theorem dX9_when_5 : decode cX9_when 5 = .ok (.getfield 15, 3) := by decide +kernel
theorem dX9_when_8 : decode cX9_when 8 = .ok (.invokestatic 85, 3) := by decide +kernel
theorem dX9_when_11 : decode cX9_when 11 = .ok (.bipush (-5), 2) := by decide +kernel
theorem dX9_when_13 : decode cX9_when 13 = .ok (.istore_n 3, 1) := by decide +kernel
theorem dX9_when_14 : decode cX9_when 14 = .ok (.iconst 0, 1) := by decide +kernel
theorem dX9_when_15 : decode cX9_when 15 = .ok (.istore 4, 2) := by decide +kernel
theorem dX9_when_17 : decode cX9_when 17 = .ok (.iload 4, 2) := by decide +kernel
theorem dX9_when_19 : decode cX9_when 19 = .ok (.bipush 60, 2) := by decide +kernel
theorem dX9_when_21 : decode cX9_when 21 = .ok (.if_icmp .gt 37, 3) := by decide +kernel
theorem dX9_when_24 : decode cX9_when 24 = .ok (.iload_n 3, 1) := by decide +kernel
theorem dX9_when_25 : decode cX9_when 25 = .ok (.bipush (-5), 2) := by decide +kernel
theorem dX9_when_27 : decode cX9_when 27 = .ok (.if_icmp .ne 31, 3) := by decide +kernel
theorem dX9_when_30 : decode cX9_when 30 = .ok (.aload_n 0, 1) := by decide +kernel
theorem dX9_when_31 : decode cX9_when 31 = .ok (.iload_n 1, 1) := by decide +kernel
theorem dX9_when_32 : decode cX9_when 32 = .ok (.iload_n 2, 1) := by decide +kernel
theorem dX9_when_33 : decode cX9_when 33 = .ok (.invokevirtual 111, 3) := by decide +kernel
theorem dX9_when_36 : decode cX9_when 36 = .ok (.iconst 4, 1) := by decide +kernel
theorem dX9_when_37 : decode cX9_when 37 = .ok (.if_icmp .lt 8, 3) := by decide +kernel
theorem dX9_when_40 : decode cX9_when 40 = .ok (.iload 4, 2) := by decide +kernel
theorem dX9_when_42 : decode cX9_when 42 = .ok (.goto 5, 3) := by decide +kernel
theorem dX9_when_45 : decode cX9_when 45 = .ok (.bipush (-5), 2) := by decide +kernel
theorem dX9_when_47 : decode cX9_when 47 = .ok (.istore_n 3, 1) := by decide +kernel
theorem dX9_when_48 : decode cX9_when 48 = .ok (.aload_n 0, 1) := by decide +kernel
theorem dX9_when_49 : decode cX9_when 49 = .ok (.invokevirtual 199, 3) := by decide +kernel
theorem dX9_when_52 : decode cX9_when 52 = .ok (.iinc 4 1, 3) := by decide +kernel
theorem dX9_when_55 : decode cX9_when 55 = .ok (.goto (-38), 3) := by decide +kernel
theorem dX9_when_58 : decode cX9_when 58 = .ok (.aload_n 0, 1) := by decide +kernel
theorem dX9_when_59 : decode cX9_when 59 = .ok (.getfield 15, 3) := by decide +kernel
theorem dX9_when_62 : decode cX9_when 62 = .ok (.aload_n 0, 1) := by decide +kernel
theorem dX9_when_63 : decode cX9_when 63 = .ok (.getfield 9, 3) := by decide +kernel
theorem dX9_when_66 : decode cX9_when 66 = .ok (.invokestatic 85, 3) := by decide +kernel
theorem dX9_when_69 : decode cX9_when 69 = .ok (.iload_n 3, 1) := by decide +kernel
theorem dX9_when_70 : decode cX9_when 70 = .ok (.ireturn, 1) := by decide +kernel
theorem dX9_look_0 : decode cX9_look 0 = .ok (.iconst 0, 1) := by decide +kernel
theorem dX9_look_1 : decode cX9_look 1 = .ok (.istore_n 1, 1) := by decide +kernel
theorem dX9_look_2 : decode cX9_look 2 = .ok (.iload_n 1, 1) := by decide +kernel
theorem dX9_look_3 : decode cX9_look 3 = .ok (.aload_n 0, 1) := by decide +kernel
theorem dX9_look_4 : decode cX9_look 4 = .ok (.getfield 9, 3) := by decide +kernel
theorem dX9_look_7 : decode cX9_look 7 = .ok (.bipush 58, 2) := by decide +kernel
theorem dX9_look_9 : decode cX9_look 9 = .ok (.iaload, 1) := by decide +kernel
theorem dX9_look_10 : decode cX9_look 10 = .ok (.if_icmp .ge 40, 3) := by decide +kernel
theorem dX9_look_13 : decode cX9_look 13 = .ok (.bipush 59, 2) := by decide +kernel
theorem dX9_look_15 : decode cX9_look 15 = .ok (.iconst 3, 1) := by decide +kernel
theorem dX9_look_16 : decode cX9_look 16 = .ok (.iload_n 1, 1) := by decide +kernel
theorem dX9_look_17 : decode cX9_look 17 = .ok (.imul, 1) := by decide +kernel
theorem dX9_look_18 : decode cX9_look 18 = .ok (.iadd, 1) := by decide +kernel
theorem dX9_look_19 : decode cX9_look 19 = .ok (.istore_n 2, 1) := by decide +kernel
theorem dX9_look_20 : decode cX9_look 20 = .ok (.aload_n 0, 1) := by decide +kernel
theorem dX9_look_21 : decode cX9_look 21 = .ok (.getfield 46, 3) := by decide +kernel
theorem dX9_look_24 : decode cX9_look 24 = .ok (.iload_n 1, 1) := by decide +kernel
theorem dX9_look_25 : decode cX9_look 25 = .ok (.aload_n 0, 1) := by decide +kernel
theorem dX9_look_26 : decode cX9_look 26 = .ok (.aload_n 0, 1) := by decide +kernel
theorem dX9_look_27 : decode cX9_look 27 = .ok (.getfield 9, 3) := by decide +kernel
theorem dX9_look_30 : decode cX9_look 30 = .ok (.iload_n 2, 1) := by decide +kernel
theorem dX9_look_31 : decode cX9_look 31 = .ok (.iaload, 1) := by decide +kernel
theorem dX9_look_32 : decode cX9_look 32 = .ok (.aload_n 0, 1) := by decide +kernel
theorem dX9_look_33 : decode cX9_look 33 = .ok (.getfield 9, 3) := by decide +kernel
theorem dX9_look_36 : decode cX9_look 36 = .ok (.iload_n 2, 1) := by decide +kernel
theorem dX9_look_37 : decode cX9_look 37 = .ok (.iconst 1, 1) := by decide +kernel
theorem dX9_look_38 : decode cX9_look 38 = .ok (.iadd, 1) := by decide +kernel
theorem dX9_look_39 : decode cX9_look 39 = .ok (.iaload, 1) := by decide +kernel
theorem dX9_look_40 : decode cX9_look 40 = .ok (.invokevirtual 111, 3) := by decide +kernel
theorem dX9_look_43 : decode cX9_look 43 = .ok (.iastore, 1) := by decide +kernel
theorem dX9_look_44 : decode cX9_look 44 = .ok (.iinc 1 1, 3) := by decide +kernel
theorem dX9_look_47 : decode cX9_look 47 = .ok (.goto (-45), 3) := by decide +kernel
theorem dX9_look_50 : decode cX9_look 50 = .ok (.iconst 0, 1) := by decide +kernel
theorem dX9_look_51 : decode cX9_look 51 = .ok (.istore_n 1, 1) := by decide +kernel
theorem dX9_look_52 : decode cX9_look 52 = .ok (.iconst 0, 1) := by decide +kernel
theorem dX9_look_53 : decode cX9_look 53 = .ok (.istore_n 2, 1) := by decide +kernel
theorem dX9_look_54 : decode cX9_look 54 = .ok (.iload_n 2, 1) := by decide +kernel
theorem dX9_look_55 : decode cX9_look 55 = .ok (.sipush 256, 3) := by decide +kernel
theorem dX9_look_58 : decode cX9_look 58 = .ok (.if_icmp .ge 133, 3) := by decide +kernel
theorem dX9_look_61 : decode cX9_look 61 = .ok (.aload_n 0, 1) := by decide +kernel
theorem dX9_look_62 : decode cX9_look 62 = .ok (.getfield 49, 3) := by decide +kernel
theorem dX9_look_65 : decode cX9_look 65 = .ok (.iload_n 2, 1) := by decide +kernel
theorem dX9_look_66 : decode cX9_look 66 = .ok (.iconst 1, 1) := by decide +kernel
theorem dX9_look_67 : decode cX9_look 67 = .ok (.bastore, 1) := by decide +kernel
theorem dX9_look_68 : decode cX9_look 68 = .ok (.iconst 0, 1) := by decide +kernel
theorem dX9_look_69 : decode cX9_look 69 = .ok (.istore_n 3, 1) := by decide +kernel
theorem dX9_look_70 : decode cX9_look 70 = .ok (.iload_n 3, 1) := by decide +kernel
theorem dX9_look_71 : decode cX9_look 71 = .ok (.aload_n 0, 1) := by decide +kernel
theorem dX9_look_72 : decode cX9_look 72 = .ok (.getfield 9, 3) := by decide +kernel
theorem dX9_look_75 : decode cX9_look 75 = .ok (.bipush 58, 2) := by decide +kernel
theorem dX9_look_77 : decode cX9_look 77 = .ok (.iaload, 1) := by decide +kernel
theorem dX9_look_78 : decode cX9_look 78 = .ok (.if_icmp .ge 90, 3) := by decide +kernel
theorem dX9_look_81 : decode cX9_look 81 = .ok (.bipush 59, 2) := by decide +kernel
theorem dX9_look_83 : decode cX9_look 83 = .ok (.iconst 3, 1) := by decide +kernel
theorem dX9_look_84 : decode cX9_look 84 = .ok (.iload_n 3, 1) := by decide +kernel
theorem dX9_look_85 : decode cX9_look 85 = .ok (.imul, 1) := by decide +kernel
theorem dX9_look_86 : decode cX9_look 86 = .ok (.iadd, 1) := by decide +kernel
theorem dX9_look_87 : decode cX9_look 87 = .ok (.istore 4, 2) := by decide +kernel
theorem dX9_look_89 : decode cX9_look 89 = .ok (.aload_n 0, 1) := by decide +kernel
theorem dX9_look_90 : decode cX9_look 90 = .ok (.getfield 9, 3) := by decide +kernel
theorem dX9_look_93 : decode cX9_look 93 = .ok (.iload 4, 2) := by decide +kernel
theorem dX9_look_95 : decode cX9_look 95 = .ok (.iconst 2, 1) := by decide +kernel
theorem dX9_look_96 : decode cX9_look 96 = .ok (.iadd, 1) := by decide +kernel
theorem dX9_look_97 : decode cX9_look 97 = .ok (.iaload, 1) := by decide +kernel
theorem dX9_look_98 : decode cX9_look 98 = .ok (.iconst (-1), 1) := by decide +kernel
theorem dX9_look_99 : decode cX9_look 99 = .ok (.if_icmp .ne 8, 3) := by decide +kernel
theorem dX9_look_102 : decode cX9_look 102 = .ok (.bipush (-5), 2) := by decide +kernel
theorem dX9_look_104 : decode cX9_look 104 = .ok (.goto 12, 3) := by decide +kernel
theorem dX9_look_107 : decode cX9_look 107 = .ok (.aload_n 0, 1) := by decide +kernel
theorem dX9_look_108 : decode cX9_look 108 = .ok (.getfield 9, 3) := by decide +kernel
theorem dX9_look_111 : decode cX9_look 111 = .ok (.iload 4, 2) := by decide +kernel
theorem dX9_look_113 : decode cX9_look 113 = .ok (.iconst 2, 1) := by decide +kernel
theorem dX9_look_114 : decode cX9_look 114 = .ok (.iadd, 1) := by decide +kernel
theorem dX9_look_115 : decode cX9_look 115 = .ok (.iaload, 1) := by decide +kernel
theorem dX9_look_116 : decode cX9_look 116 = .ok (.istore 5, 2) := by decide +kernel
theorem dX9_look_118 : decode cX9_look 118 = .ok (.aload_n 0, 1) := by decide +kernel
theorem dX9_look_119 : decode cX9_look 119 = .ok (.getfield 49, 3) := by decide +kernel
theorem dX9_look_122 : decode cX9_look 122 = .ok (.iload_n 2, 1) := by decide +kernel
theorem dX9_look_123 : decode cX9_look 123 = .ok (.aload_n 0, 1) := by decide +kernel
theorem dX9_look_124 : decode cX9_look 124 = .ok (.getfield 49, 3) := by decide +kernel
theorem dX9_look_127 : decode cX9_look 127 = .ok (.iload_n 2, 1) := by decide +kernel
theorem dX9_look_128 : decode cX9_look 128 = .ok (.baload, 1) := by decide +kernel
theorem dX9_look_129 : decode cX9_look 129 = .ok (.ifCond .eq 31, 3) := by decide +kernel
theorem dX9_look_132 : decode cX9_look 132 = .ok (.aload_n 0, 1) := by decide +kernel
theorem dX9_look_133 : decode cX9_look 133 = .ok (.getfield 46, 3) := by decide +kernel
theorem dX9_look_136 : decode cX9_look 136 = .ok (.iload_n 3, 1) := by decide +kernel
theorem dX9_look_137 : decode cX9_look 137 = .ok (.iaload, 1) := by decide +kernel
theorem dX9_look_138 : decode cX9_look 138 = .ok (.aload_n 0, 1) := by decide +kernel
theorem dX9_look_139 : decode cX9_look 139 = .ok (.getfield 9, 3) := by decide +kernel
theorem dX9_look_142 : decode cX9_look 142 = .ok (.iload 4, 2) := by decide +kernel
theorem dX9_look_144 : decode cX9_look 144 = .ok (.iconst 1, 1) := by decide +kernel
theorem dX9_look_145 : decode cX9_look 145 = .ok (.iadd, 1) := by decide +kernel
theorem dX9_look_146 : decode cX9_look 146 = .ok (.iaload, 1) := by decide +kernel
theorem dX9_look_147 : decode cX9_look 147 = .ok (.iload_n 2, 1) := by decide +kernel
theorem dX9_look_148 : decode cX9_look 148 = .ok (.invokestatic 193, 3) := by decide +kernel
theorem dX9_look_151 : decode cX9_look 151 = .ok (.iload 5, 2) := by decide +kernel
theorem dX9_look_153 : decode cX9_look 153 = .ok (.if_icmp .ne 7, 3) := by decide +kernel
theorem dX9_look_156 : decode cX9_look 156 = .ok (.iconst 1, 1) := by decide +kernel
theorem dX9_look_157 : decode cX9_look 157 = .ok (.goto 4, 3) := by decide +kernel
theorem dX9_look_160 : decode cX9_look 160 = .ok (.iconst 0, 1) := by decide +kernel
theorem dX9_look_161 : decode cX9_look 161 = .ok (.bastore, 1) := by decide +kernel
theorem dX9_look_162 : decode cX9_look 162 = .ok (.iinc 3 1, 3) := by decide +kernel
theorem dX9_look_165 : decode cX9_look 165 = .ok (.goto (-95), 3) := by decide +kernel
theorem dX9_look_168 : decode cX9_look 168 = .ok (.iload_n 1, 1) := by decide +kernel
theorem dX9_look_169 : decode cX9_look 169 = .ok (.aload_n 0, 1) := by decide +kernel
theorem dX9_look_170 : decode cX9_look 170 = .ok (.getfield 49, 3) := by decide +kernel
theorem dX9_look_173 : decode cX9_look 173 = .ok (.iload_n 2, 1) := by decide +kernel
theorem dX9_look_174 : decode cX9_look 174 = .ok (.baload, 1) := by decide +kernel
theorem dX9_look_175 : decode cX9_look 175 = .ok (.ifCond .eq 7, 3) := by decide +kernel
theorem dX9_look_178 : decode cX9_look 178 = .ok (.iconst 1, 1) := by decide +kernel
theorem dX9_look_179 : decode cX9_look 179 = .ok (.goto 4, 3) := by decide +kernel
theorem dX9_look_182 : decode cX9_look 182 = .ok (.iconst 0, 1) := by decide +kernel
theorem dX9_look_183 : decode cX9_look 183 = .ok (.iadd, 1) := by decide +kernel
theorem dX9_look_184 : decode cX9_look 184 = .ok (.istore_n 1, 1) := by decide +kernel
theorem dX9_look_185 : decode cX9_look 185 = .ok (.iinc 2 1, 3) := by decide +kernel
theorem dX9_look_188 : decode cX9_look 188 = .ok (.goto (-134), 3) := by decide +kernel
theorem dX9_look_191 : decode cX9_look 191 = .ok (.iload_n 1, 1) := by decide +kernel
theorem dX9_look_192 : decode cX9_look 192 = .ok (.ireturn, 1) := by decide +kernel
theorem dX9_leastFit_0 : decode cX9_leastFit 0 = .ok (.aload_n 0, 1) := by decide +kernel
theorem dX9_leastFit_1 : decode cX9_leastFit 1 = .ok (.invokevirtual 202, 3) := by decide +kernel
theorem dX9_leastFit_4 : decode cX9_leastFit 4 = .ok (.pop, 1) := by decide +kernel
theorem dX9_leastFit_5 : decode cX9_leastFit 5 = .ok (.iconst 0, 1) := by decide +kernel
theorem dX9_leastFit_6 : decode cX9_leastFit 6 = .ok (.istore_n 1, 1) := by decide +kernel
theorem dX9_leastFit_7 : decode cX9_leastFit 7 = .ok (.iload_n 1, 1) := by decide +kernel
theorem dX9_leastFit_8 : decode cX9_leastFit 8 = .ok (.sipush 256, 3) := by decide +kernel
theorem dX9_leastFit_11 : decode cX9_leastFit 11 = .ok (.if_icmp .ge 20, 3) := by decide +kernel
theorem dX9_leastFit_14 : decode cX9_leastFit 14 = .ok (.aload_n 0, 1) := by decide +kernel
theorem dX9_leastFit_15 : decode cX9_leastFit 15 = .ok (.getfield 49, 3) := by decide +kernel
theorem dX9_leastFit_18 : decode cX9_leastFit 18 = .ok (.iload_n 1, 1) := by decide +kernel
theorem dX9_leastFit_19 : decode cX9_leastFit 19 = .ok (.baload, 1) := by decide +kernel
theorem dX9_leastFit_20 : decode cX9_leastFit 20 = .ok (.ifCond .eq 5, 3) := by decide +kernel
theorem dX9_leastFit_23 : decode cX9_leastFit 23 = .ok (.iload_n 1, 1) := by decide +kernel
theorem dX9_leastFit_24 : decode cX9_leastFit 24 = .ok (.ireturn, 1) := by decide +kernel
theorem dX9_leastFit_25 : decode cX9_leastFit 25 = .ok (.iinc 1 1, 3) := by decide +kernel
theorem dX9_leastFit_28 : decode cX9_leastFit 28 = .ok (.goto (-21), 3) := by decide +kernel
theorem dX9_leastFit_31 : decode cX9_leastFit 31 = .ok (.bipush (-5), 2) := by decide +kernel
theorem dX9_leastFit_33 : decode cX9_leastFit 33 = .ok (.ireturn, 1) := by decide +kernel
theorem dX9_sure_0 : decode cX9_sure 0 = .ok (.aload_n 0, 1) := by decide +kernel
theorem dX9_sure_1 : decode cX9_sure 1 = .ok (.invokevirtual 202, 3) := by decide +kernel
theorem dX9_sure_4 : decode cX9_sure 4 = .ok (.istore_n 2, 1) := by decide +kernel
theorem dX9_sure_5 : decode cX9_sure 5 = .ok (.sipush 255, 3) := by decide +kernel
theorem dX9_sure_8 : decode cX9_sure 8 = .ok (.istore_n 3, 1) := by decide +kernel
theorem dX9_sure_9 : decode cX9_sure 9 = .ok (.iconst 0, 1) := by decide +kernel
theorem dX9_sure_10 : decode cX9_sure 10 = .ok (.istore 4, 2) := by decide +kernel
theorem dX9_sure_12 : decode cX9_sure 12 = .ok (.iconst 0, 1) := by decide +kernel
theorem dX9_sure_13 : decode cX9_sure 13 = .ok (.istore 5, 2) := by decide +kernel
theorem dX9_sure_15 : decode cX9_sure 15 = .ok (.iload 5, 2) := by decide +kernel
theorem dX9_sure_17 : decode cX9_sure 17 = .ok (.sipush 256, 3) := by decide +kernel
theorem dX9_sure_20 : decode cX9_sure 20 = .ok (.if_icmp .ge 51, 3) := by decide +kernel
theorem dX9_sure_23 : decode cX9_sure 23 = .ok (.iload_n 3, 1) := by decide +kernel
theorem dX9_sure_24 : decode cX9_sure 24 = .ok (.aload_n 0, 1) := by decide +kernel
theorem dX9_sure_25 : decode cX9_sure 25 = .ok (.getfield 49, 3) := by decide +kernel
theorem dX9_sure_28 : decode cX9_sure 28 = .ok (.iload 5, 2) := by decide +kernel
theorem dX9_sure_30 : decode cX9_sure 30 = .ok (.baload, 1) := by decide +kernel
theorem dX9_sure_31 : decode cX9_sure 31 = .ok (.ifCond .eq 8, 3) := by decide +kernel
theorem dX9_sure_34 : decode cX9_sure 34 = .ok (.iload 5, 2) := by decide +kernel
theorem dX9_sure_36 : decode cX9_sure 36 = .ok (.goto 6, 3) := by decide +kernel
theorem dX9_sure_39 : decode cX9_sure 39 = .ok (.sipush 255, 3) := by decide +kernel
theorem dX9_sure_42 : decode cX9_sure 42 = .ok (.iand, 1) := by decide +kernel
theorem dX9_sure_43 : decode cX9_sure 43 = .ok (.istore_n 3, 1) := by decide +kernel
theorem dX9_sure_44 : decode cX9_sure 44 = .ok (.iload 4, 2) := by decide +kernel
theorem dX9_sure_46 : decode cX9_sure 46 = .ok (.aload_n 0, 1) := by decide +kernel
theorem dX9_sure_47 : decode cX9_sure 47 = .ok (.getfield 49, 3) := by decide +kernel
theorem dX9_sure_50 : decode cX9_sure 50 = .ok (.iload 5, 2) := by decide +kernel
theorem dX9_sure_52 : decode cX9_sure 52 = .ok (.baload, 1) := by decide +kernel
theorem dX9_sure_53 : decode cX9_sure 53 = .ok (.ifCond .eq 8, 3) := by decide +kernel
theorem dX9_sure_56 : decode cX9_sure 56 = .ok (.iload 5, 2) := by decide +kernel
theorem dX9_sure_58 : decode cX9_sure 58 = .ok (.goto 4, 3) := by decide +kernel
theorem dX9_sure_61 : decode cX9_sure 61 = .ok (.iconst 0, 1) := by decide +kernel
theorem dX9_sure_62 : decode cX9_sure 62 = .ok (.ior, 1) := by decide +kernel
theorem dX9_sure_63 : decode cX9_sure 63 = .ok (.istore 4, 2) := by decide +kernel
theorem dX9_sure_65 : decode cX9_sure 65 = .ok (.iinc 5 1, 3) := by decide +kernel
theorem dX9_sure_68 : decode cX9_sure 68 = .ok (.goto (-53), 3) := by decide +kernel
theorem dX9_sure_71 : decode cX9_sure 71 = .ok (.iload_n 1, 1) := by decide +kernel
theorem dX9_sure_72 : decode cX9_sure 72 = .ok (.ifCond .eq 15, 3) := by decide +kernel
theorem dX9_sure_75 : decode cX9_sure 75 = .ok (.iload_n 2, 1) := by decide +kernel
theorem dX9_sure_76 : decode cX9_sure 76 = .ok (.ifCond .ne 7, 3) := by decide +kernel
theorem dX9_sure_79 : decode cX9_sure 79 = .ok (.iconst 0, 1) := by decide +kernel
theorem dX9_sure_80 : decode cX9_sure 80 = .ok (.goto 15, 3) := by decide +kernel
theorem dX9_sure_83 : decode cX9_sure 83 = .ok (.iload_n 3, 1) := by decide +kernel
theorem dX9_sure_84 : decode cX9_sure 84 = .ok (.goto 11, 3) := by decide +kernel
theorem dX9_sure_87 : decode cX9_sure 87 = .ok (.sipush 255, 3) := by decide +kernel
theorem dX9_sure_90 : decode cX9_sure 90 = .ok (.iload 4, 2) := by decide +kernel
theorem dX9_sure_92 : decode cX9_sure 92 = .ok (.iconst (-1), 1) := by decide +kernel
theorem dX9_sure_93 : decode cX9_sure 93 = .ok (.ixor, 1) := by decide +kernel
theorem dX9_sure_94 : decode cX9_sure 94 = .ok (.iand, 1) := by decide +kernel
theorem dX9_sure_95 : decode cX9_sure 95 = .ok (.ireturn, 1) := by decide +kernel
theorem dX9_next_0 : decode cX9_next 0 = .ok (.aload_n 0, 1) := by decide +kernel
theorem dX9_next_1 : decode cX9_next 1 = .ok (.invokevirtual 202, 3) := by decide +kernel
theorem dX9_next_4 : decode cX9_next 4 = .ok (.istore_n 1, 1) := by decide +kernel
theorem dX9_next_5 : decode cX9_next 5 = .ok (.bipush (-5), 2) := by decide +kernel
theorem dX9_next_7 : decode cX9_next 7 = .ok (.istore_n 2, 1) := by decide +kernel
theorem dX9_next_8 : decode cX9_next 8 = .ok (.sipush 257, 3) := by decide +kernel
theorem dX9_next_11 : decode cX9_next 11 = .ok (.istore_n 3, 1) := by decide +kernel
theorem dX9_next_12 : decode cX9_next 12 = .ok (.iconst 0, 1) := by decide +kernel
theorem dX9_next_13 : decode cX9_next 13 = .ok (.istore 4, 2) := by decide +kernel
theorem dX9_next_15 : decode cX9_next 15 = .ok (.iload 4, 2) := by decide +kernel
theorem dX9_next_17 : decode cX9_next 17 = .ok (.aload_n 0, 1) := by decide +kernel
theorem dX9_next_18 : decode cX9_next 18 = .ok (.getfield 9, 3) := by decide +kernel
theorem dX9_next_21 : decode cX9_next 21 = .ok (.bipush 54, 2) := by decide +kernel
theorem dX9_next_23 : decode cX9_next 23 = .ok (.iaload, 1) := by decide +kernel
theorem dX9_next_24 : decode cX9_next 24 = .ok (.if_icmp .ge 176, 3) := by decide +kernel
theorem dX9_next_27 : decode cX9_next 27 = .ok (.iload_n 1, 1) := by decide +kernel
theorem dX9_next_28 : decode cX9_next 28 = .ok (.ifCond .le 172, 3) := by decide +kernel
theorem dX9_next_31 : decode cX9_next 31 = .ok (.iconst 0, 1) := by decide +kernel
theorem dX9_next_32 : decode cX9_next 32 = .ok (.istore 5, 2) := by decide +kernel
theorem dX9_next_34 : decode cX9_next 34 = .ok (.iload 5, 2) := by decide +kernel
theorem dX9_next_36 : decode cX9_next 36 = .ok (.bipush 8, 2) := by decide +kernel
theorem dX9_next_38 : decode cX9_next 38 = .ok (.if_icmp .ge 156, 3) := by decide +kernel
theorem dX9_next_41 : decode cX9_next 41 = .ok (.aload_n 0, 1) := by decide +kernel
theorem dX9_next_42 : decode cX9_next 42 = .ok (.iload 4, 2) := by decide +kernel
theorem dX9_next_44 : decode cX9_next 44 = .ok (.iload 5, 2) := by decide +kernel
theorem dX9_next_46 : decode cX9_next 46 = .ok (.invokevirtual 111, 3) := by decide +kernel
theorem dX9_next_49 : decode cX9_next 49 = .ok (.istore 6, 2) := by decide +kernel
theorem dX9_next_51 : decode cX9_next 51 = .ok (.aload_n 0, 1) := by decide +kernel
theorem dX9_next_52 : decode cX9_next 52 = .ok (.getfield 53, 3) := by decide +kernel
theorem dX9_next_55 : decode cX9_next 55 = .ok (.iconst 0, 1) := by decide +kernel
theorem dX9_next_56 : decode cX9_next 56 = .ok (.iconst 0, 1) := by decide +kernel
theorem dX9_next_57 : decode cX9_next 57 = .ok (.iastore, 1) := by decide +kernel
theorem dX9_next_58 : decode cX9_next 58 = .ok (.aload_n 0, 1) := by decide +kernel
theorem dX9_next_59 : decode cX9_next 59 = .ok (.getfield 53, 3) := by decide +kernel
theorem dX9_next_62 : decode cX9_next 62 = .ok (.iconst 1, 1) := by decide +kernel
theorem dX9_next_63 : decode cX9_next 63 = .ok (.iconst 0, 1) := by decide +kernel
theorem dX9_next_64 : decode cX9_next 64 = .ok (.iastore, 1) := by decide +kernel
theorem dX9_next_65 : decode cX9_next 65 = .ok (.aload_n 0, 1) := by decide +kernel
theorem dX9_next_66 : decode cX9_next 66 = .ok (.getfield 53, 3) := by decide +kernel
theorem dX9_next_69 : decode cX9_next 69 = .ok (.iconst 2, 1) := by decide +kernel
theorem dX9_next_70 : decode cX9_next 70 = .ok (.iconst 0, 1) := by decide +kernel
theorem dX9_next_71 : decode cX9_next 71 = .ok (.iastore, 1) := by decide +kernel
theorem dX9_next_72 : decode cX9_next 72 = .ok (.iconst 0, 1) := by decide +kernel
theorem dX9_next_73 : decode cX9_next 73 = .ok (.istore 7, 2) := by decide +kernel
theorem dX9_next_75 : decode cX9_next 75 = .ok (.iload 7, 2) := by decide +kernel
theorem dX9_next_77 : decode cX9_next 77 = .ok (.sipush 256, 3) := by decide +kernel
theorem dX9_next_80 : decode cX9_next 80 = .ok (.if_icmp .ge 56, 3) := by decide +kernel
theorem dX9_next_83 : decode cX9_next 83 = .ok (.iload 6, 2) := by decide +kernel
theorem dX9_next_85 : decode cX9_next 85 = .ok (.iload 5, 2) := by decide +kernel
theorem dX9_next_87 : decode cX9_next 87 = .ok (.iload 7, 2) := by decide +kernel
theorem dX9_next_89 : decode cX9_next 89 = .ok (.invokestatic 193, 3) := by decide +kernel
theorem dX9_next_92 : decode cX9_next 92 = .ok (.istore 8, 2) := by decide +kernel
theorem dX9_next_94 : decode cX9_next 94 = .ok (.aload_n 0, 1) := by decide +kernel
theorem dX9_next_95 : decode cX9_next 95 = .ok (.getfield 53, 3) := by decide +kernel
theorem dX9_next_98 : decode cX9_next 98 = .ok (.iload 8, 2) := by decide +kernel
theorem dX9_next_100 : decode cX9_next 100 = .ok (.bipush (-5), 2) := by decide +kernel
theorem dX9_next_102 : decode cX9_next 102 = .ok (.if_icmp .ne 7, 3) := by decide +kernel
theorem dX9_next_105 : decode cX9_next 105 = .ok (.iconst 2, 1) := by decide +kernel
theorem dX9_next_106 : decode cX9_next 106 = .ok (.goto 5, 3) := by decide +kernel
theorem dX9_next_109 : decode cX9_next 109 = .ok (.iload 8, 2) := by decide +kernel
theorem dX9_next_111 : decode cX9_next 111 = .ok (.dup2, 1) := by decide +kernel
theorem dX9_next_112 : decode cX9_next 112 = .ok (.iaload, 1) := by decide +kernel
theorem dX9_next_113 : decode cX9_next 113 = .ok (.aload_n 0, 1) := by decide +kernel
theorem dX9_next_114 : decode cX9_next 114 = .ok (.getfield 49, 3) := by decide +kernel
theorem dX9_next_117 : decode cX9_next 117 = .ok (.iload 7, 2) := by decide +kernel
theorem dX9_next_119 : decode cX9_next 119 = .ok (.baload, 1) := by decide +kernel
theorem dX9_next_120 : decode cX9_next 120 = .ok (.ifCond .eq 7, 3) := by decide +kernel
theorem dX9_next_123 : decode cX9_next 123 = .ok (.iconst 1, 1) := by decide +kernel
theorem dX9_next_124 : decode cX9_next 124 = .ok (.goto 4, 3) := by decide +kernel
theorem dX9_next_127 : decode cX9_next 127 = .ok (.iconst 0, 1) := by decide +kernel
theorem dX9_next_128 : decode cX9_next 128 = .ok (.iadd, 1) := by decide +kernel
theorem dX9_next_129 : decode cX9_next 129 = .ok (.iastore, 1) := by decide +kernel
theorem dX9_next_130 : decode cX9_next 130 = .ok (.iinc 7 1, 3) := by decide +kernel
theorem dX9_next_133 : decode cX9_next 133 = .ok (.goto (-58), 3) := by decide +kernel
theorem dX9_next_136 : decode cX9_next 136 = .ok (.aload_n 0, 1) := by decide +kernel
theorem dX9_next_137 : decode cX9_next 137 = .ok (.getfield 53, 3) := by decide +kernel
theorem dX9_next_140 : decode cX9_next 140 = .ok (.iconst 0, 1) := by decide +kernel
theorem dX9_next_141 : decode cX9_next 141 = .ok (.iaload, 1) := by decide +kernel
theorem dX9_next_142 : decode cX9_next 142 = .ok (.aload_n 0, 1) := by decide +kernel
theorem dX9_next_143 : decode cX9_next 143 = .ok (.getfield 53, 3) := by decide +kernel
theorem dX9_next_146 : decode cX9_next 146 = .ok (.iconst 1, 1) := by decide +kernel
theorem dX9_next_147 : decode cX9_next 147 = .ok (.iaload, 1) := by decide +kernel
theorem dX9_next_148 : decode cX9_next 148 = .ok (.aload_n 0, 1) := by decide +kernel
theorem dX9_next_149 : decode cX9_next 149 = .ok (.getfield 53, 3) := by decide +kernel
theorem dX9_next_152 : decode cX9_next 152 = .ok (.iconst 2, 1) := by decide +kernel
theorem dX9_next_153 : decode cX9_next 153 = .ok (.iaload, 1) := by decide +kernel
theorem dX9_next_154 : decode cX9_next 154 = .ok (.invokestatic 125, 3) := by decide +kernel
theorem dX9_next_157 : decode cX9_next 157 = .ok (.invokestatic 125, 3) := by decide +kernel
theorem dX9_next_160 : decode cX9_next 160 = .ok (.istore 7, 2) := by decide +kernel
theorem dX9_next_162 : decode cX9_next 162 = .ok (.iload 7, 2) := by decide +kernel
theorem dX9_next_164 : decode cX9_next 164 = .ok (.iload_n 3, 1) := by decide +kernel
theorem dX9_next_165 : decode cX9_next 165 = .ok (.if_icmp .ge 14, 3) := by decide +kernel
theorem dX9_next_168 : decode cX9_next 168 = .ok (.bipush 10, 2) := by decide +kernel
theorem dX9_next_170 : decode cX9_next 170 = .ok (.iload 4, 2) := by decide +kernel
theorem dX9_next_172 : decode cX9_next 172 = .ok (.imul, 1) := by decide +kernel
theorem dX9_next_173 : decode cX9_next 173 = .ok (.iload 5, 2) := by decide +kernel
theorem dX9_next_175 : decode cX9_next 175 = .ok (.iadd, 1) := by decide +kernel
theorem dX9_next_176 : decode cX9_next 176 = .ok (.goto 4, 3) := by decide +kernel
theorem dX9_next_179 : decode cX9_next 179 = .ok (.iload_n 2, 1) := by decide +kernel
theorem dX9_next_180 : decode cX9_next 180 = .ok (.istore_n 2, 1) := by decide +kernel
theorem dX9_next_181 : decode cX9_next 181 = .ok (.iload 7, 2) := by decide +kernel
theorem dX9_next_183 : decode cX9_next 183 = .ok (.iload_n 3, 1) := by decide +kernel
theorem dX9_next_184 : decode cX9_next 184 = .ok (.invokestatic 120, 3) := by decide +kernel
theorem dX9_next_187 : decode cX9_next 187 = .ok (.istore_n 3, 1) := by decide +kernel
theorem dX9_next_188 : decode cX9_next 188 = .ok (.iinc 5 1, 3) := by decide +kernel
theorem dX9_next_191 : decode cX9_next 191 = .ok (.goto (-157), 3) := by decide +kernel
theorem dX9_next_194 : decode cX9_next 194 = .ok (.iinc 4 1, 3) := by decide +kernel
theorem dX9_next_197 : decode cX9_next 197 = .ok (.goto (-182), 3) := by decide +kernel
theorem dX9_next_200 : decode cX9_next 200 = .ok (.iload_n 2, 1) := by decide +kernel
theorem dX9_next_201 : decode cX9_next 201 = .ok (.ireturn, 1) := by decide +kernel
theorem dX9_found_0 : decode cX9_found 0 = .ok (.iconst 0, 1) := by decide +kernel
theorem dX9_found_1 : decode cX9_found 1 = .ok (.istore_n 2, 1) := by decide +kernel
theorem dX9_found_2 : decode cX9_found 2 = .ok (.iconst 0, 1) := by decide +kernel
theorem dX9_found_3 : decode cX9_found 3 = .ok (.istore_n 3, 1) := by decide +kernel
theorem dX9_found_4 : decode cX9_found 4 = .ok (.iload_n 3, 1) := by decide +kernel
theorem dX9_found_5 : decode cX9_found 5 = .ok (.aload_n 0, 1) := by decide +kernel
theorem dX9_found_6 : decode cX9_found 6 = .ok (.getfield 9, 3) := by decide +kernel
theorem dX9_found_9 : decode cX9_found 9 = .ok (.bipush 54, 2) := by decide +kernel
theorem dX9_found_11 : decode cX9_found 11 = .ok (.iaload, 1) := by decide +kernel
theorem dX9_found_12 : decode cX9_found 12 = .ok (.if_icmp .ge 66, 3) := by decide +kernel
theorem dX9_found_15 : decode cX9_found 15 = .ok (.aload_n 0, 1) := by decide +kernel
theorem dX9_found_16 : decode cX9_found 16 = .ok (.iload_n 3, 1) := by decide +kernel
theorem dX9_found_17 : decode cX9_found 17 = .ok (.iload_n 1, 1) := by decide +kernel
theorem dX9_found_18 : decode cX9_found 18 = .ok (.invokevirtual 111, 3) := by decide +kernel
theorem dX9_found_21 : decode cX9_found 21 = .ok (.istore 4, 2) := by decide +kernel
theorem dX9_found_23 : decode cX9_found 23 = .ok (.iload 4, 2) := by decide +kernel
theorem dX9_found_25 : decode cX9_found 25 = .ok (.iload_n 1, 1) := by decide +kernel
theorem dX9_found_26 : decode cX9_found 26 = .ok (.aload_n 0, 1) := by decide +kernel
theorem dX9_found_27 : decode cX9_found 27 = .ok (.getfield 9, 3) := by decide +kernel
theorem dX9_found_30 : decode cX9_found 30 = .ok (.bipush 55, 2) := by decide +kernel
theorem dX9_found_32 : decode cX9_found 32 = .ok (.iaload, 1) := by decide +kernel
theorem dX9_found_33 : decode cX9_found 33 = .ok (.invokestatic 193, 3) := by decide +kernel
theorem dX9_found_36 : decode cX9_found 36 = .ok (.istore 5, 2) := by decide +kernel
theorem dX9_found_38 : decode cX9_found 38 = .ok (.iload_n 2, 1) := by decide +kernel
theorem dX9_found_39 : decode cX9_found 39 = .ok (.iload 5, 2) := by decide +kernel
theorem dX9_found_41 : decode cX9_found 41 = .ok (.bipush (-5), 2) := by decide +kernel
theorem dX9_found_43 : decode cX9_found 43 = .ok (.if_icmp .ne 7, 3) := by decide +kernel
theorem dX9_found_46 : decode cX9_found 46 = .ok (.iconst 0, 1) := by decide +kernel
theorem dX9_found_47 : decode cX9_found 47 = .ok (.goto 23, 3) := by decide +kernel
theorem dX9_found_50 : decode cX9_found 50 = .ok (.iload 5, 2) := by decide +kernel
theorem dX9_found_52 : decode cX9_found 52 = .ok (.iconst 1, 1) := by decide +kernel
theorem dX9_found_53 : decode cX9_found 53 = .ok (.if_icmp .ne 11, 3) := by decide +kernel
theorem dX9_found_56 : decode cX9_found 56 = .ok (.iload 4, 2) := by decide +kernel
theorem dX9_found_58 : decode cX9_found 58 = .ok (.invokestatic 205, 3) := by decide +kernel
theorem dX9_found_61 : decode cX9_found 61 = .ok (.goto 9, 3) := by decide +kernel
theorem dX9_found_64 : decode cX9_found 64 = .ok (.iload 4, 2) := by decide +kernel
theorem dX9_found_66 : decode cX9_found 66 = .ok (.invokestatic 205, 3) := by decide +kernel
theorem dX9_found_69 : decode cX9_found 69 = .ok (.ineg, 1) := by decide +kernel
theorem dX9_found_70 : decode cX9_found 70 = .ok (.iadd, 1) := by decide +kernel
theorem dX9_found_71 : decode cX9_found 71 = .ok (.istore_n 2, 1) := by decide +kernel
theorem dX9_found_72 : decode cX9_found 72 = .ok (.iinc 3 1, 3) := by decide +kernel
theorem dX9_found_75 : decode cX9_found 75 = .ok (.goto (-71), 3) := by decide +kernel
theorem dX9_found_78 : decode cX9_found 78 = .ok (.iload_n 2, 1) := by decide +kernel
theorem dX9_found_79 : decode cX9_found 79 = .ok (.ireturn, 1) := by decide +kernel
theorem dX9_told_0 : decode cX9_told 0 = .ok (.iload_n 1, 1) := by decide +kernel
theorem dX9_told_1 : decode cX9_told 1 = .ok (.tableswitch 95 0 7 #[47, 55, 60, 68, 73, 78, 84, 90], 47) := by decide +kernel
theorem dX9_told_48 : decode cX9_told 48 = .ok (.aload_n 0, 1) := by decide +kernel
theorem dX9_told_49 : decode cX9_told 49 = .ok (.getfield 9, 3) := by decide +kernel
theorem dX9_told_52 : decode cX9_told 52 = .ok (.bipush 56, 2) := by decide +kernel
theorem dX9_told_54 : decode cX9_told 54 = .ok (.iaload, 1) := by decide +kernel
theorem dX9_told_55 : decode cX9_told 55 = .ok (.ireturn, 1) := by decide +kernel
theorem dX9_told_56 : decode cX9_told 56 = .ok (.aload_n 0, 1) := by decide +kernel
theorem dX9_told_57 : decode cX9_told 57 = .ok (.invokevirtual 196, 3) := by decide +kernel
theorem dX9_told_60 : decode cX9_told 60 = .ok (.ireturn, 1) := by decide +kernel
theorem dX9_told_61 : decode cX9_told 61 = .ok (.aload_n 0, 1) := by decide +kernel
theorem dX9_told_62 : decode cX9_told 62 = .ok (.getfield 9, 3) := by decide +kernel
theorem dX9_told_65 : decode cX9_told 65 = .ok (.bipush 55, 2) := by decide +kernel
theorem dX9_told_67 : decode cX9_told 67 = .ok (.iaload, 1) := by decide +kernel
theorem dX9_told_68 : decode cX9_told 68 = .ok (.ireturn, 1) := by decide +kernel
theorem dX9_told_69 : decode cX9_told 69 = .ok (.aload_n 0, 1) := by decide +kernel
theorem dX9_told_70 : decode cX9_told 70 = .ok (.invokevirtual 202, 3) := by decide +kernel
theorem dX9_told_73 : decode cX9_told 73 = .ok (.ireturn, 1) := by decide +kernel
theorem dX9_told_74 : decode cX9_told 74 = .ok (.aload_n 0, 1) := by decide +kernel
theorem dX9_told_75 : decode cX9_told 75 = .ok (.invokevirtual 209, 3) := by decide +kernel
theorem dX9_told_78 : decode cX9_told 78 = .ok (.ireturn, 1) := by decide +kernel
theorem dX9_told_79 : decode cX9_told 79 = .ok (.aload_n 0, 1) := by decide +kernel
theorem dX9_told_80 : decode cX9_told 80 = .ok (.iconst 1, 1) := by decide +kernel
theorem dX9_told_81 : decode cX9_told 81 = .ok (.invokevirtual 212, 3) := by decide +kernel
theorem dX9_told_84 : decode cX9_told 84 = .ok (.ireturn, 1) := by decide +kernel
theorem dX9_told_85 : decode cX9_told 85 = .ok (.aload_n 0, 1) := by decide +kernel
theorem dX9_told_86 : decode cX9_told 86 = .ok (.iconst 0, 1) := by decide +kernel
theorem dX9_told_87 : decode cX9_told 87 = .ok (.invokevirtual 212, 3) := by decide +kernel
theorem dX9_told_90 : decode cX9_told 90 = .ok (.ireturn, 1) := by decide +kernel
theorem dX9_told_91 : decode cX9_told 91 = .ok (.aload_n 0, 1) := by decide +kernel
theorem dX9_told_92 : decode cX9_told 92 = .ok (.invokevirtual 216, 3) := by decide +kernel
theorem dX9_told_95 : decode cX9_told 95 = .ok (.ireturn, 1) := by decide +kernel
theorem dX9_told_96 : decode cX9_told 96 = .ok (.iload_n 1, 1) := by decide +kernel
theorem dX9_told_97 : decode cX9_told 97 = .ok (.bipush 10, 2) := by decide +kernel
theorem dX9_told_99 : decode cX9_told 99 = .ok (.isub, 1) := by decide +kernel
theorem dX9_told_100 : decode cX9_told 100 = .ok (.invokestatic 108, 3) := by decide +kernel
theorem dX9_told_103 : decode cX9_told 103 = .ok (.ifCond .eq 14, 3) := by decide +kernel
theorem dX9_told_106 : decode cX9_told 106 = .ok (.aload_n 0, 1) := by decide +kernel
theorem dX9_told_107 : decode cX9_told 107 = .ok (.iload_n 1, 1) := by decide +kernel
theorem dX9_told_108 : decode cX9_told 108 = .ok (.bipush 10, 2) := by decide +kernel
theorem dX9_told_110 : decode cX9_told 110 = .ok (.isub, 1) := by decide +kernel
theorem dX9_told_111 : decode cX9_told 111 = .ok (.invokevirtual 219, 3) := by decide +kernel
theorem dX9_told_114 : decode cX9_told 114 = .ok (.goto 6, 3) := by decide +kernel
theorem dX9_told_117 : decode cX9_told 117 = .ok (.sipush (-10001), 3) := by decide +kernel
theorem dX9_told_120 : decode cX9_told 120 = .ok (.ireturn, 1) := by decide +kernel
theorem dX9_pass_0 : decode cX9_pass 0 = .ok (.iload_n 1, 1) := by decide +kernel
theorem dX9_pass_1 : decode cX9_pass 1 = .ok (.iconst 0, 1) := by decide +kernel
theorem dX9_pass_2 : decode cX9_pass 2 = .ok (.bipush 60, 2) := by decide +kernel
theorem dX9_pass_4 : decode cX9_pass 4 = .ok (.invokestatic 89, 3) := by decide +kernel
theorem dX9_pass_7 : decode cX9_pass 7 = .ok (.ifCond .ne 6, 3) := by decide +kernel
theorem dX9_pass_10 : decode cX9_pass 10 = .ok (.bipush (-2), 2) := by decide +kernel
theorem dX9_pass_12 : decode cX9_pass 12 = .ok (.ireturn, 1) := by decide +kernel
theorem dX9_pass_13 : decode cX9_pass 13 = .ok (.aload_n 0, 1) := by decide +kernel
theorem dX9_pass_14 : decode cX9_pass 14 = .ok (.getfield 9, 3) := by decide +kernel
theorem dX9_pass_17 : decode cX9_pass 17 = .ok (.bipush 56, 2) := by decide +kernel
theorem dX9_pass_19 : decode cX9_pass 19 = .ok (.iaload, 1) := by decide +kernel
theorem dX9_pass_20 : decode cX9_pass 20 = .ok (.iload_n 1, 1) := by decide +kernel
theorem dX9_pass_21 : decode cX9_pass 21 = .ok (.iadd, 1) := by decide +kernel
theorem dX9_pass_22 : decode cX9_pass 22 = .ok (.sipush 9999, 3) := by decide +kernel
theorem dX9_pass_25 : decode cX9_pass 25 = .ok (.if_icmp .le 6, 3) := by decide +kernel
theorem dX9_pass_28 : decode cX9_pass 28 = .ok (.bipush (-3), 2) := by decide +kernel
theorem dX9_pass_30 : decode cX9_pass 30 = .ok (.ireturn, 1) := by decide +kernel
theorem dX9_pass_31 : decode cX9_pass 31 = .ok (.aload_n 0, 1) := by decide +kernel
theorem dX9_pass_32 : decode cX9_pass 32 = .ok (.iload_n 1, 1) := by decide +kernel
theorem dX9_pass_33 : decode cX9_pass 33 = .ok (.invokevirtual 222, 3) := by decide +kernel
theorem dX9_pass_36 : decode cX9_pass 36 = .ok (.aload_n 0, 1) := by decide +kernel
theorem dX9_pass_37 : decode cX9_pass 37 = .ok (.getfield 9, 3) := by decide +kernel
theorem dX9_pass_40 : decode cX9_pass 40 = .ok (.bipush 56, 2) := by decide +kernel
theorem dX9_pass_42 : decode cX9_pass 42 = .ok (.iaload, 1) := by decide +kernel
theorem dX9_pass_43 : decode cX9_pass 43 = .ok (.ireturn, 1) := by decide +kernel
theorem dX9_on_0 : decode cX9_on 0 = .ok (.iload_n 2, 1) := by decide +kernel
theorem dX9_on_1 : decode cX9_on 1 = .ok (.ifCond .eq 29, 3) := by decide +kernel
theorem dX9_on_4 : decode cX9_on 4 = .ok (.aload_n 0, 1) := by decide +kernel
theorem dX9_on_5 : decode cX9_on 5 = .ok (.iload_n 2, 1) := by decide +kernel
theorem dX9_on_6 : decode cX9_on 6 = .ok (.bipush 10, 2) := by decide +kernel
theorem dX9_on_8 : decode cX9_on 8 = .ok (.isub, 1) := by decide +kernel
theorem dX9_on_9 : decode cX9_on 9 = .ok (.invokevirtual 101, 3) := by decide +kernel
theorem dX9_on_12 : decode cX9_on 12 = .ok (.ifCond .ne 18, 3) := by decide +kernel
theorem dX9_on_15 : decode cX9_on 15 = .ok (.aload_n 0, 1) := by decide +kernel
theorem dX9_on_16 : decode cX9_on 16 = .ok (.iload_n 2, 1) := by decide +kernel
theorem dX9_on_17 : decode cX9_on 17 = .ok (.bipush 20, 2) := by decide +kernel
theorem dX9_on_19 : decode cX9_on 19 = .ok (.isub, 1) := by decide +kernel
theorem dX9_on_20 : decode cX9_on 20 = .ok (.invokevirtual 101, 3) := by decide +kernel
theorem dX9_on_23 : decode cX9_on 23 = .ok (.ifCond .ne 7, 3) := by decide +kernel
theorem dX9_on_26 : decode cX9_on 26 = .ok (.sipush (-10001), 3) := by decide +kernel
theorem dX9_on_29 : decode cX9_on 29 = .ok (.ireturn, 1) := by decide +kernel
theorem dX9_on_30 : decode cX9_on 30 = .ok (.iload_n 1, 1) := by decide +kernel
theorem dX9_on_31 : decode cX9_on 31 = .ok (.iconst 0, 1) := by decide +kernel
theorem dX9_on_32 : decode cX9_on 32 = .ok (.bipush 60, 2) := by decide +kernel
theorem dX9_on_34 : decode cX9_on 34 = .ok (.invokestatic 89, 3) := by decide +kernel
theorem dX9_on_37 : decode cX9_on 37 = .ok (.ifCond .ne 6, 3) := by decide +kernel
theorem dX9_on_40 : decode cX9_on 40 = .ok (.bipush (-2), 2) := by decide +kernel
theorem dX9_on_42 : decode cX9_on 42 = .ok (.ireturn, 1) := by decide +kernel
theorem dX9_on_43 : decode cX9_on 43 = .ok (.aload_n 0, 1) := by decide +kernel
theorem dX9_on_44 : decode cX9_on 44 = .ok (.getfield 9, 3) := by decide +kernel
theorem dX9_on_47 : decode cX9_on 47 = .ok (.aload_n 0, 1) := by decide +kernel
theorem dX9_on_48 : decode cX9_on 48 = .ok (.getfield 15, 3) := by decide +kernel
theorem dX9_on_51 : decode cX9_on 51 = .ok (.invokestatic 85, 3) := by decide +kernel
theorem dX9_on_54 : decode cX9_on 54 = .ok (.aload_n 0, 1) := by decide +kernel
theorem dX9_on_55 : decode cX9_on 55 = .ok (.iload_n 1, 1) := by decide +kernel
theorem dX9_on_56 : decode cX9_on 56 = .ok (.invokevirtual 222, 3) := by decide +kernel
theorem dX9_on_59 : decode cX9_on 59 = .ok (.iload_n 2, 1) := by decide +kernel
theorem dX9_on_60 : decode cX9_on 60 = .ok (.ifCond .ne 11, 3) := by decide +kernel
theorem dX9_on_63 : decode cX9_on 63 = .ok (.aload_n 0, 1) := by decide +kernel
theorem dX9_on_64 : decode cX9_on 64 = .ok (.iconst 2, 1) := by decide +kernel
theorem dX9_on_65 : decode cX9_on 65 = .ok (.invokevirtual 225, 3) := by decide +kernel
theorem dX9_on_68 : decode cX9_on 68 = .ok (.goto 37, 3) := by decide +kernel
theorem dX9_on_71 : decode cX9_on 71 = .ok (.iload_n 2, 1) := by decide +kernel
theorem dX9_on_72 : decode cX9_on 72 = .ok (.bipush 20, 2) := by decide +kernel
theorem dX9_on_74 : decode cX9_on 74 = .ok (.if_icmp .ge 15, 3) := by decide +kernel
theorem dX9_on_77 : decode cX9_on 77 = .ok (.aload_n 0, 1) := by decide +kernel
theorem dX9_on_78 : decode cX9_on 78 = .ok (.iload_n 2, 1) := by decide +kernel
theorem dX9_on_79 : decode cX9_on 79 = .ok (.bipush 10, 2) := by decide +kernel
theorem dX9_on_81 : decode cX9_on 81 = .ok (.isub, 1) := by decide +kernel
theorem dX9_on_82 : decode cX9_on 82 = .ok (.iconst 2, 1) := by decide +kernel
theorem dX9_on_83 : decode cX9_on 83 = .ok (.invokevirtual 93, 3) := by decide +kernel
theorem dX9_on_86 : decode cX9_on 86 = .ok (.goto 19, 3) := by decide +kernel
theorem dX9_on_89 : decode cX9_on 89 = .ok (.aload_n 0, 1) := by decide +kernel
theorem dX9_on_90 : decode cX9_on 90 = .ok (.iload_n 2, 1) := by decide +kernel
theorem dX9_on_91 : decode cX9_on 91 = .ok (.bipush 20, 2) := by decide +kernel
theorem dX9_on_93 : decode cX9_on 93 = .ok (.isub, 1) := by decide +kernel
theorem dX9_on_94 : decode cX9_on 94 = .ok (.iconst 0, 1) := by decide +kernel
theorem dX9_on_95 : decode cX9_on 95 = .ok (.aload_n 0, 1) := by decide +kernel
theorem dX9_on_96 : decode cX9_on 96 = .ok (.getfield 9, 3) := by decide +kernel
theorem dX9_on_99 : decode cX9_on 99 = .ok (.bipush 55, 2) := by decide +kernel
theorem dX9_on_101 : decode cX9_on 101 = .ok (.iaload, 1) := by decide +kernel
theorem dX9_on_102 : decode cX9_on 102 = .ok (.invokevirtual 114, 3) := by decide +kernel
theorem dX9_on_105 : decode cX9_on 105 = .ok (.istore_n 3, 1) := by decide +kernel
theorem dX9_on_106 : decode cX9_on 106 = .ok (.aload_n 0, 1) := by decide +kernel
theorem dX9_on_107 : decode cX9_on 107 = .ok (.getfield 15, 3) := by decide +kernel
theorem dX9_on_110 : decode cX9_on 110 = .ok (.aload_n 0, 1) := by decide +kernel
theorem dX9_on_111 : decode cX9_on 111 = .ok (.getfield 9, 3) := by decide +kernel
theorem dX9_on_114 : decode cX9_on 114 = .ok (.invokestatic 85, 3) := by decide +kernel
theorem dX9_on_117 : decode cX9_on 117 = .ok (.iload_n 3, 1) := by decide +kernel
theorem dX9_on_118 : decode cX9_on 118 = .ok (.ireturn, 1) := by decide +kernel
theorem dX9_ask_0 : decode cX9_ask 0 = .ok (.iconst 0, 1) := by decide +kernel
theorem dX9_ask_1 : decode cX9_ask 1 = .ok (.istore_n 1, 1) := by decide +kernel
theorem dX9_ask_2 : decode cX9_ask 2 = .ok (.iload_n 1, 1) := by decide +kernel
theorem dX9_ask_3 : decode cX9_ask 3 = .ok (.aload_n 0, 1) := by decide +kernel
theorem dX9_ask_4 : decode cX9_ask 4 = .ok (.getfield 9, 3) := by decide +kernel
theorem dX9_ask_7 : decode cX9_ask 7 = .ok (.bipush 54, 2) := by decide +kernel
theorem dX9_ask_9 : decode cX9_ask 9 = .ok (.iaload, 1) := by decide +kernel
theorem dX9_ask_10 : decode cX9_ask 10 = .ok (.if_icmp .ge 64, 3) := by decide +kernel
theorem dX9_ask_13 : decode cX9_ask 13 = .ok (.aload_n 0, 1) := by decide +kernel
theorem dX9_ask_14 : decode cX9_ask 14 = .ok (.getfield 56, 3) := by decide +kernel
theorem dX9_ask_17 : decode cX9_ask 17 = .ok (.iload_n 1, 1) := by decide +kernel
theorem dX9_ask_18 : decode cX9_ask 18 = .ok (.iconst 0, 1) := by decide +kernel
theorem dX9_ask_19 : decode cX9_ask 19 = .ok (.iastore, 1) := by decide +kernel
theorem dX9_ask_20 : decode cX9_ask 20 = .ok (.iconst 0, 1) := by decide +kernel
theorem dX9_ask_21 : decode cX9_ask 21 = .ok (.istore_n 2, 1) := by decide +kernel
theorem dX9_ask_22 : decode cX9_ask 22 = .ok (.iload_n 2, 1) := by decide +kernel
theorem dX9_ask_23 : decode cX9_ask 23 = .ok (.bipush 8, 2) := by decide +kernel
theorem dX9_ask_25 : decode cX9_ask 25 = .ok (.if_icmp .ge 43, 3) := by decide +kernel
theorem dX9_ask_28 : decode cX9_ask 28 = .ok (.aload_n 0, 1) := by decide +kernel
theorem dX9_ask_29 : decode cX9_ask 29 = .ok (.getfield 56, 3) := by decide +kernel
theorem dX9_ask_32 : decode cX9_ask 32 = .ok (.iload_n 1, 1) := by decide +kernel
theorem dX9_ask_33 : decode cX9_ask 33 = .ok (.dup2, 1) := by decide +kernel
theorem dX9_ask_34 : decode cX9_ask 34 = .ok (.iaload, 1) := by decide +kernel
theorem dX9_ask_35 : decode cX9_ask 35 = .ok (.aload_n 0, 1) := by decide +kernel
theorem dX9_ask_36 : decode cX9_ask 36 = .ok (.iload_n 1, 1) := by decide +kernel
theorem dX9_ask_37 : decode cX9_ask 37 = .ok (.iload_n 2, 1) := by decide +kernel
theorem dX9_ask_38 : decode cX9_ask 38 = .ok (.aload_n 0, 1) := by decide +kernel
theorem dX9_ask_39 : decode cX9_ask 39 = .ok (.getfield 9, 3) := by decide +kernel
theorem dX9_ask_42 : decode cX9_ask 42 = .ok (.bipush 55, 2) := by decide +kernel
theorem dX9_ask_44 : decode cX9_ask 44 = .ok (.iaload, 1) := by decide +kernel
theorem dX9_ask_45 : decode cX9_ask 45 = .ok (.invokevirtual 114, 3) := by decide +kernel
theorem dX9_ask_48 : decode cX9_ask 48 = .ok (.bipush (-5), 2) := by decide +kernel
theorem dX9_ask_50 : decode cX9_ask 50 = .ok (.if_icmp .ne 7, 3) := by decide +kernel
theorem dX9_ask_53 : decode cX9_ask 53 = .ok (.iconst 0, 1) := by decide +kernel
theorem dX9_ask_54 : decode cX9_ask 54 = .ok (.goto 6, 3) := by decide +kernel
theorem dX9_ask_57 : decode cX9_ask 57 = .ok (.iconst 1, 1) := by decide +kernel
theorem dX9_ask_58 : decode cX9_ask 58 = .ok (.iload_n 2, 1) := by decide +kernel
theorem dX9_ask_59 : decode cX9_ask 59 = .ok (.ishl, 1) := by decide +kernel
theorem dX9_ask_60 : decode cX9_ask 60 = .ok (.ior, 1) := by decide +kernel
theorem dX9_ask_61 : decode cX9_ask 61 = .ok (.iastore, 1) := by decide +kernel
theorem dX9_ask_62 : decode cX9_ask 62 = .ok (.iinc 2 1, 3) := by decide +kernel
theorem dX9_ask_65 : decode cX9_ask 65 = .ok (.goto (-43), 3) := by decide +kernel
theorem dX9_ask_68 : decode cX9_ask 68 = .ok (.iinc 1 1, 3) := by decide +kernel
theorem dX9_ask_71 : decode cX9_ask 71 = .ok (.goto (-69), 3) := by decide +kernel
theorem dX9_ask_74 : decode cX9_ask 74 = .ok (.return_, 1) := by decide +kernel
theorem dX9_enough_0 : decode cX9_enough 0 = .ok (.bipush (-5), 2) := by decide +kernel
theorem dX9_enough_2 : decode cX9_enough 2 = .ok (.istore_n 2, 1) := by decide +kernel
theorem dX9_enough_3 : decode cX9_enough 3 = .ok (.iconst 0, 1) := by decide +kernel
theorem dX9_enough_4 : decode cX9_enough 4 = .ok (.istore_n 3, 1) := by decide +kernel
theorem dX9_enough_5 : decode cX9_enough 5 = .ok (.iload_n 3, 1) := by decide +kernel
theorem dX9_enough_6 : decode cX9_enough 6 = .ok (.iconst 1, 1) := by decide +kernel
theorem dX9_enough_7 : decode cX9_enough 7 = .ok (.aload_n 0, 1) := by decide +kernel
theorem dX9_enough_8 : decode cX9_enough 8 = .ok (.getfield 9, 3) := by decide +kernel
theorem dX9_enough_11 : decode cX9_enough 11 = .ok (.bipush 54, 2) := by decide +kernel
theorem dX9_enough_13 : decode cX9_enough 13 = .ok (.iaload, 1) := by decide +kernel
theorem dX9_enough_14 : decode cX9_enough 14 = .ok (.ishl, 1) := by decide +kernel
theorem dX9_enough_15 : decode cX9_enough 15 = .ok (.if_icmp .ge 91, 3) := by decide +kernel
theorem dX9_enough_18 : decode cX9_enough 18 = .ok (.iconst 0, 1) := by decide +kernel
theorem dX9_enough_19 : decode cX9_enough 19 = .ok (.istore 4, 2) := by decide +kernel
theorem dX9_enough_21 : decode cX9_enough 21 = .ok (.iconst 0, 1) := by decide +kernel
theorem dX9_enough_22 : decode cX9_enough 22 = .ok (.istore 5, 2) := by decide +kernel
theorem dX9_enough_24 : decode cX9_enough 24 = .ok (.iload 5, 2) := by decide +kernel
theorem dX9_enough_26 : decode cX9_enough 26 = .ok (.aload_n 0, 1) := by decide +kernel
theorem dX9_enough_27 : decode cX9_enough 27 = .ok (.getfield 9, 3) := by decide +kernel
theorem dX9_enough_30 : decode cX9_enough 30 = .ok (.bipush 54, 2) := by decide +kernel
theorem dX9_enough_32 : decode cX9_enough 32 = .ok (.iaload, 1) := by decide +kernel
theorem dX9_enough_33 : decode cX9_enough 33 = .ok (.if_icmp .ge 35, 3) := by decide +kernel
theorem dX9_enough_36 : decode cX9_enough 36 = .ok (.iload 4, 2) := by decide +kernel
theorem dX9_enough_38 : decode cX9_enough 38 = .ok (.iload_n 3, 1) := by decide +kernel
theorem dX9_enough_39 : decode cX9_enough 39 = .ok (.iload 5, 2) := by decide +kernel
theorem dX9_enough_41 : decode cX9_enough 41 = .ok (.ishr, 1) := by decide +kernel
theorem dX9_enough_42 : decode cX9_enough 42 = .ok (.iconst 1, 1) := by decide +kernel
theorem dX9_enough_43 : decode cX9_enough 43 = .ok (.iand, 1) := by decide +kernel
theorem dX9_enough_44 : decode cX9_enough 44 = .ok (.iconst 1, 1) := by decide +kernel
theorem dX9_enough_45 : decode cX9_enough 45 = .ok (.if_icmp .ne 13, 3) := by decide +kernel
theorem dX9_enough_48 : decode cX9_enough 48 = .ok (.aload_n 0, 1) := by decide +kernel
theorem dX9_enough_49 : decode cX9_enough 49 = .ok (.getfield 56, 3) := by decide +kernel
theorem dX9_enough_52 : decode cX9_enough 52 = .ok (.iload 5, 2) := by decide +kernel
theorem dX9_enough_54 : decode cX9_enough 54 = .ok (.iaload, 1) := by decide +kernel
theorem dX9_enough_55 : decode cX9_enough 55 = .ok (.goto 4, 3) := by decide +kernel
theorem dX9_enough_58 : decode cX9_enough 58 = .ok (.iconst 0, 1) := by decide +kernel
theorem dX9_enough_59 : decode cX9_enough 59 = .ok (.ior, 1) := by decide +kernel
theorem dX9_enough_60 : decode cX9_enough 60 = .ok (.istore 4, 2) := by decide +kernel
theorem dX9_enough_62 : decode cX9_enough 62 = .ok (.iinc 5 1, 3) := by decide +kernel
theorem dX9_enough_65 : decode cX9_enough 65 = .ok (.goto (-41), 3) := by decide +kernel
theorem dX9_enough_68 : decode cX9_enough 68 = .ok (.iload_n 1, 1) := by decide +kernel
theorem dX9_enough_69 : decode cX9_enough 69 = .ok (.iload 4, 2) := by decide +kernel
theorem dX9_enough_71 : decode cX9_enough 71 = .ok (.iconst (-1), 1) := by decide +kernel
theorem dX9_enough_72 : decode cX9_enough 72 = .ok (.ixor, 1) := by decide +kernel
theorem dX9_enough_73 : decode cX9_enough 73 = .ok (.iand, 1) := by decide +kernel
theorem dX9_enough_74 : decode cX9_enough 74 = .ok (.ifCond .ne 24, 3) := by decide +kernel
theorem dX9_enough_77 : decode cX9_enough 77 = .ok (.iload_n 2, 1) := by decide +kernel
theorem dX9_enough_78 : decode cX9_enough 78 = .ok (.bipush (-5), 2) := by decide +kernel
theorem dX9_enough_80 : decode cX9_enough 80 = .ok (.if_icmp .eq 14, 3) := by decide +kernel
theorem dX9_enough_83 : decode cX9_enough 83 = .ok (.iload_n 3, 1) := by decide +kernel
theorem dX9_enough_84 : decode cX9_enough 84 = .ok (.invokestatic 228, 3) := by decide +kernel
theorem dX9_enough_87 : decode cX9_enough 87 = .ok (.iload_n 2, 1) := by decide +kernel
theorem dX9_enough_88 : decode cX9_enough 88 = .ok (.invokestatic 228, 3) := by decide +kernel
theorem dX9_enough_91 : decode cX9_enough 91 = .ok (.if_icmp .ge 7, 3) := by decide +kernel
theorem dX9_enough_94 : decode cX9_enough 94 = .ok (.iload_n 3, 1) := by decide +kernel
theorem dX9_enough_95 : decode cX9_enough 95 = .ok (.goto 4, 3) := by decide +kernel
theorem dX9_enough_98 : decode cX9_enough 98 = .ok (.iload_n 2, 1) := by decide +kernel
theorem dX9_enough_99 : decode cX9_enough 99 = .ok (.istore_n 2, 1) := by decide +kernel
theorem dX9_enough_100 : decode cX9_enough 100 = .ok (.iinc 3 1, 3) := by decide +kernel
theorem dX9_enough_103 : decode cX9_enough 103 = .ok (.goto (-98), 3) := by decide +kernel
theorem dX9_enough_106 : decode cX9_enough 106 = .ok (.iload_n 2, 1) := by decide +kernel
theorem dX9_enough_107 : decode cX9_enough 107 = .ok (.ireturn, 1) := by decide +kernel
theorem dX9_own_0 : decode cX9_own 0 = .ok (.iload_n 1, 1) := by decide +kernel
theorem dX9_own_1 : decode cX9_own 1 = .ok (.aload_n 0, 1) := by decide +kernel
theorem dX9_own_2 : decode cX9_own 2 = .ok (.getfield 9, 3) := by decide +kernel
theorem dX9_own_5 : decode cX9_own 5 = .ok (.bipush 54, 2) := by decide +kernel
theorem dX9_own_7 : decode cX9_own 7 = .ok (.iaload, 1) := by decide +kernel
theorem dX9_own_8 : decode cX9_own 8 = .ok (.if_icmp .ne 5, 3) := by decide +kernel
theorem dX9_own_11 : decode cX9_own 11 = .ok (.iconst 0, 1) := by decide +kernel
theorem dX9_own_12 : decode cX9_own 12 = .ok (.ireturn, 1) := by decide +kernel
theorem dX9_own_13 : decode cX9_own 13 = .ok (.aload_n 0, 1) := by decide +kernel
theorem dX9_own_14 : decode cX9_own 14 = .ok (.iload_n 1, 1) := by decide +kernel
theorem dX9_own_15 : decode cX9_own 15 = .ok (.iconst 1, 1) := by decide +kernel
theorem dX9_own_16 : decode cX9_own 16 = .ok (.iadd, 1) := by decide +kernel
theorem dX9_own_17 : decode cX9_own 17 = .ok (.iload_n 2, 1) := by decide +kernel
theorem dX9_own_18 : decode cX9_own 18 = .ok (.invokevirtual 231, 3) := by decide +kernel
theorem dX9_own_21 : decode cX9_own 21 = .ok (.istore_n 3, 1) := by decide +kernel
theorem dX9_own_22 : decode cX9_own 22 = .ok (.iconst 0, 1) := by decide +kernel
theorem dX9_own_23 : decode cX9_own 23 = .ok (.istore 4, 2) := by decide +kernel
theorem dX9_own_25 : decode cX9_own 25 = .ok (.iload 4, 2) := by decide +kernel
theorem dX9_own_27 : decode cX9_own 27 = .ok (.bipush 8, 2) := by decide +kernel
theorem dX9_own_29 : decode cX9_own 29 = .ok (.if_icmp .ge 47, 3) := by decide +kernel
theorem dX9_own_32 : decode cX9_own 32 = .ok (.iload_n 2, 1) := by decide +kernel
theorem dX9_own_33 : decode cX9_own 33 = .ok (.aload_n 0, 1) := by decide +kernel
theorem dX9_own_34 : decode cX9_own 34 = .ok (.getfield 56, 3) := by decide +kernel
theorem dX9_own_37 : decode cX9_own 37 = .ok (.iload_n 1, 1) := by decide +kernel
theorem dX9_own_38 : decode cX9_own 38 = .ok (.iaload, 1) := by decide +kernel
theorem dX9_own_39 : decode cX9_own 39 = .ok (.iand, 1) := by decide +kernel
theorem dX9_own_40 : decode cX9_own 40 = .ok (.iconst 1, 1) := by decide +kernel
theorem dX9_own_41 : decode cX9_own 41 = .ok (.iload 4, 2) := by decide +kernel
theorem dX9_own_43 : decode cX9_own 43 = .ok (.ishl, 1) := by decide +kernel
theorem dX9_own_44 : decode cX9_own 44 = .ok (.iand, 1) := by decide +kernel
theorem dX9_own_45 : decode cX9_own 45 = .ok (.ifCond .eq 25, 3) := by decide +kernel
theorem dX9_own_48 : decode cX9_own 48 = .ok (.iload_n 3, 1) := by decide +kernel
theorem dX9_own_49 : decode cX9_own 49 = .ok (.iconst 1, 1) := by decide +kernel
theorem dX9_own_50 : decode cX9_own 50 = .ok (.aload_n 0, 1) := by decide +kernel
theorem dX9_own_51 : decode cX9_own 51 = .ok (.iload_n 1, 1) := by decide +kernel
theorem dX9_own_52 : decode cX9_own 52 = .ok (.iconst 1, 1) := by decide +kernel
theorem dX9_own_53 : decode cX9_own 53 = .ok (.iadd, 1) := by decide +kernel
theorem dX9_own_54 : decode cX9_own 54 = .ok (.iload_n 2, 1) := by decide +kernel
theorem dX9_own_55 : decode cX9_own 55 = .ok (.iconst 1, 1) := by decide +kernel
theorem dX9_own_56 : decode cX9_own 56 = .ok (.iload 4, 2) := by decide +kernel
theorem dX9_own_58 : decode cX9_own 58 = .ok (.ishl, 1) := by decide +kernel
theorem dX9_own_59 : decode cX9_own 59 = .ok (.iconst (-1), 1) := by decide +kernel
theorem dX9_own_60 : decode cX9_own 60 = .ok (.ixor, 1) := by decide +kernel
theorem dX9_own_61 : decode cX9_own 61 = .ok (.iand, 1) := by decide +kernel
theorem dX9_own_62 : decode cX9_own 62 = .ok (.invokevirtual 231, 3) := by decide +kernel
theorem dX9_own_65 : decode cX9_own 65 = .ok (.iadd, 1) := by decide +kernel
theorem dX9_own_66 : decode cX9_own 66 = .ok (.invokestatic 125, 3) := by decide +kernel
theorem dX9_own_69 : decode cX9_own 69 = .ok (.istore_n 3, 1) := by decide +kernel
theorem dX9_own_70 : decode cX9_own 70 = .ok (.iinc 4 1, 3) := by decide +kernel
theorem dX9_own_73 : decode cX9_own 73 = .ok (.goto (-48), 3) := by decide +kernel
theorem dX9_own_76 : decode cX9_own 76 = .ok (.iload_n 3, 1) := by decide +kernel
theorem dX9_own_77 : decode cX9_own 77 = .ok (.ireturn, 1) := by decide +kernel
theorem dX9_cases_0 : decode cX9_cases 0 = .ok (.iload_n 2, 1) := by decide +kernel
theorem dX9_cases_1 : decode cX9_cases 1 = .ok (.iconst 0, 1) := by decide +kernel
theorem dX9_cases_2 : decode cX9_cases 2 = .ok (.iconst 1, 1) := by decide +kernel
theorem dX9_cases_3 : decode cX9_cases 3 = .ok (.invokestatic 89, 3) := by decide +kernel
theorem dX9_cases_6 : decode cX9_cases 6 = .ok (.ifCond .ne 5, 3) := by decide +kernel
theorem dX9_cases_9 : decode cX9_cases 9 = .ok (.iconst (-1), 1) := by decide +kernel
theorem dX9_cases_10 : decode cX9_cases 10 = .ok (.ireturn, 1) := by decide +kernel
theorem dX9_cases_11 : decode cX9_cases 11 = .ok (.iload_n 1, 1) := by decide +kernel
theorem dX9_cases_12 : decode cX9_cases 12 = .ok (.iconst 0, 1) := by decide +kernel
theorem dX9_cases_13 : decode cX9_cases 13 = .ok (.sipush 255, 3) := by decide +kernel
theorem dX9_cases_16 : decode cX9_cases 16 = .ok (.invokestatic 89, 3) := by decide +kernel
theorem dX9_cases_19 : decode cX9_cases 19 = .ok (.ifCond .ne 6, 3) := by decide +kernel
theorem dX9_cases_22 : decode cX9_cases 22 = .ok (.bipush (-2), 2) := by decide +kernel
theorem dX9_cases_24 : decode cX9_cases 24 = .ok (.ireturn, 1) := by decide +kernel
theorem dX9_cases_25 : decode cX9_cases 25 = .ok (.aload_n 0, 1) := by decide +kernel
theorem dX9_cases_26 : decode cX9_cases 26 = .ok (.invokevirtual 234, 3) := by decide +kernel
theorem dX9_cases_29 : decode cX9_cases 29 = .ok (.iload_n 2, 1) := by decide +kernel
theorem dX9_cases_30 : decode cX9_cases 30 = .ok (.ifCond .ne 11, 3) := by decide +kernel
theorem dX9_cases_33 : decode cX9_cases 33 = .ok (.aload_n 0, 1) := by decide +kernel
theorem dX9_cases_34 : decode cX9_cases 34 = .ok (.iload_n 1, 1) := by decide +kernel
theorem dX9_cases_35 : decode cX9_cases 35 = .ok (.invokevirtual 237, 3) := by decide +kernel
theorem dX9_cases_38 : decode cX9_cases 38 = .ok (.goto 9, 3) := by decide +kernel
theorem dX9_cases_41 : decode cX9_cases 41 = .ok (.aload_n 0, 1) := by decide +kernel
theorem dX9_cases_42 : decode cX9_cases 42 = .ok (.iconst 0, 1) := by decide +kernel
theorem dX9_cases_43 : decode cX9_cases 43 = .ok (.iload_n 1, 1) := by decide +kernel
theorem dX9_cases_44 : decode cX9_cases 44 = .ok (.invokevirtual 231, 3) := by decide +kernel
theorem dX9_cases_47 : decode cX9_cases 47 = .ok (.ireturn, 1) := by decide +kernel
theorem dX9_hear_0 : decode cX9_hear 0 = .ok (.iload_n 1, 1) := by decide +kernel
theorem dX9_hear_1 : decode cX9_hear 1 = .ok (.iconst (-1), 1) := by decide +kernel
theorem dX9_hear_2 : decode cX9_hear 2 = .ok (.if_icmp .ne 13, 3) := by decide +kernel
theorem dX9_hear_5 : decode cX9_hear 5 = .ok (.aload_n 0, 1) := by decide +kernel
theorem dX9_hear_6 : decode cX9_hear 6 = .ok (.getfield 9, 3) := by decide +kernel
theorem dX9_hear_9 : decode cX9_hear 9 = .ok (.bipush 58, 2) := by decide +kernel
theorem dX9_hear_11 : decode cX9_hear 11 = .ok (.iconst 0, 1) := by decide +kernel
