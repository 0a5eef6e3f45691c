theorem dX7_single_35 : decode cX7_single 35 = .ok (.iload 4, 2) := by decide +kernel
theorem dX7_single_37 : decode cX7_single 37 = .ok (.imul, 1) := by decide +kernel
theorem dX7_single_38 : decode cX7_single 38 = .ok (.iload 5, 2) := by decide +kernel
theorem dX7_single_40 : decode cX7_single 40 = .ok (.iadd, 1) := by decide +kernel
theorem dX7_single_41 : decode cX7_single 41 = .ok (.aload_n 0, 1) := by decide +kernel
theorem dX7_single_42 : decode cX7_single 42 = .ok (.invokevirtual 61, 3) := by decide +kernel
theorem dX7_single_45 : decode cX7_single 45 = .ok (.invokevirtual 70, 3) := by decide +kernel
theorem dX7_single_48 : decode cX7_single 48 = .ok (.return_, 1) := by decide +kernel
theorem dX7_single_49 : decode cX7_single 49 = .ok (.iload_n 2, 1) := by decide +kernel
theorem dX7_single_50 : decode cX7_single 50 = .ok (.iconst 4, 1) := by decide +kernel
theorem dX7_single_51 : decode cX7_single 51 = .ok (.if_icmp .lt 9, 3) := by decide +kernel
theorem dX7_single_54 : decode cX7_single 54 = .ok (.aload_n 0, 1) := by decide +kernel
theorem dX7_single_55 : decode cX7_single 55 = .ok (.iconst 1, 1) := by decide +kernel
theorem dX7_single_56 : decode cX7_single 56 = .ok (.putfield 22, 3) := by decide +kernel
theorem dX7_single_59 : decode cX7_single 59 = .ok (.return_, 1) := by decide +kernel
theorem dX7_single_60 : decode cX7_single 60 = .ok (.aload_n 0, 1) := by decide +kernel
theorem dX7_single_61 : decode cX7_single 61 = .ok (.dup, 1) := by decide +kernel
theorem dX7_single_62 : decode cX7_single 62 = .ok (.getfield 19, 3) := by decide +kernel
theorem dX7_single_65 : decode cX7_single 65 = .ok (.iconst 1, 1) := by decide +kernel
theorem dX7_single_66 : decode cX7_single 66 = .ok (.iadd, 1) := by decide +kernel
theorem dX7_single_67 : decode cX7_single 67 = .ok (.putfield 19, 3) := by decide +kernel
theorem dX7_single_70 : decode cX7_single 70 = .ok (.iload_n 3, 1) := by decide +kernel
theorem dX7_single_71 : decode cX7_single 71 = .ok (.bipush 33, 2) := by decide +kernel
theorem dX7_single_73 : decode cX7_single 73 = .ok (.if_icmp .ne 21, 3) := by decide +kernel
theorem dX7_single_76 : decode cX7_single 76 = .ok (.aload_n 0, 1) := by decide +kernel
theorem dX7_single_77 : decode cX7_single 77 = .ok (.aload_n 1, 1) := by decide +kernel
theorem dX7_single_78 : decode cX7_single 78 = .ok (.iload_n 2, 1) := by decide +kernel
theorem dX7_single_79 : decode cX7_single 79 = .ok (.iconst 1, 1) := by decide +kernel
theorem dX7_single_80 : decode cX7_single 80 = .ok (.iadd, 1) := by decide +kernel
theorem dX7_single_81 : decode cX7_single 81 = .ok (.invokevirtual 77, 3) := by decide +kernel
theorem dX7_single_84 : decode cX7_single 84 = .ok (.aload_n 1, 1) := by decide +kernel
theorem dX7_single_85 : decode cX7_single 85 = .ok (.bipush 18, 2) := by decide +kernel
theorem dX7_single_87 : decode cX7_single 87 = .ok (.iconst 0, 1) := by decide +kernel
theorem dX7_single_88 : decode cX7_single 88 = .ok (.invokevirtual 70, 3) := by decide +kernel
theorem dX7_single_91 : decode cX7_single 91 = .ok (.goto 17, 3) := by decide +kernel
theorem dX7_single_94 : decode cX7_single 94 = .ok (.aload_n 0, 1) := by decide +kernel
theorem dX7_single_95 : decode cX7_single 95 = .ok (.aload_n 1, 1) := by decide +kernel
theorem dX7_single_96 : decode cX7_single 96 = .ok (.iload_n 2, 1) := by decide +kernel
theorem dX7_single_97 : decode cX7_single 97 = .ok (.iconst 1, 1) := by decide +kernel
theorem dX7_single_98 : decode cX7_single 98 = .ok (.iadd, 1) := by decide +kernel
theorem dX7_single_99 : decode cX7_single 99 = .ok (.invokevirtual 66, 3) := by decide +kernel
theorem dX7_single_102 : decode cX7_single 102 = .ok (.aload_n 0, 1) := by decide +kernel
theorem dX7_single_103 : decode cX7_single 103 = .ok (.bipush 41, 2) := by decide +kernel
theorem dX7_single_105 : decode cX7_single 105 = .ok (.invokevirtual 57, 3) := by decide +kernel
theorem dX7_single_108 : decode cX7_single 108 = .ok (.return_, 1) := by decide +kernel
theorem dX8_init_0 : decode cX8_init 0 = .ok (.aload_n 0, 1) := by decide +kernel
theorem dX8_init_1 : decode cX8_init 1 = .ok (.invokespecial 3, 3) := by decide +kernel
theorem dX8_init_4 : decode cX8_init 4 = .ok (.aload_n 0, 1) := by decide +kernel
theorem dX8_init_5 : decode cX8_init 5 = .ok (.new 9, 3) := by decide +kernel
theorem dX8_init_8 : decode cX8_init 8 = .ok (.dup, 1) := by decide +kernel
theorem dX8_init_9 : decode cX8_init 9 = .ok (.invokespecial 11, 3) := by decide +kernel
theorem dX8_init_12 : decode cX8_init 12 = .ok (.putfield 12, 3) := by decide +kernel
theorem dX8_init_15 : decode cX8_init 15 = .ok (.aload_n 0, 1) := by decide +kernel
theorem dX8_init_16 : decode cX8_init 16 = .ok (.new 9, 3) := by decide +kernel
theorem dX8_init_19 : decode cX8_init 19 = .ok (.dup, 1) := by decide +kernel
theorem dX8_init_20 : decode cX8_init 20 = .ok (.invokespecial 11, 3) := by decide +kernel
theorem dX8_init_23 : decode cX8_init 23 = .ok (.putfield 18, 3) := by decide +kernel
theorem dX8_init_26 : decode cX8_init 26 = .ok (.aload_n 0, 1) := by decide +kernel
theorem dX8_init_27 : decode cX8_init 27 = .ok (.new 9, 3) := by decide +kernel
theorem dX8_init_30 : decode cX8_init 30 = .ok (.dup, 1) := by decide +kernel
theorem dX8_init_31 : decode cX8_init 31 = .ok (.invokespecial 11, 3) := by decide +kernel
theorem dX8_init_34 : decode cX8_init 34 = .ok (.putfield 21, 3) := by decide +kernel
theorem dX8_init_37 : decode cX8_init 37 = .ok (.aload_n 0, 1) := by decide +kernel
theorem dX8_init_38 : decode cX8_init 38 = .ok (.new 24, 3) := by decide +kernel
theorem dX8_init_41 : decode cX8_init 41 = .ok (.dup, 1) := by decide +kernel
theorem dX8_init_42 : decode cX8_init 42 = .ok (.invokespecial 26, 3) := by decide +kernel
theorem dX8_init_45 : decode cX8_init 45 = .ok (.putfield 27, 3) := by decide +kernel
theorem dX8_init_48 : decode cX8_init 48 = .ok (.aload_n 0, 1) := by decide +kernel
theorem dX8_init_49 : decode cX8_init 49 = .ok (.iconst 0, 1) := by decide +kernel
theorem dX8_init_50 : decode cX8_init 50 = .ok (.putfield 31, 3) := by decide +kernel
theorem dX8_init_53 : decode cX8_init 53 = .ok (.aload_n 0, 1) := by decide +kernel
theorem dX8_init_54 : decode cX8_init 54 = .ok (.new 35, 3) := by decide +kernel
theorem dX8_init_57 : decode cX8_init 57 = .ok (.dup, 1) := by decide +kernel
theorem dX8_init_58 : decode cX8_init 58 = .ok (.invokespecial 37, 3) := by decide +kernel
theorem dX8_init_61 : decode cX8_init 61 = .ok (.putfield 38, 3) := by decide +kernel
theorem dX8_init_64 : decode cX8_init 64 = .ok (.aload_n 0, 1) := by decide +kernel
theorem dX8_init_65 : decode cX8_init 65 = .ok (.bipush 6, 2) := by decide +kernel
theorem dX8_init_67 : decode cX8_init 67 = .ok (.anewarray 42, 3) := by decide +kernel
theorem dX8_init_70 : decode cX8_init 70 = .ok (.putfield 44, 3) := by decide +kernel
theorem dX8_init_73 : decode cX8_init 73 = .ok (.aload_n 0, 1) := by decide +kernel
theorem dX8_init_74 : decode cX8_init 74 = .ok (.new 42, 3) := by decide +kernel
theorem dX8_init_77 : decode cX8_init 77 = .ok (.dup, 1) := by decide +kernel
theorem dX8_init_78 : decode cX8_init 78 = .ok (.invokespecial 48, 3) := by decide +kernel
theorem dX8_init_81 : decode cX8_init 81 = .ok (.putfield 49, 3) := by decide +kernel
theorem dX8_init_84 : decode cX8_init 84 = .ok (.aload_n 0, 1) := by decide +kernel
theorem dX8_init_85 : decode cX8_init 85 = .ok (.iconst 0, 1) := by decide +kernel
theorem dX8_init_86 : decode cX8_init 86 = .ok (.putfield 53, 3) := by decide +kernel
theorem dX8_init_89 : decode cX8_init 89 = .ok (.aload_n 0, 1) := by decide +kernel
theorem dX8_init_90 : decode cX8_init 90 = .ok (.new 57, 3) := by decide +kernel
theorem dX8_init_93 : decode cX8_init 93 = .ok (.dup, 1) := by decide +kernel
theorem dX8_init_94 : decode cX8_init 94 = .ok (.invokespecial 59, 3) := by decide +kernel
theorem dX8_init_97 : decode cX8_init 97 = .ok (.putfield 60, 3) := by decide +kernel
theorem dX8_init_100 : decode cX8_init 100 = .ok (.aload_n 0, 1) := by decide +kernel
theorem dX8_init_101 : decode cX8_init 101 = .ok (.bipush 6, 2) := by decide +kernel
theorem dX8_init_103 : decode cX8_init 103 = .ok (.newarray .int, 2) := by decide +kernel
theorem dX8_init_105 : decode cX8_init 105 = .ok (.putfield 64, 3) := by decide +kernel
theorem dX8_init_108 : decode cX8_init 108 = .ok (.aload_n 0, 1) := by decide +kernel
theorem dX8_init_109 : decode cX8_init 109 = .ok (.new 68, 3) := by decide +kernel
theorem dX8_init_112 : decode cX8_init 112 = .ok (.dup, 1) := by decide +kernel
theorem dX8_init_113 : decode cX8_init 113 = .ok (.invokespecial 70, 3) := by decide +kernel
theorem dX8_init_116 : decode cX8_init 116 = .ok (.putfield 71, 3) := by decide +kernel
theorem dX8_init_119 : decode cX8_init 119 = .ok (.aload_n 0, 1) := by decide +kernel
theorem dX8_init_120 : decode cX8_init 120 = .ok (.bipush 6, 2) := by decide +kernel
theorem dX8_init_122 : decode cX8_init 122 = .ok (.anewarray 75, 3) := by decide +kernel
theorem dX8_init_125 : decode cX8_init 125 = .ok (.putfield 77, 3) := by decide +kernel
theorem dX8_init_128 : decode cX8_init 128 = .ok (.iconst 0, 1) := by decide +kernel
theorem dX8_init_129 : decode cX8_init 129 = .ok (.istore_n 1, 1) := by decide +kernel
theorem dX8_init_130 : decode cX8_init 130 = .ok (.iload_n 1, 1) := by decide +kernel
theorem dX8_init_131 : decode cX8_init 131 = .ok (.bipush 6, 2) := by decide +kernel
theorem dX8_init_133 : decode cX8_init 133 = .ok (.if_icmp .ge 22, 3) := by decide +kernel
theorem dX8_init_136 : decode cX8_init 136 = .ok (.aload_n 0, 1) := by decide +kernel
theorem dX8_init_137 : decode cX8_init 137 = .ok (.getfield 44, 3) := by decide +kernel
theorem dX8_init_140 : decode cX8_init 140 = .ok (.iload_n 1, 1) := by decide +kernel
theorem dX8_init_141 : decode cX8_init 141 = .ok (.new 42, 3) := by decide +kernel
theorem dX8_init_144 : decode cX8_init 144 = .ok (.dup, 1) := by decide +kernel
theorem dX8_init_145 : decode cX8_init 145 = .ok (.invokespecial 48, 3) := by decide +kernel
theorem dX8_init_148 : decode cX8_init 148 = .ok (.aastore, 1) := by decide +kernel
theorem dX8_init_149 : decode cX8_init 149 = .ok (.iinc 1 1, 3) := by decide +kernel
theorem dX8_init_152 : decode cX8_init 152 = .ok (.goto (-22), 3) := by decide +kernel
theorem dX8_init_155 : decode cX8_init 155 = .ok (.iconst 0, 1) := by decide +kernel
theorem dX8_init_156 : decode cX8_init 156 = .ok (.istore_n 1, 1) := by decide +kernel
theorem dX8_init_157 : decode cX8_init 157 = .ok (.iload_n 1, 1) := by decide +kernel
theorem dX8_init_158 : decode cX8_init 158 = .ok (.bipush 6, 2) := by decide +kernel
theorem dX8_init_160 : decode cX8_init 160 = .ok (.if_icmp .ge 22, 3) := by decide +kernel
theorem dX8_init_163 : decode cX8_init 163 = .ok (.aload_n 0, 1) := by decide +kernel
theorem dX8_init_164 : decode cX8_init 164 = .ok (.getfield 77, 3) := by decide +kernel
theorem dX8_init_167 : decode cX8_init 167 = .ok (.iload_n 1, 1) := by decide +kernel
theorem dX8_init_168 : decode cX8_init 168 = .ok (.new 75, 3) := by decide +kernel
theorem dX8_init_171 : decode cX8_init 171 = .ok (.dup, 1) := by decide +kernel
theorem dX8_init_172 : decode cX8_init 172 = .ok (.invokespecial 81, 3) := by decide +kernel
theorem dX8_init_175 : decode cX8_init 175 = .ok (.aastore, 1) := by decide +kernel
theorem dX8_init_176 : decode cX8_init 176 = .ok (.iinc 1 1, 3) := by decide +kernel
theorem dX8_init_179 : decode cX8_init 179 = .ok (.goto (-22), 3) := by decide +kernel
theorem dX8_init_182 : decode cX8_init 182 = .ok (.return_, 1) := by decide +kernel
theorem dX8_pot_0 : decode cX8_pot 0 = .ok (.iload_n 1, 1) := by decide +kernel
theorem dX8_pot_1 : decode cX8_pot 1 = .ok (.ifCond .lt 9, 3) := by decide +kernel
theorem dX8_pot_4 : decode cX8_pot 4 = .ok (.iload_n 1, 1) := by decide +kernel
theorem dX8_pot_5 : decode cX8_pot 5 = .ok (.bipush 7, 2) := by decide +kernel
theorem dX8_pot_7 : decode cX8_pot 7 = .ok (.if_icmp .lt 5, 3) := by decide +kernel
theorem dX8_pot_10 : decode cX8_pot 10 = .ok (.iconst (-1), 1) := by decide +kernel
theorem dX8_pot_11 : decode cX8_pot 11 = .ok (.ireturn, 1) := by decide +kernel
theorem dX8_pot_12 : decode cX8_pot 12 = .ok (.iload_n 2, 1) := by decide +kernel
theorem dX8_pot_13 : decode cX8_pot 13 = .ok (.invokestatic 82, 3) := by decide +kernel
theorem dX8_pot_16 : decode cX8_pot 16 = .ok (.ifCond .eq 10, 3) := by decide +kernel
theorem dX8_pot_19 : decode cX8_pot 19 = .ok (.iload_n 3, 1) := by decide +kernel
theorem dX8_pot_20 : decode cX8_pot 20 = .ok (.invokestatic 82, 3) := by decide +kernel
theorem dX8_pot_23 : decode cX8_pot 23 = .ok (.ifCond .ne 6, 3) := by decide +kernel
theorem dX8_pot_26 : decode cX8_pot 26 = .ok (.bipush (-2), 2) := by decide +kernel
theorem dX8_pot_28 : decode cX8_pot 28 = .ok (.ireturn, 1) := by decide +kernel
theorem dX8_pot_29 : decode cX8_pot 29 = .ok (.aload_n 0, 1) := by decide +kernel
theorem dX8_pot_30 : decode cX8_pot 30 = .ok (.getfield 12, 3) := by decide +kernel
theorem dX8_pot_33 : decode cX8_pot 33 = .ok (.iload_n 1, 1) := by decide +kernel
theorem dX8_pot_34 : decode cX8_pot 34 = .ok (.iload_n 2, 1) := by decide +kernel
theorem dX8_pot_35 : decode cX8_pot 35 = .ok (.iload_n 3, 1) := by decide +kernel
theorem dX8_pot_36 : decode cX8_pot 36 = .ok (.invokevirtual 86, 3) := by decide +kernel
theorem dX8_pot_39 : decode cX8_pot 39 = .ok (.ireturn, 1) := by decide +kernel
theorem dX8_of_0 : decode cX8_of 0 = .ok (.aload_n 0, 1) := by decide +kernel
theorem dX8_of_1 : decode cX8_of 1 = .ok (.getfield 12, 3) := by decide +kernel
theorem dX8_of_4 : decode cX8_of 4 = .ok (.iload_n 1, 1) := by decide +kernel
theorem dX8_of_5 : decode cX8_of 5 = .ok (.invokevirtual 90, 3) := by decide +kernel
theorem dX8_of_8 : decode cX8_of 8 = .ok (.astore_n 3, 1) := by decide +kernel
theorem dX8_of_9 : decode cX8_of 9 = .ok (.aload_n 3, 1) := by decide +kernel
theorem dX8_of_10 : decode cX8_of 10 = .ok (.ifnonnull 7, 3) := by decide +kernel
theorem dX8_of_13 : decode cX8_of 13 = .ok (.sipush (-10001), 3) := by decide +kernel
theorem dX8_of_16 : decode cX8_of 16 = .ok (.ireturn, 1) := by decide +kernel
theorem dX8_of_17 : decode cX8_of 17 = .ok (.iload_n 2, 1) := by decide +kernel
theorem dX8_of_18 : decode cX8_of 18 = .ok (.iconst 5, 1) := by decide +kernel
theorem dX8_of_19 : decode cX8_of 19 = .ok (.if_icmp .ne 9, 3) := by decide +kernel
theorem dX8_of_22 : decode cX8_of 22 = .ok (.aload_n 0, 1) := by decide +kernel
theorem dX8_of_23 : decode cX8_of 23 = .ok (.aload_n 3, 1) := by decide +kernel
theorem dX8_of_24 : decode cX8_of 24 = .ok (.invokevirtual 94, 3) := by decide +kernel
theorem dX8_of_27 : decode cX8_of 27 = .ok (.ireturn, 1) := by decide +kernel
theorem dX8_of_28 : decode cX8_of 28 = .ok (.iload_n 2, 1) := by decide +kernel
theorem dX8_of_29 : decode cX8_of 29 = .ok (.iconst 5, 1) := by decide +kernel
theorem dX8_of_30 : decode cX8_of 30 = .ok (.if_icmp .ge 9, 3) := by decide +kernel
theorem dX8_of_33 : decode cX8_of 33 = .ok (.aload_n 3, 1) := by decide +kernel
theorem dX8_of_34 : decode cX8_of 34 = .ok (.iload_n 2, 1) := by decide +kernel
theorem dX8_of_35 : decode cX8_of 35 = .ok (.invokestatic 98, 3) := by decide +kernel
theorem dX8_of_38 : decode cX8_of 38 = .ok (.ireturn, 1) := by decide +kernel
theorem dX8_of_39 : decode cX8_of 39 = .ok (.iload_n 2, 1) := by decide +kernel
theorem dX8_of_40 : decode cX8_of 40 = .ok (.bipush 10, 2) := by decide +kernel
theorem dX8_of_42 : decode cX8_of 42 = .ok (.irem, 1) := by decide +kernel
theorem dX8_of_43 : decode cX8_of 43 = .ok (.istore 4, 2) := by decide +kernel
theorem dX8_of_45 : decode cX8_of 45 = .ok (.iload 4, 2) := by decide +kernel
theorem dX8_of_47 : decode cX8_of 47 = .ok (.invokestatic 102, 3) := by decide +kernel
theorem dX8_of_50 : decode cX8_of 50 = .ok (.ifCond .ne 7, 3) := by decide +kernel
theorem dX8_of_53 : decode cX8_of 53 = .ok (.sipush (-10001), 3) := by decide +kernel
theorem dX8_of_56 : decode cX8_of 56 = .ok (.ireturn, 1) := by decide +kernel
theorem dX8_of_57 : decode cX8_of 57 = .ok (.iload_n 2, 1) := by decide +kernel
theorem dX8_of_58 : decode cX8_of 58 = .ok (.bipush 10, 2) := by decide +kernel
theorem dX8_of_60 : decode cX8_of 60 = .ok (.idiv, 1) := by decide +kernel
theorem dX8_of_61 : decode cX8_of 61 = .ok (.tableswitch 51 1 3 #[27, 35, 43], 27) := by decide +kernel
theorem dX8_of_88 : decode cX8_of 88 = .ok (.aload_n 0, 1) := by decide +kernel
theorem dX8_of_89 : decode cX8_of 89 = .ok (.aload_n 3, 1) := by decide +kernel
theorem dX8_of_90 : decode cX8_of 90 = .ok (.iload 4, 2) := by decide +kernel
theorem dX8_of_92 : decode cX8_of 92 = .ok (.invokevirtual 105, 3) := by decide +kernel
theorem dX8_of_95 : decode cX8_of 95 = .ok (.ireturn, 1) := by decide +kernel
theorem dX8_of_96 : decode cX8_of 96 = .ok (.aload_n 0, 1) := by decide +kernel
theorem dX8_of_97 : decode cX8_of 97 = .ok (.aload_n 3, 1) := by decide +kernel
theorem dX8_of_98 : decode cX8_of 98 = .ok (.iload 4, 2) := by decide +kernel
theorem dX8_of_100 : decode cX8_of 100 = .ok (.invokevirtual 108, 3) := by decide +kernel
theorem dX8_of_103 : decode cX8_of 103 = .ok (.ireturn, 1) := by decide +kernel
theorem dX8_of_104 : decode cX8_of 104 = .ok (.aload_n 0, 1) := by decide +kernel
theorem dX8_of_105 : decode cX8_of 105 = .ok (.aload_n 3, 1) := by decide +kernel
theorem dX8_of_106 : decode cX8_of 106 = .ok (.iload 4, 2) := by decide +kernel
theorem dX8_of_108 : decode cX8_of 108 = .ok (.invokevirtual 111, 3) := by decide +kernel
theorem dX8_of_111 : decode cX8_of 111 = .ok (.ireturn, 1) := by decide +kernel
theorem dX8_of_112 : decode cX8_of 112 = .ok (.sipush (-10001), 3) := by decide +kernel
theorem dX8_of_115 : decode cX8_of 115 = .ok (.ireturn, 1) := by decide +kernel
theorem dX8_world_0 : decode cX8_world 0 = .ok (.iload_n 1, 1) := by decide +kernel
theorem dX8_world_1 : decode cX8_world 1 = .ok (.ifCond .lt 10, 3) := by decide +kernel
theorem dX8_world_4 : decode cX8_world 4 = .ok (.iload_n 1, 1) := by decide +kernel
theorem dX8_world_5 : decode cX8_world 5 = .ok (.sipush 255, 3) := by decide +kernel
theorem dX8_world_8 : decode cX8_world 8 = .ok (.if_icmp .le 6, 3) := by decide +kernel
theorem dX8_world_11 : decode cX8_world 11 = .ok (.bipush (-2), 2) := by decide +kernel
theorem dX8_world_13 : decode cX8_world 13 = .ok (.ireturn, 1) := by decide +kernel
theorem dX8_world_14 : decode cX8_world 14 = .ok (.aload_n 0, 1) := by decide +kernel
theorem dX8_world_15 : decode cX8_world 15 = .ok (.getfield 12, 3) := by decide +kernel
theorem dX8_world_18 : decode cX8_world 18 = .ok (.getfield 114, 3) := by decide +kernel
theorem dX8_world_21 : decode cX8_world 21 = .ok (.istore_n 2, 1) := by decide +kernel
theorem dX8_world_22 : decode cX8_world 22 = .ok (.aload_n 0, 1) := by decide +kernel
theorem dX8_world_23 : decode cX8_world 23 = .ok (.getfield 12, 3) := by decide +kernel
theorem dX8_world_26 : decode cX8_world 26 = .ok (.iload_n 1, 1) := by decide +kernel
theorem dX8_world_27 : decode cX8_world 27 = .ok (.putfield 114, 3) := by decide +kernel
theorem dX8_world_30 : decode cX8_world 30 = .ok (.iload_n 2, 1) := by decide +kernel
theorem dX8_world_31 : decode cX8_world 31 = .ok (.ireturn, 1) := by decide +kernel
theorem dX8_sugar_0 : decode cX8_sugar 0 = .ok (.aload_n 0, 1) := by decide +kernel
theorem dX8_sugar_1 : decode cX8_sugar 1 = .ok (.getfield 12, 3) := by decide +kernel
theorem dX8_sugar_4 : decode cX8_sugar 4 = .ok (.iload_n 1, 1) := by decide +kernel
theorem dX8_sugar_5 : decode cX8_sugar 5 = .ok (.invokevirtual 90, 3) := by decide +kernel
theorem dX8_sugar_8 : decode cX8_sugar 8 = .ok (.astore_n 3, 1) := by decide +kernel
theorem dX8_sugar_9 : decode cX8_sugar 9 = .ok (.aload_n 3, 1) := by decide +kernel
theorem dX8_sugar_10 : decode cX8_sugar 10 = .ok (.ifnonnull 5, 3) := by decide +kernel
theorem dX8_sugar_13 : decode cX8_sugar 13 = .ok (.iconst (-1), 1) := by decide +kernel
theorem dX8_sugar_14 : decode cX8_sugar 14 = .ok (.ireturn, 1) := by decide +kernel
theorem dX8_sugar_15 : decode cX8_sugar 15 = .ok (.iload_n 2, 1) := by decide +kernel
theorem dX8_sugar_16 : decode cX8_sugar 16 = .ok (.invokestatic 82, 3) := by decide +kernel
theorem dX8_sugar_19 : decode cX8_sugar 19 = .ok (.ifCond .ne 6, 3) := by decide +kernel
theorem dX8_sugar_22 : decode cX8_sugar 22 = .ok (.bipush (-2), 2) := by decide +kernel
theorem dX8_sugar_24 : decode cX8_sugar 24 = .ok (.ireturn, 1) := by decide +kernel
theorem dX8_sugar_25 : decode cX8_sugar 25 = .ok (.aload_n 3, 1) := by decide +kernel
theorem dX8_sugar_26 : decode cX8_sugar 26 = .ok (.getfield 117, 3) := by decide +kernel
theorem dX8_sugar_29 : decode cX8_sugar 29 = .ok (.istore 4, 2) := by decide +kernel
theorem dX8_sugar_31 : decode cX8_sugar 31 = .ok (.aload_n 3, 1) := by decide +kernel
theorem dX8_sugar_32 : decode cX8_sugar 32 = .ok (.iload_n 2, 1) := by decide +kernel
theorem dX8_sugar_33 : decode cX8_sugar 33 = .ok (.putfield 117, 3) := by decide +kernel
theorem dX8_sugar_36 : decode cX8_sugar 36 = .ok (.iload 4, 2) := by decide +kernel
theorem dX8_sugar_38 : decode cX8_sugar 38 = .ok (.ireturn, 1) := by decide +kernel
theorem dX8_spoon_0 : decode cX8_spoon 0 = .ok (.aload_n 0, 1) := by decide +kernel
theorem dX8_spoon_1 : decode cX8_spoon 1 = .ok (.getfield 12, 3) := by decide +kernel
theorem dX8_spoon_4 : decode cX8_spoon 4 = .ok (.iload_n 1, 1) := by decide +kernel
theorem dX8_spoon_5 : decode cX8_spoon 5 = .ok (.invokevirtual 90, 3) := by decide +kernel
theorem dX8_spoon_8 : decode cX8_spoon 8 = .ok (.astore_n 3, 1) := by decide +kernel
theorem dX8_spoon_9 : decode cX8_spoon 9 = .ok (.aload_n 3, 1) := by decide +kernel
theorem dX8_spoon_10 : decode cX8_spoon 10 = .ok (.ifnull 10, 3) := by decide +kernel
theorem dX8_spoon_13 : decode cX8_spoon 13 = .ok (.iload_n 2, 1) := by decide +kernel
theorem dX8_spoon_14 : decode cX8_spoon 14 = .ok (.invokestatic 102, 3) := by decide +kernel
theorem dX8_spoon_17 : decode cX8_spoon 17 = .ok (.ifCond .ne 7, 3) := by decide +kernel
theorem dX8_spoon_20 : decode cX8_spoon 20 = .ok (.sipush (-10001), 3) := by decide +kernel
theorem dX8_spoon_23 : decode cX8_spoon 23 = .ok (.ireturn, 1) := by decide +kernel
theorem dX8_spoon_24 : decode cX8_spoon 24 = .ok (.aload_n 0, 1) := by decide +kernel
theorem dX8_spoon_25 : decode cX8_spoon 25 = .ok (.aload_n 3, 1) := by decide +kernel
theorem dX8_spoon_26 : decode cX8_spoon 26 = .ok (.iload_n 2, 1) := by decide +kernel
theorem dX8_spoon_27 : decode cX8_spoon 27 = .ok (.invokevirtual 108, 3) := by decide +kernel
theorem dX8_spoon_30 : decode cX8_spoon 30 = .ok (.istore 4, 2) := by decide +kernel
theorem dX8_spoon_32 : decode cX8_spoon 32 = .ok (.aload_n 3, 1) := by decide +kernel
theorem dX8_spoon_33 : decode cX8_spoon 33 = .ok (.invokevirtual 120, 3) := by decide +kernel
theorem dX8_spoon_36 : decode cX8_spoon 36 = .ok (.iload 4, 2) := by decide +kernel
theorem dX8_spoon_38 : decode cX8_spoon 38 = .ok (.ireturn, 1) := by decide +kernel
theorem dX8_row_0 : decode cX8_row 0 = .ok (.aload_n 0, 1) := by decide +kernel
theorem dX8_row_1 : decode cX8_row 1 = .ok (.getfield 12, 3) := by decide +kernel
theorem dX8_row_4 : decode cX8_row 4 = .ok (.iload_n 1, 1) := by decide +kernel
theorem dX8_row_5 : decode cX8_row 5 = .ok (.invokevirtual 90, 3) := by decide +kernel
theorem dX8_row_8 : decode cX8_row 8 = .ok (.astore 4, 2) := by decide +kernel
theorem dX8_row_10 : decode cX8_row 10 = .ok (.aload 4, 2) := by decide +kernel
theorem dX8_row_12 : decode cX8_row 12 = .ok (.ifnull 12, 3) := by decide +kernel
theorem dX8_row_15 : decode cX8_row 15 = .ok (.iload_n 2, 1) := by decide +kernel
theorem dX8_row_16 : decode cX8_row 16 = .ok (.ifCond .lt 8, 3) := by decide +kernel
theorem dX8_row_19 : decode cX8_row 19 = .ok (.iload_n 2, 1) := by decide +kernel
theorem dX8_row_20 : decode cX8_row 20 = .ok (.iconst 4, 1) := by decide +kernel
theorem dX8_row_21 : decode cX8_row 21 = .ok (.if_icmp .lt 5, 3) := by decide +kernel
theorem dX8_row_24 : decode cX8_row 24 = .ok (.iconst (-1), 1) := by decide +kernel
theorem dX8_row_25 : decode cX8_row 25 = .ok (.ireturn, 1) := by decide +kernel
theorem dX8_row_26 : decode cX8_row 26 = .ok (.iload_n 3, 1) := by decide +kernel
theorem dX8_row_27 : decode cX8_row 27 = .ok (.invokestatic 82, 3) := by decide +kernel
theorem dX8_row_30 : decode cX8_row 30 = .ok (.ifCond .ne 6, 3) := by decide +kernel
theorem dX8_row_33 : decode cX8_row 33 = .ok (.bipush (-2), 2) := by decide +kernel
theorem dX8_row_35 : decode cX8_row 35 = .ok (.ireturn, 1) := by decide +kernel
theorem dX8_row_36 : decode cX8_row 36 = .ok (.aload 4, 2) := by decide +kernel
theorem dX8_row_38 : decode cX8_row 38 = .ok (.getfield 123, 3) := by decide +kernel
theorem dX8_row_41 : decode cX8_row 41 = .ok (.bipush 6, 2) := by decide +kernel
theorem dX8_row_43 : decode cX8_row 43 = .ok (.if_icmp .eq 6, 3) := by decide +kernel
theorem dX8_row_46 : decode cX8_row 46 = .ok (.bipush (-3), 2) := by decide +kernel
theorem dX8_row_48 : decode cX8_row 48 = .ok (.ireturn, 1) := by decide +kernel
theorem dX8_row_49 : decode cX8_row 49 = .ok (.aload 4, 2) := by decide +kernel
theorem dX8_row_51 : decode cX8_row 51 = .ok (.getfield 126, 3) := by decide +kernel
theorem dX8_row_54 : decode cX8_row 54 = .ok (.iload_n 2, 1) := by decide +kernel
theorem dX8_row_55 : decode cX8_row 55 = .ok (.iaload, 1) := by decide +kernel
theorem dX8_row_56 : decode cX8_row 56 = .ok (.istore 5, 2) := by decide +kernel
theorem dX8_row_58 : decode cX8_row 58 = .ok (.aload 4, 2) := by decide +kernel
theorem dX8_row_60 : decode cX8_row 60 = .ok (.getfield 126, 3) := by decide +kernel
theorem dX8_row_63 : decode cX8_row 63 = .ok (.iload_n 2, 1) := by decide +kernel
theorem dX8_row_64 : decode cX8_row 64 = .ok (.iload_n 3, 1) := by decide +kernel
theorem dX8_row_65 : decode cX8_row 65 = .ok (.iastore, 1) := by decide +kernel
theorem dX8_row_66 : decode cX8_row 66 = .ok (.iload 5, 2) := by decide +kernel
theorem dX8_row_68 : decode cX8_row 68 = .ok (.ireturn, 1) := by decide +kernel
theorem dX8_feed_0 : decode cX8_feed 0 = .ok (.iload_n 1, 1) := by decide +kernel
theorem dX8_feed_1 : decode cX8_feed 1 = .ok (.ifCond .lt 9, 3) := by decide +kernel
theorem dX8_feed_4 : decode cX8_feed 4 = .ok (.iload_n 1, 1) := by decide +kernel
theorem dX8_feed_5 : decode cX8_feed 5 = .ok (.bipush 127, 2) := by decide +kernel
theorem dX8_feed_7 : decode cX8_feed 7 = .ok (.if_icmp .le 6, 3) := by decide +kernel
theorem dX8_feed_10 : decode cX8_feed 10 = .ok (.bipush (-2), 2) := by decide +kernel
theorem dX8_feed_12 : decode cX8_feed 12 = .ok (.ireturn, 1) := by decide +kernel
theorem dX8_feed_13 : decode cX8_feed 13 = .ok (.aload_n 0, 1) := by decide +kernel
theorem dX8_feed_14 : decode cX8_feed 14 = .ok (.getfield 38, 3) := by decide +kernel
theorem dX8_feed_17 : decode cX8_feed 17 = .ok (.iload_n 1, 1) := by decide +kernel
theorem dX8_feed_18 : decode cX8_feed 18 = .ok (.invokevirtual 129, 3) := by decide +kernel
theorem dX8_feed_21 : decode cX8_feed 21 = .ok (.ireturn, 1) := by decide +kernel
theorem dX8_cellar_0 : decode cX8_cellar 0 = .ok (.aload_n 0, 1) := by decide +kernel
theorem dX8_cellar_1 : decode cX8_cellar 1 = .ok (.getfield 53, 3) := by decide +kernel
theorem dX8_cellar_4 : decode cX8_cellar 4 = .ok (.bipush 6, 2) := by decide +kernel
theorem dX8_cellar_6 : decode cX8_cellar 6 = .ok (.if_icmp .lt 6, 3) := by decide +kernel
theorem dX8_cellar_9 : decode cX8_cellar 9 = .ok (.bipush (-4), 2) := by decide +kernel
theorem dX8_cellar_11 : decode cX8_cellar 11 = .ok (.ireturn, 1) := by decide +kernel
theorem dX8_cellar_12 : decode cX8_cellar 12 = .ok (.aload_n 0, 1) := by decide +kernel
theorem dX8_cellar_13 : decode cX8_cellar 13 = .ok (.getfield 38, 3) := by decide +kernel
theorem dX8_cellar_16 : decode cX8_cellar 16 = .ok (.aload_n 0, 1) := by decide +kernel
theorem dX8_cellar_17 : decode cX8_cellar 17 = .ok (.getfield 44, 3) := by decide +kernel
theorem dX8_cellar_20 : decode cX8_cellar 20 = .ok (.aload_n 0, 1) := by decide +kernel
theorem dX8_cellar_21 : decode cX8_cellar 21 = .ok (.getfield 53, 3) := by decide +kernel
theorem dX8_cellar_24 : decode cX8_cellar 24 = .ok (.aaload, 1) := by decide +kernel
theorem dX8_cellar_25 : decode cX8_cellar 25 = .ok (.invokevirtual 133, 3) := by decide +kernel
theorem dX8_cellar_28 : decode cX8_cellar 28 = .ok (.istore_n 1, 1) := by decide +kernel
theorem dX8_cellar_29 : decode cX8_cellar 29 = .ok (.iload_n 1, 1) := by decide +kernel
theorem dX8_cellar_30 : decode cX8_cellar 30 = .ok (.ifCond .lt 8, 3) := by decide +kernel
theorem dX8_cellar_33 : decode cX8_cellar 33 = .ok (.bipush (-10), 2) := by decide +kernel
theorem dX8_cellar_35 : decode cX8_cellar 35 = .ok (.iload_n 1, 1) := by decide +kernel
theorem dX8_cellar_36 : decode cX8_cellar 36 = .ok (.isub, 1) := by decide +kernel
theorem dX8_cellar_37 : decode cX8_cellar 37 = .ok (.ireturn, 1) := by decide +kernel
theorem dX8_cellar_38 : decode cX8_cellar 38 = .ok (.aload_n 0, 1) := by decide +kernel
theorem dX8_cellar_39 : decode cX8_cellar 39 = .ok (.getfield 12, 3) := by decide +kernel
theorem dX8_cellar_42 : decode cX8_cellar 42 = .ok (.aload_n 0, 1) := by decide +kernel
theorem dX8_cellar_43 : decode cX8_cellar 43 = .ok (.getfield 53, 3) := by decide +kernel
theorem dX8_cellar_46 : decode cX8_cellar 46 = .ok (.putfield 137, 3) := by decide +kernel
theorem dX8_cellar_49 : decode cX8_cellar 49 = .ok (.aload_n 0, 1) := by decide +kernel
theorem dX8_cellar_50 : decode cX8_cellar 50 = .ok (.dup, 1) := by decide +kernel
theorem dX8_cellar_51 : decode cX8_cellar 51 = .ok (.getfield 53, 3) := by decide +kernel
theorem dX8_cellar_54 : decode cX8_cellar 54 = .ok (.iconst 1, 1) := by decide +kernel
theorem dX8_cellar_55 : decode cX8_cellar 55 = .ok (.iadd, 1) := by decide +kernel
theorem dX8_cellar_56 : decode cX8_cellar 56 = .ok (.putfield 53, 3) := by decide +kernel
theorem dX8_cellar_59 : decode cX8_cellar 59 = .ok (.aload_n 0, 1) := by decide +kernel
theorem dX8_cellar_60 : decode cX8_cellar 60 = .ok (.getfield 12, 3) := by decide +kernel
theorem dX8_cellar_63 : decode cX8_cellar 63 = .ok (.getfield 137, 3) := by decide +kernel
theorem dX8_cellar_66 : decode cX8_cellar 66 = .ok (.ireturn, 1) := by decide +kernel
theorem dX8_told_0 : decode cX8_told 0 = .ok (.iload_n 1, 1) := by decide +kernel
theorem dX8_told_1 : decode cX8_told 1 = .ok (.bipush 10, 2) := by decide +kernel
theorem dX8_told_3 : decode cX8_told 3 = .ok (.if_icmp .lt 18, 3) := by decide +kernel
theorem dX8_told_6 : decode cX8_told 6 = .ok (.iload_n 1, 1) := by decide +kernel
theorem dX8_told_7 : decode cX8_told 7 = .ok (.bipush 18, 2) := by decide +kernel
theorem dX8_told_9 : decode cX8_told 9 = .ok (.if_icmp .ge 12, 3) := by decide +kernel
theorem dX8_told_12 : decode cX8_told 12 = .ok (.aload_n 0, 1) := by decide +kernel
theorem dX8_told_13 : decode cX8_told 13 = .ok (.iload_n 1, 1) := by decide +kernel
theorem dX8_told_14 : decode cX8_told 14 = .ok (.bipush 10, 2) := by decide +kernel
theorem dX8_told_16 : decode cX8_told 16 = .ok (.isub, 1) := by decide +kernel
theorem dX8_told_17 : decode cX8_told 17 = .ok (.invokevirtual 140, 3) := by decide +kernel
theorem dX8_told_20 : decode cX8_told 20 = .ok (.ireturn, 1) := by decide +kernel
theorem dX8_told_21 : decode cX8_told 21 = .ok (.iload_n 1, 1) := by decide +kernel
theorem dX8_told_22 : decode cX8_told 22 = .ok (.tableswitch 50 0 2 #[26, 34, 42], 26) := by decide +kernel
theorem dX8_told_48 : decode cX8_told 48 = .ok (.aload_n 0, 1) := by decide +kernel
theorem dX8_told_49 : decode cX8_told 49 = .ok (.getfield 12, 3) := by decide +kernel
theorem dX8_told_52 : decode cX8_told 52 = .ok (.getfield 143, 3) := by decide +kernel
theorem dX8_told_55 : decode cX8_told 55 = .ok (.ireturn, 1) := by decide +kernel
theorem dX8_told_56 : decode cX8_told 56 = .ok (.aload_n 0, 1) := by decide +kernel
theorem dX8_told_57 : decode cX8_told 57 = .ok (.invokevirtual 146, 3) := by decide +kernel
theorem dX8_told_60 : decode cX8_told 60 = .ok (.getfield 149, 3) := by decide +kernel
theorem dX8_told_63 : decode cX8_told 63 = .ok (.ireturn, 1) := by decide +kernel
theorem dX8_told_64 : decode cX8_told 64 = .ok (.aload_n 0, 1) := by decide +kernel
theorem dX8_told_65 : decode cX8_told 65 = .ok (.getfield 12, 3) := by decide +kernel
theorem dX8_told_68 : decode cX8_told 68 = .ok (.getfield 114, 3) := by decide +kernel
theorem dX8_told_71 : decode cX8_told 71 = .ok (.ireturn, 1) := by decide +kernel
theorem dX8_told_72 : decode cX8_told 72 = .ok (.aload_n 0, 1) := by decide +kernel
theorem dX8_told_73 : decode cX8_told 73 = .ok (.iload_n 1, 1) := by decide +kernel
theorem dX8_told_74 : decode cX8_told 74 = .ok (.invokevirtual 152, 3) := by decide +kernel
theorem dX8_told_77 : decode cX8_told 77 = .ok (.ireturn, 1) := by decide +kernel
theorem dX8_toldOfFits_0 : decode cX8_toldOfFits 0 = .ok (.aload_n 0, 1) := by decide +kernel
theorem dX8_toldOfFits_1 : decode cX8_toldOfFits 1 = .ok (.invokevirtual 155, 3) := by decide +kernel
theorem dX8_toldOfFits_4 : decode cX8_toldOfFits 4 = .ok (.iload_n 1, 1) := by decide +kernel
theorem dX8_toldOfFits_5 : decode cX8_toldOfFits 5 = .ok (.tableswitch 127 3 7 #[35, 43, 66, 88, 122], 35) := by decide +kernel
theorem dX8_toldOfFits_40 : decode cX8_toldOfFits 40 = .ok (.aload_n 0, 1) := by decide +kernel
theorem dX8_toldOfFits_41 : decode cX8_toldOfFits 41 = .ok (.getfield 60, 3) := by decide +kernel
theorem dX8_toldOfFits_44 : decode cX8_toldOfFits 44 = .ok (.invokevirtual 158, 3) := by decide +kernel
theorem dX8_toldOfFits_47 : decode cX8_toldOfFits 47 = .ok (.ireturn, 1) := by decide +kernel
theorem dX8_toldOfFits_48 : decode cX8_toldOfFits 48 = .ok (.aload_n 0, 1) := by decide +kernel
theorem dX8_toldOfFits_49 : decode cX8_toldOfFits 49 = .ok (.getfield 60, 3) := by decide +kernel
theorem dX8_toldOfFits_52 : decode cX8_toldOfFits 52 = .ok (.getfield 162, 3) := by decide +kernel
theorem dX8_toldOfFits_55 : decode cX8_toldOfFits 55 = .ok (.ifCond .eq 13, 3) := by decide +kernel
theorem dX8_toldOfFits_58 : decode cX8_toldOfFits 58 = .ok (.aload_n 0, 1) := by decide +kernel
theorem dX8_toldOfFits_59 : decode cX8_toldOfFits 59 = .ok (.getfield 60, 3) := by decide +kernel
theorem dX8_toldOfFits_62 : decode cX8_toldOfFits 62 = .ok (.getfield 165, 3) := by decide +kernel
theorem dX8_toldOfFits_65 : decode cX8_toldOfFits 65 = .ok (.goto 5, 3) := by decide +kernel
theorem dX8_toldOfFits_68 : decode cX8_toldOfFits 68 = .ok (.bipush (-5), 2) := by decide +kernel
theorem dX8_toldOfFits_70 : decode cX8_toldOfFits 70 = .ok (.ireturn, 1) := by decide +kernel
theorem dX8_toldOfFits_71 : decode cX8_toldOfFits 71 = .ok (.aload_n 0, 1) := by decide +kernel
theorem dX8_toldOfFits_72 : decode cX8_toldOfFits 72 = .ok (.getfield 60, 3) := by decide +kernel
theorem dX8_toldOfFits_75 : decode cX8_toldOfFits 75 = .ok (.getfield 162, 3) := by decide +kernel
theorem dX8_toldOfFits_78 : decode cX8_toldOfFits 78 = .ok (.ifCond .eq 13, 3) := by decide +kernel
theorem dX8_toldOfFits_81 : decode cX8_toldOfFits 81 = .ok (.aload_n 0, 1) := by decide +kernel
theorem dX8_toldOfFits_82 : decode cX8_toldOfFits 82 = .ok (.getfield 60, 3) := by decide +kernel
theorem dX8_toldOfFits_85 : decode cX8_toldOfFits 85 = .ok (.getfield 165, 3) := by decide +kernel
theorem dX8_toldOfFits_88 : decode cX8_toldOfFits 88 = .ok (.goto 4, 3) := by decide +kernel
theorem dX8_toldOfFits_91 : decode cX8_toldOfFits 91 = .ok (.iconst 0, 1) := by decide +kernel
theorem dX8_toldOfFits_92 : decode cX8_toldOfFits 92 = .ok (.ireturn, 1) := by decide +kernel
theorem dX8_toldOfFits_93 : decode cX8_toldOfFits 93 = .ok (.aload_n 0, 1) := by decide +kernel
theorem dX8_toldOfFits_94 : decode cX8_toldOfFits 94 = .ok (.getfield 60, 3) := by decide +kernel
theorem dX8_toldOfFits_97 : decode cX8_toldOfFits 97 = .ok (.getfield 162, 3) := by decide +kernel
theorem dX8_toldOfFits_100 : decode cX8_toldOfFits 100 = .ok (.ifCond .eq 23, 3) := by decide +kernel
theorem dX8_toldOfFits_103 : decode cX8_toldOfFits 103 = .ok (.aload_n 0, 1) := by decide +kernel
theorem dX8_toldOfFits_104 : decode cX8_toldOfFits 104 = .ok (.getfield 60, 3) := by decide +kernel
theorem dX8_toldOfFits_107 : decode cX8_toldOfFits 107 = .ok (.getfield 168, 3) := by decide +kernel
theorem dX8_toldOfFits_110 : decode cX8_toldOfFits 110 = .ok (.aload_n 0, 1) := by decide +kernel
theorem dX8_toldOfFits_111 : decode cX8_toldOfFits 111 = .ok (.getfield 60, 3) := by decide +kernel
theorem dX8_toldOfFits_114 : decode cX8_toldOfFits 114 = .ok (.getfield 165, 3) := by decide +kernel
theorem dX8_toldOfFits_117 : decode cX8_toldOfFits 117 = .ok (.iconst (-1), 1) := by decide +kernel
theorem dX8_toldOfFits_118 : decode cX8_toldOfFits 118 = .ok (.ixor, 1) := by decide +kernel
theorem dX8_toldOfFits_119 : decode cX8_toldOfFits 119 = .ok (.iand, 1) := by decide +kernel
theorem dX8_toldOfFits_120 : decode cX8_toldOfFits 120 = .ok (.goto 6, 3) := by decide +kernel
theorem dX8_toldOfFits_123 : decode cX8_toldOfFits 123 = .ok (.sipush 255, 3) := by decide +kernel
theorem dX8_toldOfFits_126 : decode cX8_toldOfFits 126 = .ok (.ireturn, 1) := by decide +kernel
theorem dX8_toldOfFits_127 : decode cX8_toldOfFits 127 = .ok (.aload_n 0, 1) := by decide +kernel
theorem dX8_toldOfFits_128 : decode cX8_toldOfFits 128 = .ok (.invokevirtual 171, 3) := by decide +kernel
theorem dX8_toldOfFits_131 : decode cX8_toldOfFits 131 = .ok (.ireturn, 1) := by decide +kernel
theorem dX8_toldOfFits_132 : decode cX8_toldOfFits 132 = .ok (.sipush (-10001), 3) := by decide +kernel
theorem dX8_toldOfFits_135 : decode cX8_toldOfFits 135 = .ok (.ireturn, 1) := by decide +kernel
theorem dX8_trait_0 : decode cX8_trait 0 = .ok (.iload_n 1, 1) := by decide +kernel
theorem dX8_trait_1 : decode cX8_trait 1 = .ok (.tableswitch 60 0 4 #[35, 40, 45, 50, 55], 35) := by decide +kernel
theorem dX8_trait_36 : decode cX8_trait 36 = .ok (.aload_n 0, 1) := by decide +kernel
theorem dX8_trait_37 : decode cX8_trait 37 = .ok (.getfield 123, 3) := by decide +kernel
theorem dX8_trait_40 : decode cX8_trait 40 = .ok (.ireturn, 1) := by decide +kernel
theorem dX8_trait_41 : decode cX8_trait 41 = .ok (.aload_n 0, 1) := by decide +kernel
theorem dX8_trait_42 : decode cX8_trait 42 = .ok (.getfield 174, 3) := by decide +kernel
theorem dX8_trait_45 : decode cX8_trait 45 = .ok (.ireturn, 1) := by decide +kernel
theorem dX8_trait_46 : decode cX8_trait 46 = .ok (.aload_n 0, 1) := by decide +kernel
theorem dX8_trait_47 : decode cX8_trait 47 = .ok (.getfield 117, 3) := by decide +kernel
theorem dX8_trait_50 : decode cX8_trait 50 = .ok (.ireturn, 1) := by decide +kernel
theorem dX8_trait_51 : decode cX8_trait 51 = .ok (.aload_n 0, 1) := by decide +kernel
theorem dX8_trait_52 : decode cX8_trait 52 = .ok (.getfield 177, 3) := by decide +kernel
theorem dX8_trait_55 : decode cX8_trait 55 = .ok (.ireturn, 1) := by decide +kernel
theorem dX8_trait_56 : decode cX8_trait 56 = .ok (.aload_n 0, 1) := by decide +kernel
theorem dX8_trait_57 : decode cX8_trait 57 = .ok (.getfield 180, 3) := by decide +kernel
theorem dX8_trait_60 : decode cX8_trait 60 = .ok (.ireturn, 1) := by decide +kernel
theorem dX8_trait_61 : decode cX8_trait 61 = .ok (.sipush (-10001), 3) := by decide +kernel
theorem dX8_trait_64 : decode cX8_trait 64 = .ok (.ireturn, 1) := by decide +kernel
theorem dX8_isDigit_0 : decode cX8_isDigit 0 = .ok (.iload_n 0, 1) := by decide +kernel
theorem dX8_isDigit_1 : decode cX8_isDigit 1 = .ok (.ifCond .lt 13, 3) := by decide +kernel
theorem dX8_isDigit_4 : decode cX8_isDigit 4 = .ok (.iload_n 0, 1) := by decide +kernel
theorem dX8_isDigit_5 : decode cX8_isDigit 5 = .ok (.bipush 9, 2) := by decide +kernel
theorem dX8_isDigit_7 : decode cX8_isDigit 7 = .ok (.if_icmp .gt 7, 3) := by decide +kernel
theorem dX8_isDigit_10 : decode cX8_isDigit 10 = .ok (.iconst 1, 1) := by decide +kernel
theorem dX8_isDigit_11 : decode cX8_isDigit 11 = .ok (.goto 4, 3) := by decide +kernel
theorem dX8_isDigit_14 : decode cX8_isDigit 14 = .ok (.iconst 0, 1) := by decide +kernel
theorem dX8_isDigit_15 : decode cX8_isDigit 15 = .ok (.ireturn, 1) := by decide +kernel
theorem dX8_isFact_0 : decode cX8_isFact 0 = .ok (.iload_n 0, 1) := by decide +kernel
theorem dX8_isFact_1 : decode cX8_isFact 1 = .ok (.ifCond .lt 13, 3) := by decide +kernel
theorem dX8_isFact_4 : decode cX8_isFact 4 = .ok (.iload_n 0, 1) := by decide +kernel
theorem dX8_isFact_5 : decode cX8_isFact 5 = .ok (.bipush 8, 2) := by decide +kernel
theorem dX8_isFact_7 : decode cX8_isFact 7 = .ok (.if_icmp .ge 7, 3) := by decide +kernel
theorem dX8_isFact_10 : decode cX8_isFact 10 = .ok (.iconst 1, 1) := by decide +kernel
theorem dX8_isFact_11 : decode cX8_isFact 11 = .ok (.goto 4, 3) := by decide +kernel
theorem dX8_isFact_14 : decode cX8_isFact 14 = .ok (.iconst 0, 1) := by decide +kernel
theorem dX8_isFact_15 : decode cX8_isFact 15 = .ok (.ireturn, 1) := by decide +kernel
theorem dX8_isIn_0 : decode cX8_isIn 0 = .ok (.iload_n 0, 1) := by decide +kernel
theorem dX8_isIn_1 : decode cX8_isIn 1 = .ok (.iload_n 1, 1) := by decide +kernel
theorem dX8_isIn_2 : decode cX8_isIn 2 = .ok (.ishr, 1) := by decide +kernel
theorem dX8_isIn_3 : decode cX8_isIn 3 = .ok (.iconst 1, 1) := by decide +kernel
theorem dX8_isIn_4 : decode cX8_isIn 4 = .ok (.iand, 1) := by decide +kernel
theorem dX8_isIn_5 : decode cX8_isIn 5 = .ok (.iconst 1, 1) := by decide +kernel
theorem dX8_isIn_6 : decode cX8_isIn 6 = .ok (.if_icmp .ne 7, 3) := by decide +kernel
theorem dX8_isIn_9 : decode cX8_isIn 9 = .ok (.iconst 1, 1) := by decide +kernel
theorem dX8_isIn_10 : decode cX8_isIn 10 = .ok (.goto 4, 3) := by decide +kernel
theorem dX8_isIn_13 : decode cX8_isIn 13 = .ok (.iconst 0, 1) := by decide +kernel
theorem dX8_isIn_14 : decode cX8_isIn 14 = .ok (.ireturn, 1) := by decide +kernel
theorem dX8_holding_0 : decode cX8_holding 0 = .ok (.aload_n 0, 1) := by decide +kernel
theorem dX8_holding_1 : decode cX8_holding 1 = .ok (.getfield 12, 3) := by decide +kernel
theorem dX8_holding_4 : decode cX8_holding 4 = .ok (.getfield 137, 3) := by decide +kernel
theorem dX8_holding_7 : decode cX8_holding 7 = .ok (.istore_n 1, 1) := by decide +kernel
theorem dX8_holding_8 : decode cX8_holding 8 = .ok (.iload_n 1, 1) := by decide +kernel
theorem dX8_holding_9 : decode cX8_holding 9 = .ok (.ifCond .lt 20, 3) := by decide +kernel
theorem dX8_holding_12 : decode cX8_holding 12 = .ok (.iload_n 1, 1) := by decide +kernel
theorem dX8_holding_13 : decode cX8_holding 13 = .ok (.aload_n 0, 1) := by decide +kernel
theorem dX8_holding_14 : decode cX8_holding 14 = .ok (.getfield 53, 3) := by decide +kernel
theorem dX8_holding_17 : decode cX8_holding 17 = .ok (.if_icmp .ge 12, 3) := by decide +kernel
theorem dX8_holding_20 : decode cX8_holding 20 = .ok (.aload_n 0, 1) := by decide +kernel
theorem dX8_holding_21 : decode cX8_holding 21 = .ok (.getfield 44, 3) := by decide +kernel
theorem dX8_holding_24 : decode cX8_holding 24 = .ok (.iload_n 1, 1) := by decide +kernel
theorem dX8_holding_25 : decode cX8_holding 25 = .ok (.aaload, 1) := by decide +kernel
theorem dX8_holding_26 : decode cX8_holding 26 = .ok (.goto 7, 3) := by decide +kernel
theorem dX8_holding_29 : decode cX8_holding 29 = .ok (.aload_n 0, 1) := by decide +kernel
theorem dX8_holding_30 : decode cX8_holding 30 = .ok (.getfield 49, 3) := by decide +kernel
theorem dX8_holding_33 : decode cX8_holding 33 = .ok (.areturn, 1) := by decide +kernel
theorem dX8_clearOf_0 : decode cX8_clearOf 0 = .ok (.aload_n 1, 1) := by decide +kernel
theorem dX8_clearOf_1 : decode cX8_clearOf 1 = .ok (.aload_n 0, 1) := by decide +kernel
theorem dX8_clearOf_2 : decode cX8_clearOf 2 = .ok (.invokevirtual 146, 3) := by decide +kernel
theorem dX8_clearOf_5 : decode cX8_clearOf 5 = .ok (.aload_n 1, 1) := by decide +kernel
theorem dX8_clearOf_6 : decode cX8_clearOf 6 = .ok (.iload_n 2, 1) := by decide +kernel
theorem dX8_clearOf_7 : decode cX8_clearOf 7 = .ok (.invokevirtual 183, 3) := by decide +kernel
theorem dX8_clearOf_10 : decode cX8_clearOf 10 = .ok (.iload_n 2, 1) := by decide +kernel
theorem dX8_clearOf_11 : decode cX8_clearOf 11 = .ok (.invokevirtual 186, 3) := by decide +kernel
theorem dX8_clearOf_14 : decode cX8_clearOf 14 = .ok (.ireturn, 1) := by decide +kernel
theorem dX8_voiceOf_0 : decode cX8_voiceOf 0 = .ok (.iload_n 0, 1) := by decide +kernel
theorem dX8_voiceOf_1 : decode cX8_voiceOf 1 = .ok (.iconst 4, 1) := by decide +kernel
theorem dX8_voiceOf_2 : decode cX8_voiceOf 2 = .ok (.if_icmp .lt 5, 3) := by decide +kernel
theorem dX8_voiceOf_5 : decode cX8_voiceOf 5 = .ok (.iconst 1, 1) := by decide +kernel
theorem dX8_voiceOf_6 : decode cX8_voiceOf 6 = .ok (.ireturn, 1) := by decide +kernel
theorem dX8_voiceOf_7 : decode cX8_voiceOf 7 = .ok (.iload_n 0, 1) := by decide +kernel
theorem dX8_voiceOf_8 : decode cX8_voiceOf 8 = .ok (.ifCond .ge 7, 3) := by decide +kernel
theorem dX8_voiceOf_11 : decode cX8_voiceOf 11 = .ok (.iconst (-1), 1) := by decide +kernel
theorem dX8_voiceOf_12 : decode cX8_voiceOf 12 = .ok (.goto 4, 3) := by decide +kernel
theorem dX8_voiceOf_15 : decode cX8_voiceOf 15 = .ok (.iconst 0, 1) := by decide +kernel
theorem dX8_voiceOf_16 : decode cX8_voiceOf 16 = .ok (.ireturn, 1) := by decide +kernel
theorem dX8_saidBy_0 : decode cX8_saidBy 0 = .ok (.iload_n 1, 1) := by decide +kernel
theorem dX8_saidBy_1 : decode cX8_saidBy 1 = .ok (.invokestatic 190, 3) := by decide +kernel
theorem dX8_saidBy_4 : decode cX8_saidBy 4 = .ok (.istore_n 3, 1) := by decide +kernel
theorem dX8_saidBy_5 : decode cX8_saidBy 5 = .ok (.iload_n 3, 1) := by decide +kernel
theorem dX8_saidBy_6 : decode cX8_saidBy 6 = .ok (.ifCond .ne 6, 3) := by decide +kernel
theorem dX8_saidBy_9 : decode cX8_saidBy 9 = .ok (.bipush (-5), 2) := by decide +kernel
theorem dX8_saidBy_11 : decode cX8_saidBy 11 = .ok (.ireturn, 1) := by decide +kernel
theorem dX8_saidBy_12 : decode cX8_saidBy 12 = .ok (.aload_n 0, 1) := by decide +kernel
theorem dX8_saidBy_13 : decode cX8_saidBy 13 = .ok (.getfield 12, 3) := by decide +kernel
theorem dX8_saidBy_16 : decode cX8_saidBy 16 = .ok (.getfield 114, 3) := by decide +kernel
theorem dX8_saidBy_19 : decode cX8_saidBy 19 = .ok (.iload_n 2, 1) := by decide +kernel
theorem dX8_saidBy_20 : decode cX8_saidBy 20 = .ok (.invokestatic 193, 3) := by decide +kernel
theorem dX8_saidBy_23 : decode cX8_saidBy 23 = .ok (.iload_n 3, 1) := by decide +kernel
theorem dX8_saidBy_24 : decode cX8_saidBy 24 = .ok (.ifCond .le 7, 3) := by decide +kernel
theorem dX8_saidBy_27 : decode cX8_saidBy 27 = .ok (.iconst 1, 1) := by decide +kernel
theorem dX8_saidBy_28 : decode cX8_saidBy 28 = .ok (.goto 4, 3) := by decide +kernel
theorem dX8_saidBy_31 : decode cX8_saidBy 31 = .ok (.iconst 0, 1) := by decide +kernel
theorem dX8_saidBy_32 : decode cX8_saidBy 32 = .ok (.if_icmp .ne 7, 3) := by decide +kernel
theorem dX8_saidBy_35 : decode cX8_saidBy 35 = .ok (.iconst 1, 1) := by decide +kernel
theorem dX8_saidBy_36 : decode cX8_saidBy 36 = .ok (.goto 4, 3) := by decide +kernel
theorem dX8_saidBy_39 : decode cX8_saidBy 39 = .ok (.iconst 0, 1) := by decide +kernel
theorem dX8_saidBy_40 : decode cX8_saidBy 40 = .ok (.ireturn, 1) := by decide +kernel
theorem dX8_says_0 : decode cX8_says 0 = .ok (.aload_n 0, 1) := by decide +kernel
theorem dX8_says_1 : decode cX8_says 1 = .ok (.aload_n 0, 1) := by decide +kernel
theorem dX8_says_2 : decode cX8_says 2 = .ok (.aload_n 1, 1) := by decide +kernel
theorem dX8_says_3 : decode cX8_says 3 = .ok (.iload_n 2, 1) := by decide +kernel
theorem dX8_says_4 : decode cX8_says 4 = .ok (.invokevirtual 105, 3) := by decide +kernel
theorem dX8_says_7 : decode cX8_says 7 = .ok (.iload_n 2, 1) := by decide +kernel
theorem dX8_says_8 : decode cX8_says 8 = .ok (.invokevirtual 197, 3) := by decide +kernel
theorem dX8_says_11 : decode cX8_says 11 = .ok (.ireturn, 1) := by decide +kernel
theorem dX8_when_0 : decode cX8_when 0 = .ok (.aload_n 0, 1) := by decide +kernel
theorem dX8_when_1 : decode cX8_when 1 = .ok (.invokevirtual 146, 3) := by decide +kernel
theorem dX8_when_4 : decode cX8_when 4 = .ok (.getfield 149, 3) := by decide +kernel
theorem dX8_when_7 : decode cX8_when 7 = .ok (.istore_n 3, 1) := by decide +kernel
theorem dX8_when_8 : decode cX8_when 8 = .ok (.aload_n 0, 1) := by decide +kernel
theorem dX8_when_9 : decode cX8_when 9 = .ok (.getfield 27, 3) := by decide +kernel
theorem dX8_when_12 : decode cX8_when 12 = .ok (.aload_n 1, 1) := by decide +kernel
theorem dX8_when_13 : decode cX8_when 13 = .ok (.invokevirtual 200, 3) := by decide +kernel
theorem dX8_when_16 : decode cX8_when 16 = .ok (.iconst 0, 1) := by decide +kernel
theorem dX8_when_17 : decode cX8_when 17 = .ok (.istore 4, 2) := by decide +kernel
theorem dX8_when_19 : decode cX8_when 19 = .ok (.iload 4, 2) := by decide +kernel
theorem dX8_when_21 : decode cX8_when 21 = .ok (.bipush 60, 2) := by decide +kernel
theorem dX8_when_23 : decode cX8_when 23 = .ok (.if_icmp .gt 33, 3) := by decide +kernel
theorem dX8_when_26 : decode cX8_when 26 = .ok (.aload_n 0, 1) := by decide +kernel
theorem dX8_when_27 : decode cX8_when 27 = .ok (.aload_n 0, 1) := by decide +kernel
theorem dX8_when_28 : decode cX8_when 28 = .ok (.getfield 27, 3) := by decide +kernel
theorem dX8_when_31 : decode cX8_when 31 = .ok (.iload_n 2, 1) := by decide +kernel
theorem dX8_when_32 : decode cX8_when 32 = .ok (.invokevirtual 105, 3) := by decide +kernel
theorem dX8_when_35 : decode cX8_when 35 = .ok (.iconst 4, 1) := by decide +kernel
theorem dX8_when_36 : decode cX8_when 36 = .ok (.if_icmp .lt 6, 3) := by decide +kernel
theorem dX8_when_39 : decode cX8_when 39 = .ok (.iload 4, 2) := by decide +kernel
theorem dX8_when_41 : decode cX8_when 41 = .ok (.ireturn, 1) := by decide +kernel
theorem dX8_when_42 : decode cX8_when 42 = .ok (.aload_n 0, 1) := by decide +kernel
theorem dX8_when_43 : decode cX8_when 43 = .ok (.getfield 27, 3) := by decide +kernel
theorem dX8_when_46 : decode cX8_when 46 = .ok (.iload_n 3, 1) := by decide +kernel
theorem dX8_when_47 : decode cX8_when 47 = .ok (.invokevirtual 204, 3) := by decide +kernel
theorem dX8_when_50 : decode cX8_when 50 = .ok (.iinc 4 1, 3) := by decide +kernel
theorem dX8_when_53 : decode cX8_when 53 = .ok (.goto (-34), 3) := by decide +kernel
theorem dX8_when_56 : decode cX8_when 56 = .ok (.bipush (-5), 2) := by decide +kernel
theorem dX8_when_58 : decode cX8_when 58 = .ok (.ireturn, 1) := by decide +kernel
theorem dX8_found_0 : decode cX8_found 0 = .ok (.iconst 0, 1) := by decide +kernel
theorem dX8_found_1 : decode cX8_found 1 = .ok (.istore_n 2, 1) := by decide +kernel
theorem dX8_found_2 : decode cX8_found 2 = .ok (.iconst 0, 1) := by decide +kernel
theorem dX8_found_3 : decode cX8_found 3 = .ok (.istore_n 3, 1) := by decide +kernel
theorem dX8_found_4 : decode cX8_found 4 = .ok (.iload_n 3, 1) := by decide +kernel
theorem dX8_found_5 : decode cX8_found 5 = .ok (.aload_n 0, 1) := by decide +kernel
theorem dX8_found_6 : decode cX8_found 6 = .ok (.getfield 12, 3) := by decide +kernel
theorem dX8_found_9 : decode cX8_found 9 = .ok (.getfield 208, 3) := by decide +kernel
theorem dX8_found_12 : decode cX8_found 12 = .ok (.if_icmp .ge 64, 3) := by decide +kernel
theorem dX8_found_15 : decode cX8_found 15 = .ok (.aload_n 0, 1) := by decide +kernel
theorem dX8_found_16 : decode cX8_found 16 = .ok (.aload_n 0, 1) := by decide +kernel
theorem dX8_found_17 : decode cX8_found 17 = .ok (.getfield 12, 3) := by decide +kernel
theorem dX8_found_20 : decode cX8_found 20 = .ok (.getfield 211, 3) := by decide +kernel
theorem dX8_found_23 : decode cX8_found 23 = .ok (.iload_n 3, 1) := by decide +kernel
theorem dX8_found_24 : decode cX8_found 24 = .ok (.aaload, 1) := by decide +kernel
theorem dX8_found_25 : decode cX8_found 25 = .ok (.iload_n 1, 1) := by decide +kernel
theorem dX8_found_26 : decode cX8_found 26 = .ok (.invokevirtual 105, 3) := by decide +kernel
theorem dX8_found_29 : decode cX8_found 29 = .ok (.istore 4, 2) := by decide +kernel
theorem dX8_found_31 : decode cX8_found 31 = .ok (.aload_n 0, 1) := by decide +kernel
theorem dX8_found_32 : decode cX8_found 32 = .ok (.iload 4, 2) := by decide +kernel
theorem dX8_found_34 : decode cX8_found 34 = .ok (.iload_n 1, 1) := by decide +kernel
theorem dX8_found_35 : decode cX8_found 35 = .ok (.invokevirtual 197, 3) := by decide +kernel
theorem dX8_found_38 : decode cX8_found 38 = .ok (.istore 5, 2) := by decide +kernel
theorem dX8_found_40 : decode cX8_found 40 = .ok (.iload 5, 2) := by decide +kernel
theorem dX8_found_42 : decode cX8_found 42 = .ok (.bipush (-5), 2) := by decide +kernel
theorem dX8_found_44 : decode cX8_found 44 = .ok (.if_icmp .eq 26, 3) := by decide +kernel
theorem dX8_found_47 : decode cX8_found 47 = .ok (.iload_n 2, 1) := by decide +kernel
theorem dX8_found_48 : decode cX8_found 48 = .ok (.iload 5, 2) := by decide +kernel
theorem dX8_found_50 : decode cX8_found 50 = .ok (.iconst 1, 1) := by decide +kernel
theorem dX8_found_51 : decode cX8_found 51 = .ok (.if_icmp .ne 11, 3) := by decide +kernel
theorem dX8_found_54 : decode cX8_found 54 = .ok (.iload 4, 2) := by decide +kernel
theorem dX8_found_56 : decode cX8_found 56 = .ok (.invokestatic 215, 3) := by decide +kernel
theorem dX8_found_59 : decode cX8_found 59 = .ok (.goto 9, 3) := by decide +kernel
theorem dX8_found_62 : decode cX8_found 62 = .ok (.iload 4, 2) := by decide +kernel
theorem dX8_found_64 : decode cX8_found 64 = .ok (.invokestatic 215, 3) := by decide +kernel
theorem dX8_found_67 : decode cX8_found 67 = .ok (.ineg, 1) := by decide +kernel
theorem dX8_found_68 : decode cX8_found 68 = .ok (.iadd, 1) := by decide +kernel
theorem dX8_found_69 : decode cX8_found 69 = .ok (.istore_n 2, 1) := by decide +kernel
theorem dX8_found_70 : decode cX8_found 70 = .ok (.iinc 3 1, 3) := by decide +kernel
theorem dX8_found_73 : decode cX8_found 73 = .ok (.goto (-69), 3) := by decide +kernel
theorem dX8_found_76 : decode cX8_found 76 = .ok (.iload_n 2, 1) := by decide +kernel
theorem dX8_found_77 : decode cX8_found 77 = .ok (.ireturn, 1) := by decide +kernel
theorem dX8_pass_0 : decode cX8_pass 0 = .ok (.iload_n 1, 1) := by decide +kernel
theorem dX8_pass_1 : decode cX8_pass 1 = .ok (.ifCond .lt 9, 3) := by decide +kernel
theorem dX8_pass_4 : decode cX8_pass 4 = .ok (.iload_n 1, 1) := by decide +kernel
theorem dX8_pass_5 : decode cX8_pass 5 = .ok (.bipush 60, 2) := by decide +kernel
theorem dX8_pass_7 : decode cX8_pass 7 = .ok (.if_icmp .le 6, 3) := by decide +kernel
theorem dX8_pass_10 : decode cX8_pass 10 = .ok (.bipush (-2), 2) := by decide +kernel
theorem dX8_pass_12 : decode cX8_pass 12 = .ok (.ireturn, 1) := by decide +kernel
theorem dX8_pass_13 : decode cX8_pass 13 = .ok (.aload_n 0, 1) := by decide +kernel
theorem dX8_pass_14 : decode cX8_pass 14 = .ok (.getfield 12, 3) := by decide +kernel
theorem dX8_pass_17 : decode cX8_pass 17 = .ok (.getfield 143, 3) := by decide +kernel
theorem dX8_pass_20 : decode cX8_pass 20 = .ok (.iload_n 1, 1) := by decide +kernel
theorem dX8_pass_21 : decode cX8_pass 21 = .ok (.iadd, 1) := by decide +kernel
theorem dX8_pass_22 : decode cX8_pass 22 = .ok (.sipush 9999, 3) := by decide +kernel
theorem dX8_pass_25 : decode cX8_pass 25 = .ok (.if_icmp .le 6, 3) := by decide +kernel
theorem dX8_pass_28 : decode cX8_pass 28 = .ok (.bipush (-3), 2) := by decide +kernel
theorem dX8_pass_30 : decode cX8_pass 30 = .ok (.ireturn, 1) := by decide +kernel
theorem dX8_pass_31 : decode cX8_pass 31 = .ok (.aload_n 0, 1) := by decide +kernel
theorem dX8_pass_32 : decode cX8_pass 32 = .ok (.getfield 12, 3) := by decide +kernel
theorem dX8_pass_35 : decode cX8_pass 35 = .ok (.iload_n 1, 1) := by decide +kernel
theorem dX8_pass_36 : decode cX8_pass 36 = .ok (.aload_n 0, 1) := by decide +kernel
theorem dX8_pass_37 : decode cX8_pass 37 = .ok (.invokevirtual 146, 3) := by decide +kernel
theorem dX8_pass_40 : decode cX8_pass 40 = .ok (.getfield 149, 3) := by decide +kernel
theorem dX8_pass_43 : decode cX8_pass 43 = .ok (.invokevirtual 220, 3) := by decide +kernel
theorem dX8_pass_46 : decode cX8_pass 46 = .ok (.aload_n 0, 1) := by decide +kernel
theorem dX8_pass_47 : decode cX8_pass 47 = .ok (.getfield 12, 3) := by decide +kernel
theorem dX8_pass_50 : decode cX8_pass 50 = .ok (.dup, 1) := by decide +kernel
theorem dX8_pass_51 : decode cX8_pass 51 = .ok (.getfield 143, 3) := by decide +kernel
theorem dX8_pass_54 : decode cX8_pass 54 = .ok (.iload_n 1, 1) := by decide +kernel
theorem dX8_pass_55 : decode cX8_pass 55 = .ok (.iadd, 1) := by decide +kernel
theorem dX8_pass_56 : decode cX8_pass 56 = .ok (.putfield 143, 3) := by decide +kernel
theorem dX8_pass_59 : decode cX8_pass 59 = .ok (.aload_n 0, 1) := by decide +kernel
theorem dX8_pass_60 : decode cX8_pass 60 = .ok (.getfield 12, 3) := by decide +kernel
theorem dX8_pass_63 : decode cX8_pass 63 = .ok (.getfield 143, 3) := by decide +kernel
theorem dX8_pass_66 : decode cX8_pass 66 = .ok (.ireturn, 1) := by decide +kernel
theorem dX8_on_0 : decode cX8_on 0 = .ok (.iload_n 2, 1) := by decide +kernel
theorem dX8_on_1 : decode cX8_on 1 = .ok (.bipush 10, 2) := by decide +kernel
theorem dX8_on_3 : decode cX8_on 3 = .ok (.if_icmp .lt 13, 3) := by decide +kernel
theorem dX8_on_6 : decode cX8_on 6 = .ok (.iload_n 2, 1) := by decide +kernel
theorem dX8_on_7 : decode cX8_on 7 = .ok (.bipush 30, 2) := by decide +kernel
theorem dX8_on_9 : decode cX8_on 9 = .ok (.if_icmp .ge 7, 3) := by decide +kernel
theorem dX8_on_12 : decode cX8_on 12 = .ok (.iconst 1, 1) := by decide +kernel
theorem dX8_on_13 : decode cX8_on 13 = .ok (.goto 4, 3) := by decide +kernel
theorem dX8_on_16 : decode cX8_on 16 = .ok (.iconst 0, 1) := by decide +kernel
theorem dX8_on_17 : decode cX8_on 17 = .ok (.istore_n 3, 1) := by decide +kernel
theorem dX8_on_18 : decode cX8_on 18 = .ok (.iload_n 2, 1) := by decide +kernel
theorem dX8_on_19 : decode cX8_on 19 = .ok (.ifCond .eq 25, 3) := by decide +kernel
theorem dX8_on_22 : decode cX8_on 22 = .ok (.iload_n 3, 1) := by decide +kernel
theorem dX8_on_23 : decode cX8_on 23 = .ok (.ifCond .eq 17, 3) := by decide +kernel
theorem dX8_on_26 : decode cX8_on 26 = .ok (.aload_n 0, 1) := by decide +kernel
theorem dX8_on_27 : decode cX8_on 27 = .ok (.getfield 12, 3) := by decide +kernel
theorem dX8_on_30 : decode cX8_on 30 = .ok (.iload_n 2, 1) := by decide +kernel
theorem dX8_on_31 : decode cX8_on 31 = .ok (.bipush 10, 2) := by decide +kernel
theorem dX8_on_33 : decode cX8_on 33 = .ok (.irem, 1) := by decide +kernel
theorem dX8_on_34 : decode cX8_on 34 = .ok (.invokevirtual 90, 3) := by decide +kernel
theorem dX8_on_37 : decode cX8_on 37 = .ok (.ifnonnull 7, 3) := by decide +kernel
theorem dX8_on_40 : decode cX8_on 40 = .ok (.sipush (-10001), 3) := by decide +kernel
theorem dX8_on_43 : decode cX8_on 43 = .ok (.ireturn, 1) := by decide +kernel
theorem dX8_on_44 : decode cX8_on 44 = .ok (.iload_n 1, 1) := by decide +kernel
theorem dX8_on_45 : decode cX8_on 45 = .ok (.ifCond .lt 9, 3) := by decide +kernel
theorem dX8_on_48 : decode cX8_on 48 = .ok (.iload_n 1, 1) := by decide +kernel
theorem dX8_on_49 : decode cX8_on 49 = .ok (.bipush 60, 2) := by decide +kernel
theorem dX8_on_51 : decode cX8_on 51 = .ok (.if_icmp .le 6, 3) := by decide +kernel
theorem dX8_on_54 : decode cX8_on 54 = .ok (.bipush (-2), 2) := by decide +kernel
theorem dX8_on_56 : decode cX8_on 56 = .ok (.ireturn, 1) := by decide +kernel
theorem dX8_on_57 : decode cX8_on 57 = .ok (.aload_n 0, 1) := by decide +kernel
theorem dX8_on_58 : decode cX8_on 58 = .ok (.getfield 21, 3) := by decide +kernel
theorem dX8_on_61 : decode cX8_on 61 = .ok (.aload_n 0, 1) := by decide +kernel
theorem dX8_on_62 : decode cX8_on 62 = .ok (.getfield 12, 3) := by decide +kernel
theorem dX8_on_65 : decode cX8_on 65 = .ok (.invokevirtual 224, 3) := by decide +kernel
theorem dX8_on_68 : decode cX8_on 68 = .ok (.aload_n 0, 1) := by decide +kernel
theorem dX8_on_69 : decode cX8_on 69 = .ok (.getfield 21, 3) := by decide +kernel
theorem dX8_on_72 : decode cX8_on 72 = .ok (.iload_n 1, 1) := by decide +kernel
theorem dX8_on_73 : decode cX8_on 73 = .ok (.aload_n 0, 1) := by decide +kernel
theorem dX8_on_74 : decode cX8_on 74 = .ok (.invokevirtual 146, 3) := by decide +kernel
theorem dX8_on_77 : decode cX8_on 77 = .ok (.getfield 149, 3) := by decide +kernel
theorem dX8_on_80 : decode cX8_on 80 = .ok (.invokevirtual 220, 3) := by decide +kernel
theorem dX8_on_83 : decode cX8_on 83 = .ok (.iload_n 2, 1) := by decide +kernel
theorem dX8_on_84 : decode cX8_on 84 = .ok (.ifCond .ne 11, 3) := by decide +kernel
theorem dX8_on_87 : decode cX8_on 87 = .ok (.aload_n 0, 1) := by decide +kernel
theorem dX8_on_88 : decode cX8_on 88 = .ok (.getfield 21, 3) := by decide +kernel
theorem dX8_on_91 : decode cX8_on 91 = .ok (.invokevirtual 228, 3) := by decide +kernel
theorem dX8_on_94 : decode cX8_on 94 = .ok (.ireturn, 1) := by decide +kernel
theorem dX8_on_95 : decode cX8_on 95 = .ok (.aload_n 0, 1) := by decide +kernel
theorem dX8_on_96 : decode cX8_on 96 = .ok (.getfield 21, 3) := by decide +kernel
theorem dX8_on_99 : decode cX8_on 99 = .ok (.iload_n 2, 1) := by decide +kernel
theorem dX8_on_100 : decode cX8_on 100 = .ok (.bipush 10, 2) := by decide +kernel
theorem dX8_on_102 : decode cX8_on 102 = .ok (.irem, 1) := by decide +kernel
theorem dX8_on_103 : decode cX8_on 103 = .ok (.invokevirtual 90, 3) := by decide +kernel
theorem dX8_on_106 : decode cX8_on 106 = .ok (.astore 4, 2) := by decide +kernel
theorem dX8_on_108 : decode cX8_on 108 = .ok (.aload 4, 2) := by decide +kernel
theorem dX8_on_110 : decode cX8_on 110 = .ok (.ifnonnull 7, 3) := by decide +kernel
theorem dX8_on_113 : decode cX8_on 113 = .ok (.sipush (-10001), 3) := by decide +kernel
theorem dX8_on_116 : decode cX8_on 116 = .ok (.ireturn, 1) := by decide +kernel
theorem dX8_on_117 : decode cX8_on 117 = .ok (.iload_n 2, 1) := by decide +kernel
theorem dX8_on_118 : decode cX8_on 118 = .ok (.bipush 20, 2) := by decide +kernel
theorem dX8_on_120 : decode cX8_on 120 = .ok (.if_icmp .ge 11, 3) := by decide +kernel
theorem dX8_on_123 : decode cX8_on 123 = .ok (.aload 4, 2) := by decide +kernel
theorem dX8_on_125 : decode cX8_on 125 = .ok (.getfield 117, 3) := by decide +kernel
theorem dX8_on_128 : decode cX8_on 128 = .ok (.goto 10, 3) := by decide +kernel
theorem dX8_on_131 : decode cX8_on 131 = .ok (.aload_n 0, 1) := by decide +kernel
theorem dX8_on_132 : decode cX8_on 132 = .ok (.aload 4, 2) := by decide +kernel
theorem dX8_on_134 : decode cX8_on 134 = .ok (.iconst 0, 1) := by decide +kernel
theorem dX8_on_135 : decode cX8_on 135 = .ok (.invokevirtual 108, 3) := by decide +kernel
theorem dX8_on_138 : decode cX8_on 138 = .ok (.ireturn, 1) := by decide +kernel
theorem dX8_cases_0 : decode cX8_cases 0 = .ok (.iload_n 2, 1) := by decide +kernel
theorem dX8_cases_1 : decode cX8_cases 1 = .ok (.ifCond .eq 10, 3) := by decide +kernel
theorem dX8_cases_4 : decode cX8_cases 4 = .ok (.iload_n 2, 1) := by decide +kernel
theorem dX8_cases_5 : decode cX8_cases 5 = .ok (.iconst 1, 1) := by decide +kernel
theorem dX8_cases_6 : decode cX8_cases 6 = .ok (.if_icmp .eq 5, 3) := by decide +kernel
theorem dX8_cases_9 : decode cX8_cases 9 = .ok (.iconst (-1), 1) := by decide +kernel
theorem dX8_cases_10 : decode cX8_cases 10 = .ok (.ireturn, 1) := by decide +kernel
theorem dX8_cases_11 : decode cX8_cases 11 = .ok (.iload_n 1, 1) := by decide +kernel
theorem dX8_cases_12 : decode cX8_cases 12 = .ok (.ifCond .lt 10, 3) := by decide +kernel
theorem dX8_cases_15 : decode cX8_cases 15 = .ok (.iload_n 1, 1) := by decide +kernel
theorem dX8_cases_16 : decode cX8_cases 16 = .ok (.sipush 255, 3) := by decide +kernel
theorem dX8_cases_19 : decode cX8_cases 19 = .ok (.if_icmp .le 6, 3) := by decide +kernel
theorem dX8_cases_22 : decode cX8_cases 22 = .ok (.bipush (-2), 2) := by decide +kernel
theorem dX8_cases_24 : decode cX8_cases 24 = .ok (.ireturn, 1) := by decide +kernel
theorem dX8_cases_25 : decode cX8_cases 25 = .ok (.aload_n 0, 1) := by decide +kernel
theorem dX8_cases_26 : decode cX8_cases 26 = .ok (.iload_n 1, 1) := by decide +kernel
theorem dX8_cases_27 : decode cX8_cases 27 = .ok (.invokevirtual 231, 3) := by decide +kernel
theorem dX8_cases_30 : decode cX8_cases 30 = .ok (.iload_n 2, 1) := by decide +kernel
theorem dX8_cases_31 : decode cX8_cases 31 = .ok (.ifCond .ne 11, 3) := by decide +kernel
theorem dX8_cases_34 : decode cX8_cases 34 = .ok (.aload_n 0, 1) := by decide +kernel
theorem dX8_cases_35 : decode cX8_cases 35 = .ok (.iload_n 1, 1) := by decide +kernel
theorem dX8_cases_36 : decode cX8_cases 36 = .ok (.invokevirtual 234, 3) := by decide +kernel
theorem dX8_cases_39 : decode cX8_cases 39 = .ok (.goto 8, 3) := by decide +kernel
theorem dX8_cases_42 : decode cX8_cases 42 = .ok (.aload_n 0, 1) := by decide +kernel
theorem dX8_cases_43 : decode cX8_cases 43 = .ok (.iload_n 1, 1) := by decide +kernel
theorem dX8_cases_44 : decode cX8_cases 44 = .ok (.invokevirtual 237, 3) := by decide +kernel
theorem dX8_cases_47 : decode cX8_cases 47 = .ok (.ireturn, 1) := by decide +kernel
theorem dX8_gatherSpoken_0 : decode cX8_gatherSpoken 0 = .ok (.iconst 0, 1) := by decide +kernel
theorem dX8_gatherSpoken_1 : decode cX8_gatherSpoken 1 = .ok (.istore_n 2, 1) := by decide +kernel
theorem dX8_gatherSpoken_2 : decode cX8_gatherSpoken 2 = .ok (.iload_n 2, 1) := by decide +kernel
theorem dX8_gatherSpoken_3 : decode cX8_gatherSpoken 3 = .ok (.aload_n 0, 1) := by decide +kernel
theorem dX8_gatherSpoken_4 : decode cX8_gatherSpoken 4 = .ok (.getfield 12, 3) := by decide +kernel
theorem dX8_gatherSpoken_7 : decode cX8_gatherSpoken 7 = .ok (.getfield 208, 3) := by decide +kernel
theorem dX8_gatherSpoken_10 : decode cX8_gatherSpoken 10 = .ok (.if_icmp .ge 71, 3) := by decide +kernel
theorem dX8_gatherSpoken_13 : decode cX8_gatherSpoken 13 = .ok (.iconst 0, 1) := by decide +kernel
theorem dX8_gatherSpoken_14 : decode cX8_gatherSpoken 14 = .ok (.istore_n 3, 1) := by decide +kernel
theorem dX8_gatherSpoken_15 : decode cX8_gatherSpoken 15 = .ok (.iconst 0, 1) := by decide +kernel
theorem dX8_gatherSpoken_16 : decode cX8_gatherSpoken 16 = .ok (.istore 4, 2) := by decide +kernel
theorem dX8_gatherSpoken_18 : decode cX8_gatherSpoken 18 = .ok (.iload 4, 2) := by decide +kernel
theorem dX8_gatherSpoken_20 : decode cX8_gatherSpoken 20 = .ok (.bipush 8, 2) := by decide +kernel
theorem dX8_gatherSpoken_22 : decode cX8_gatherSpoken 22 = .ok (.if_icmp .ge 46, 3) := by decide +kernel
theorem dX8_gatherSpoken_25 : decode cX8_gatherSpoken 25 = .ok (.iload_n 1, 1) := by decide +kernel
theorem dX8_gatherSpoken_26 : decode cX8_gatherSpoken 26 = .ok (.iload 4, 2) := by decide +kernel
theorem dX8_gatherSpoken_28 : decode cX8_gatherSpoken 28 = .ok (.invokestatic 193, 3) := by decide +kernel
theorem dX8_gatherSpoken_31 : decode cX8_gatherSpoken 31 = .ok (.ifCond .eq 31, 3) := by decide +kernel
theorem dX8_gatherSpoken_34 : decode cX8_gatherSpoken 34 = .ok (.aload_n 0, 1) := by decide +kernel
theorem dX8_gatherSpoken_35 : decode cX8_gatherSpoken 35 = .ok (.aload_n 0, 1) := by decide +kernel
theorem dX8_gatherSpoken_36 : decode cX8_gatherSpoken 36 = .ok (.getfield 12, 3) := by decide +kernel
theorem dX8_gatherSpoken_39 : decode cX8_gatherSpoken 39 = .ok (.getfield 211, 3) := by decide +kernel
theorem dX8_gatherSpoken_42 : decode cX8_gatherSpoken 42 = .ok (.iload_n 2, 1) := by decide +kernel
theorem dX8_gatherSpoken_43 : decode cX8_gatherSpoken 43 = .ok (.aaload, 1) := by decide +kernel
theorem dX8_gatherSpoken_44 : decode cX8_gatherSpoken 44 = .ok (.iload 4, 2) := by decide +kernel
theorem dX8_gatherSpoken_46 : decode cX8_gatherSpoken 46 = .ok (.invokevirtual 105, 3) := by decide +kernel
theorem dX8_gatherSpoken_49 : decode cX8_gatherSpoken 49 = .ok (.invokestatic 190, 3) := by decide +kernel
theorem dX8_gatherSpoken_52 : decode cX8_gatherSpoken 52 = .ok (.ifCond .eq 10, 3) := by decide +kernel
theorem dX8_gatherSpoken_55 : decode cX8_gatherSpoken 55 = .ok (.iload_n 3, 1) := by decide +kernel
theorem dX8_gatherSpoken_56 : decode cX8_gatherSpoken 56 = .ok (.iconst 1, 1) := by decide +kernel
theorem dX8_gatherSpoken_57 : decode cX8_gatherSpoken 57 = .ok (.iload 4, 2) := by decide +kernel
theorem dX8_gatherSpoken_59 : decode cX8_gatherSpoken 59 = .ok (.ishl, 1) := by decide +kernel
theorem dX8_gatherSpoken_60 : decode cX8_gatherSpoken 60 = .ok (.ior, 1) := by decide +kernel
theorem dX8_gatherSpoken_61 : decode cX8_gatherSpoken 61 = .ok (.istore_n 3, 1) := by decide +kernel
theorem dX8_gatherSpoken_62 : decode cX8_gatherSpoken 62 = .ok (.iinc 4 1, 3) := by decide +kernel
theorem dX8_gatherSpoken_65 : decode cX8_gatherSpoken 65 = .ok (.goto (-47), 3) := by decide +kernel
theorem dX8_gatherSpoken_68 : decode cX8_gatherSpoken 68 = .ok (.aload_n 0, 1) := by decide +kernel
theorem dX8_gatherSpoken_69 : decode cX8_gatherSpoken 69 = .ok (.getfield 64, 3) := by decide +kernel
theorem dX8_gatherSpoken_72 : decode cX8_gatherSpoken 72 = .ok (.iload_n 2, 1) := by decide +kernel
theorem dX8_gatherSpoken_73 : decode cX8_gatherSpoken 73 = .ok (.iload_n 3, 1) := by decide +kernel
theorem dX8_gatherSpoken_74 : decode cX8_gatherSpoken 74 = .ok (.iastore, 1) := by decide +kernel
theorem dX8_gatherSpoken_75 : decode cX8_gatherSpoken 75 = .ok (.iinc 2 1, 3) := by decide +kernel
theorem dX8_gatherSpoken_78 : decode cX8_gatherSpoken 78 = .ok (.goto (-76), 3) := by decide +kernel
theorem dX8_gatherSpoken_81 : decode cX8_gatherSpoken 81 = .ok (.return_, 1) := by decide +kernel
theorem dX8_enough_0 : decode cX8_enough 0 = .ok (.bipush (-5), 2) := by decide +kernel
theorem dX8_enough_2 : decode cX8_enough 2 = .ok (.istore_n 2, 1) := by decide +kernel
theorem dX8_enough_3 : decode cX8_enough 3 = .ok (.bipush 7, 2) := by decide +kernel
theorem dX8_enough_5 : decode cX8_enough 5 = .ok (.istore_n 3, 1) := by decide +kernel
theorem dX8_enough_6 : decode cX8_enough 6 = .ok (.iconst 0, 1) := by decide +kernel
theorem dX8_enough_7 : decode cX8_enough 7 = .ok (.istore 4, 2) := by decide +kernel
theorem dX8_enough_9 : decode cX8_enough 9 = .ok (.iload 4, 2) := by decide +kernel
theorem dX8_enough_11 : decode cX8_enough 11 = .ok (.iconst 1, 1) := by decide +kernel
theorem dX8_enough_12 : decode cX8_enough 12 = .ok (.aload_n 0, 1) := by decide +kernel
theorem dX8_enough_13 : decode cX8_enough 13 = .ok (.getfield 12, 3) := by decide +kernel
theorem dX8_enough_16 : decode cX8_enough 16 = .ok (.getfield 208, 3) := by decide +kernel
theorem dX8_enough_19 : decode cX8_enough 19 = .ok (.ishl, 1) := by decide +kernel
theorem dX8_enough_20 : decode cX8_enough 20 = .ok (.if_icmp .ge 41, 3) := by decide +kernel
theorem dX8_enough_23 : decode cX8_enough 23 = .ok (.iload 4, 2) := by decide +kernel
theorem dX8_enough_25 : decode cX8_enough 25 = .ok (.invokestatic 240, 3) := by decide +kernel
theorem dX8_enough_28 : decode cX8_enough 28 = .ok (.istore 5, 2) := by decide +kernel
theorem dX8_enough_30 : decode cX8_enough 30 = .ok (.iload 5, 2) := by decide +kernel
theorem dX8_enough_32 : decode cX8_enough 32 = .ok (.iload_n 3, 1) := by decide +kernel
theorem dX8_enough_33 : decode cX8_enough 33 = .ok (.if_icmp .ge 22, 3) := by decide +kernel
theorem dX8_enough_36 : decode cX8_enough 36 = .ok (.iload_n 1, 1) := by decide +kernel
theorem dX8_enough_37 : decode cX8_enough 37 = .ok (.aload_n 0, 1) := by decide +kernel
theorem dX8_enough_38 : decode cX8_enough 38 = .ok (.iload 4, 2) := by decide +kernel
theorem dX8_enough_40 : decode cX8_enough 40 = .ok (.invokevirtual 245, 3) := by decide +kernel
theorem dX8_enough_43 : decode cX8_enough 43 = .ok (.iconst (-1), 1) := by decide +kernel
theorem dX8_enough_44 : decode cX8_enough 44 = .ok (.ixor, 1) := by decide +kernel
theorem dX8_enough_45 : decode cX8_enough 45 = .ok (.iand, 1) := by decide +kernel
theorem dX8_enough_46 : decode cX8_enough 46 = .ok (.ifCond .ne 9, 3) := by decide +kernel
theorem dX8_enough_49 : decode cX8_enough 49 = .ok (.iload 4, 2) := by decide +kernel
theorem dX8_enough_51 : decode cX8_enough 51 = .ok (.istore_n 2, 1) := by decide +kernel
theorem dX8_enough_52 : decode cX8_enough 52 = .ok (.iload 5, 2) := by decide +kernel
theorem dX8_enough_54 : decode cX8_enough 54 = .ok (.istore_n 3, 1) := by decide +kernel
theorem dX8_enough_55 : decode cX8_enough 55 = .ok (.iinc 4 1, 3) := by decide +kernel
theorem dX8_enough_58 : decode cX8_enough 58 = .ok (.goto (-49), 3) := by decide +kernel
theorem dX8_enough_61 : decode cX8_enough 61 = .ok (.iload_n 2, 1) := by decide +kernel
theorem dX8_enough_62 : decode cX8_enough 62 = .ok (.ireturn, 1) := by decide +kernel
theorem dX8_spokenBy_0 : decode cX8_spokenBy 0 = .ok (.iconst 0, 1) := by decide +kernel
theorem dX8_spokenBy_1 : decode cX8_spokenBy 1 = .ok (.istore_n 2, 1) := by decide +kernel
theorem dX8_spokenBy_2 : decode cX8_spokenBy 2 = .ok (.iconst 0, 1) := by decide +kernel
theorem dX8_spokenBy_3 : decode cX8_spokenBy 3 = .ok (.istore_n 3, 1) := by decide +kernel
theorem dX8_spokenBy_4 : decode cX8_spokenBy 4 = .ok (.iload_n 3, 1) := by decide +kernel
theorem dX8_spokenBy_5 : decode cX8_spokenBy 5 = .ok (.aload_n 0, 1) := by decide +kernel
theorem dX8_spokenBy_6 : decode cX8_spokenBy 6 = .ok (.getfield 12, 3) := by decide +kernel
theorem dX8_spokenBy_9 : decode cX8_spokenBy 9 = .ok (.getfield 208, 3) := by decide +kernel
theorem dX8_spokenBy_12 : decode cX8_spokenBy 12 = .ok (.if_icmp .ge 26, 3) := by decide +kernel
theorem dX8_spokenBy_15 : decode cX8_spokenBy 15 = .ok (.iload_n 1, 1) := by decide +kernel
theorem dX8_spokenBy_16 : decode cX8_spokenBy 16 = .ok (.iload_n 3, 1) := by decide +kernel
theorem dX8_spokenBy_17 : decode cX8_spokenBy 17 = .ok (.invokestatic 193, 3) := by decide +kernel
theorem dX8_spokenBy_20 : decode cX8_spokenBy 20 = .ok (.ifCond .eq 12, 3) := by decide +kernel
theorem dX8_spokenBy_23 : decode cX8_spokenBy 23 = .ok (.iload_n 2, 1) := by decide +kernel
theorem dX8_spokenBy_24 : decode cX8_spokenBy 24 = .ok (.aload_n 0, 1) := by decide +kernel
theorem dX8_spokenBy_25 : decode cX8_spokenBy 25 = .ok (.getfield 64, 3) := by decide +kernel
theorem dX8_spokenBy_28 : decode cX8_spokenBy 28 = .ok (.iload_n 3, 1) := by decide +kernel
theorem dX8_spokenBy_29 : decode cX8_spokenBy 29 = .ok (.iaload, 1) := by decide +kernel
theorem dX8_spokenBy_30 : decode cX8_spokenBy 30 = .ok (.ior, 1) := by decide +kernel
theorem dX8_spokenBy_31 : decode cX8_spokenBy 31 = .ok (.istore_n 2, 1) := by decide +kernel
theorem dX8_spokenBy_32 : decode cX8_spokenBy 32 = .ok (.iinc 3 1, 3) := by decide +kernel
theorem dX8_spokenBy_35 : decode cX8_spokenBy 35 = .ok (.goto (-31), 3) := by decide +kernel
theorem dX8_spokenBy_38 : decode cX8_spokenBy 38 = .ok (.iload_n 2, 1) := by decide +kernel
theorem dX8_spokenBy_39 : decode cX8_spokenBy 39 = .ok (.ireturn, 1) := by decide +kernel
theorem dX8_ownPots_0 : decode cX8_ownPots 0 = .ok (.lconst 1, 1) := by decide +kernel
theorem dX8_ownPots_1 : decode cX8_ownPots 1 = .ok (.lstore_n 2, 1) := by decide +kernel
theorem dX8_ownPots_2 : decode cX8_ownPots 2 = .ok (.iconst 0, 1) := by decide +kernel
theorem dX8_ownPots_3 : decode cX8_ownPots 3 = .ok (.istore 4, 2) := by decide +kernel
theorem dX8_ownPots_5 : decode cX8_ownPots 5 = .ok (.iload 4, 2) := by decide +kernel
theorem dX8_ownPots_7 : decode cX8_ownPots 7 = .ok (.bipush 8, 2) := by decide +kernel
theorem dX8_ownPots_9 : decode cX8_ownPots 9 = .ok (.if_icmp .ge 28, 3) := by decide +kernel
theorem dX8_ownPots_12 : decode cX8_ownPots 12 = .ok (.iload_n 1, 1) := by decide +kernel
theorem dX8_ownPots_13 : decode cX8_ownPots 13 = .ok (.iload 4, 2) := by decide +kernel
theorem dX8_ownPots_15 : decode cX8_ownPots 15 = .ok (.invokestatic 193, 3) := by decide +kernel
theorem dX8_ownPots_18 : decode cX8_ownPots 18 = .ok (.ifCond .eq 13, 3) := by decide +kernel
theorem dX8_ownPots_21 : decode cX8_ownPots 21 = .ok (.lload_n 2, 1) := by decide +kernel
theorem dX8_ownPots_22 : decode cX8_ownPots 22 = .ok (.aload_n 0, 1) := by decide +kernel
theorem dX8_ownPots_23 : decode cX8_ownPots 23 = .ok (.lload_n 2, 1) := by decide +kernel
theorem dX8_ownPots_24 : decode cX8_ownPots 24 = .ok (.iload 4, 2) := by decide +kernel
theorem dX8_ownPots_26 : decode cX8_ownPots 26 = .ok (.invokevirtual 248, 3) := by decide +kernel
theorem dX8_ownPots_29 : decode cX8_ownPots 29 = .ok (.lor, 1) := by decide +kernel
theorem dX8_ownPots_30 : decode cX8_ownPots 30 = .ok (.lstore_n 2, 1) := by decide +kernel
theorem dX8_ownPots_31 : decode cX8_ownPots 31 = .ok (.iinc 4 1, 3) := by decide +kernel
theorem dX8_ownPots_34 : decode cX8_ownPots 34 = .ok (.goto (-29), 3) := by decide +kernel
theorem dX8_ownPots_37 : decode cX8_ownPots 37 = .ok (.iconst 0, 1) := by decide +kernel
theorem dX8_ownPots_38 : decode cX8_ownPots 38 = .ok (.istore 4, 2) := by decide +kernel
theorem dX8_ownPots_40 : decode cX8_ownPots 40 = .ok (.iconst 0, 1) := by decide +kernel
theorem dX8_ownPots_41 : decode cX8_ownPots 41 = .ok (.istore 5, 2) := by decide +kernel
theorem dX8_ownPots_43 : decode cX8_ownPots 43 = .ok (.iload 5, 2) := by decide +kernel
theorem dX8_ownPots_45 : decode cX8_ownPots 45 = .ok (.bipush 64, 2) := by decide +kernel
theorem dX8_ownPots_47 : decode cX8_ownPots 47 = .ok (.if_icmp .ge 32, 3) := by decide +kernel
theorem dX8_ownPots_50 : decode cX8_ownPots 50 = .ok (.lload_n 2, 1) := by decide +kernel
theorem dX8_ownPots_51 : decode cX8_ownPots 51 = .ok (.iload 5, 2) := by decide +kernel
theorem dX8_ownPots_53 : decode cX8_ownPots 53 = .ok (.lshr, 1) := by decide +kernel
theorem dX8_ownPots_54 : decode cX8_ownPots 54 = .ok (.lconst 1, 1) := by decide +kernel
theorem dX8_ownPots_55 : decode cX8_ownPots 55 = .ok (.land, 1) := by decide +kernel
theorem dX8_ownPots_56 : decode cX8_ownPots 56 = .ok (.lconst 1, 1) := by decide +kernel
theorem dX8_ownPots_57 : decode cX8_ownPots 57 = .ok (.lcmp, 1) := by decide +kernel
theorem dX8_ownPots_58 : decode cX8_ownPots 58 = .ok (.ifCond .ne 15, 3) := by decide +kernel
theorem dX8_ownPots_61 : decode cX8_ownPots 61 = .ok (.iload 4, 2) := by decide +kernel
theorem dX8_ownPots_63 : decode cX8_ownPots 63 = .ok (.iload 5, 2) := by decide +kernel
theorem dX8_ownPots_65 : decode cX8_ownPots 65 = .ok (.invokestatic 240, 3) := by decide +kernel
theorem dX8_ownPots_68 : decode cX8_ownPots 68 = .ok (.invokestatic 252, 3) := by decide +kernel
theorem dX8_ownPots_71 : decode cX8_ownPots 71 = .ok (.istore 4, 2) := by decide +kernel
theorem dX8_ownPots_73 : decode cX8_ownPots 73 = .ok (.iinc 5 1, 3) := by decide +kernel
theorem dX8_ownPots_76 : decode cX8_ownPots 76 = .ok (.goto (-33), 3) := by decide +kernel
theorem dX8_ownPots_79 : decode cX8_ownPots 79 = .ok (.iload 4, 2) := by decide +kernel
theorem dX8_ownPots_81 : decode cX8_ownPots 81 = .ok (.ireturn, 1) := by decide +kernel
theorem dX8_givenOneMore_0 : decode cX8_givenOneMore 0 = .ok (.lconst 0, 1) := by decide +kernel
theorem dX8_givenOneMore_1 : decode cX8_givenOneMore 1 = .ok (.lstore 4, 2) := by decide +kernel
theorem dX8_givenOneMore_3 : decode cX8_givenOneMore 3 = .ok (.iconst 0, 1) := by decide +kernel
theorem dX8_givenOneMore_4 : decode cX8_givenOneMore 4 = .ok (.istore 6, 2) := by decide +kernel
theorem dX8_givenOneMore_6 : decode cX8_givenOneMore 6 = .ok (.iload 6, 2) := by decide +kernel
theorem dX8_givenOneMore_8 : decode cX8_givenOneMore 8 = .ok (.aload_n 0, 1) := by decide +kernel
theorem dX8_givenOneMore_9 : decode cX8_givenOneMore 9 = .ok (.getfield 12, 3) := by decide +kernel
theorem dX8_givenOneMore_12 : decode cX8_givenOneMore 12 = .ok (.getfield 208, 3) := by decide +kernel
theorem dX8_givenOneMore_15 : decode cX8_givenOneMore 15 = .ok (.if_icmp .ge 78, 3) := by decide +kernel
theorem dX8_givenOneMore_18 : decode cX8_givenOneMore 18 = .ok (.aload_n 0, 1) := by decide +kernel
theorem dX8_givenOneMore_19 : decode cX8_givenOneMore 19 = .ok (.getfield 64, 3) := by decide +kernel
theorem dX8_givenOneMore_22 : decode cX8_givenOneMore 22 = .ok (.iload 6, 2) := by decide +kernel
theorem dX8_givenOneMore_24 : decode cX8_givenOneMore 24 = .ok (.iaload, 1) := by decide +kernel
theorem dX8_givenOneMore_25 : decode cX8_givenOneMore 25 = .ok (.iload_n 3, 1) := by decide +kernel
theorem dX8_givenOneMore_26 : decode cX8_givenOneMore 26 = .ok (.invokestatic 193, 3) := by decide +kernel
theorem dX8_givenOneMore_29 : decode cX8_givenOneMore 29 = .ok (.istore 7, 2) := by decide +kernel
theorem dX8_givenOneMore_31 : decode cX8_givenOneMore 31 = .ok (.iconst 0, 1) := by decide +kernel
theorem dX8_givenOneMore_32 : decode cX8_givenOneMore 32 = .ok (.istore 8, 2) := by decide +kernel
theorem dX8_givenOneMore_34 : decode cX8_givenOneMore 34 = .ok (.iload 7, 2) := by decide +kernel
theorem dX8_givenOneMore_36 : decode cX8_givenOneMore 36 = .ok (.ifCond .eq 51, 3) := by decide +kernel
theorem dX8_givenOneMore_39 : decode cX8_givenOneMore 39 = .ok (.iload 8, 2) := by decide +kernel
theorem dX8_givenOneMore_41 : decode cX8_givenOneMore 41 = .ok (.bipush 64, 2) := by decide +kernel
theorem dX8_givenOneMore_43 : decode cX8_givenOneMore 43 = .ok (.if_icmp .ge 44, 3) := by decide +kernel
theorem dX8_givenOneMore_46 : decode cX8_givenOneMore 46 = .ok (.lload_n 1, 1) := by decide +kernel
theorem dX8_givenOneMore_47 : decode cX8_givenOneMore 47 = .ok (.iload 8, 2) := by decide +kernel
theorem dX8_givenOneMore_49 : decode cX8_givenOneMore 49 = .ok (.lshr, 1) := by decide +kernel
theorem dX8_givenOneMore_50 : decode cX8_givenOneMore 50 = .ok (.lconst 1, 1) := by decide +kernel
theorem dX8_givenOneMore_51 : decode cX8_givenOneMore 51 = .ok (.land, 1) := by decide +kernel
theorem dX8_givenOneMore_52 : decode cX8_givenOneMore 52 = .ok (.lconst 1, 1) := by decide +kernel
theorem dX8_givenOneMore_53 : decode cX8_givenOneMore 53 = .ok (.lcmp, 1) := by decide +kernel
theorem dX8_givenOneMore_54 : decode cX8_givenOneMore 54 = .ok (.ifCond .ne 27, 3) := by decide +kernel
theorem dX8_givenOneMore_57 : decode cX8_givenOneMore 57 = .ok (.iload 8, 2) := by decide +kernel
theorem dX8_givenOneMore_59 : decode cX8_givenOneMore 59 = .ok (.iload 6, 2) := by decide +kernel
theorem dX8_givenOneMore_61 : decode cX8_givenOneMore 61 = .ok (.invokestatic 193, 3) := by decide +kernel
theorem dX8_givenOneMore_64 : decode cX8_givenOneMore 64 = .ok (.ifCond .ne 17, 3) := by decide +kernel
theorem dX8_givenOneMore_67 : decode cX8_givenOneMore 67 = .ok (.lload 4, 2) := by decide +kernel
theorem dX8_givenOneMore_69 : decode cX8_givenOneMore 69 = .ok (.lconst 1, 1) := by decide +kernel
theorem dX8_givenOneMore_70 : decode cX8_givenOneMore 70 = .ok (.iload 8, 2) := by decide +kernel
theorem dX8_givenOneMore_72 : decode cX8_givenOneMore 72 = .ok (.iconst 1, 1) := by decide +kernel
theorem dX8_givenOneMore_73 : decode cX8_givenOneMore 73 = .ok (.iload 6, 2) := by decide +kernel
theorem dX8_givenOneMore_75 : decode cX8_givenOneMore 75 = .ok (.ishl, 1) := by decide +kernel
theorem dX8_givenOneMore_76 : decode cX8_givenOneMore 76 = .ok (.ior, 1) := by decide +kernel
theorem dX8_givenOneMore_77 : decode cX8_givenOneMore 77 = .ok (.lshl, 1) := by decide +kernel
theorem dX8_givenOneMore_78 : decode cX8_givenOneMore 78 = .ok (.lor, 1) := by decide +kernel
theorem dX8_givenOneMore_79 : decode cX8_givenOneMore 79 = .ok (.lstore 4, 2) := by decide +kernel
theorem dX8_givenOneMore_81 : decode cX8_givenOneMore 81 = .ok (.iinc 8 1, 3) := by decide +kernel
theorem dX8_givenOneMore_84 : decode cX8_givenOneMore 84 = .ok (.goto (-50), 3) := by decide +kernel
theorem dX8_givenOneMore_87 : decode cX8_givenOneMore 87 = .ok (.iinc 6 1, 3) := by decide +kernel
theorem dX8_givenOneMore_90 : decode cX8_givenOneMore 90 = .ok (.goto (-84), 3) := by decide +kernel
theorem dX8_givenOneMore_93 : decode cX8_givenOneMore 93 = .ok (.lload 4, 2) := by decide +kernel
theorem dX8_givenOneMore_95 : decode cX8_givenOneMore 95 = .ok (.lreturn, 1) := by decide +kernel
theorem dX8_hear_0 : decode cX8_hear 0 = .ok (.iload_n 1, 1) := by decide +kernel
theorem dX8_hear_1 : decode cX8_hear 1 = .ok (.iconst (-1), 1) := by decide +kernel
theorem dX8_hear_2 : decode cX8_hear 2 = .ok (.if_icmp .ne 14, 3) := by decide +kernel
theorem dX8_hear_5 : decode cX8_hear 5 = .ok (.aload_n 0, 1) := by decide +kernel
theorem dX8_hear_6 : decode cX8_hear 6 = .ok (.getfield 12, 3) := by decide +kernel
theorem dX8_hear_9 : decode cX8_hear 9 = .ok (.getfield 255, 3) := by decide +kernel
theorem dX8_hear_12 : decode cX8_hear 12 = .ok (.invokevirtual 259, 3) := by decide +kernel
theorem dX8_hear_15 : decode cX8_hear 15 = .ok (.ireturn, 1) := by decide +kernel
theorem dX8_hear_16 : decode cX8_hear 16 = .ok (.aload_n 0, 1) := by decide +kernel
theorem dX8_hear_17 : decode cX8_hear 17 = .ok (.getfield 12, 3) := by decide +kernel
theorem dX8_hear_20 : decode cX8_hear 20 = .ok (.iload_n 1, 1) := by decide +kernel
theorem dX8_hear_21 : decode cX8_hear 21 = .ok (.invokevirtual 90, 3) := by decide +kernel
theorem dX8_hear_24 : decode cX8_hear 24 = .ok (.ifnull 10, 3) := by decide +kernel
theorem dX8_hear_27 : decode cX8_hear 27 = .ok (.iload_n 2, 1) := by decide +kernel
theorem dX8_hear_28 : decode cX8_hear 28 = .ok (.invokestatic 102, 3) := by decide +kernel
theorem dX8_hear_31 : decode cX8_hear 31 = .ok (.ifCond .ne 5, 3) := by decide +kernel
theorem dX8_hear_34 : decode cX8_hear 34 = .ok (.iconst (-1), 1) := by decide +kernel
theorem dX8_hear_35 : decode cX8_hear 35 = .ok (.ireturn, 1) := by decide +kernel
theorem dX8_hear_36 : decode cX8_hear 36 = .ok (.iload_n 3, 1) := by decide +kernel
theorem dX8_hear_37 : decode cX8_hear 37 = .ok (.iconst (-1), 1) := by decide +kernel
theorem dX8_hear_38 : decode cX8_hear 38 = .ok (.if_icmp .lt 8, 3) := by decide +kernel
theorem dX8_hear_41 : decode cX8_hear 41 = .ok (.iload_n 3, 1) := by decide +kernel
theorem dX8_hear_42 : decode cX8_hear 42 = .ok (.iconst 1, 1) := by decide +kernel
theorem dX8_hear_43 : decode cX8_hear 43 = .ok (.if_icmp .le 6, 3) := by decide +kernel
theorem dX8_hear_46 : decode cX8_hear 46 = .ok (.bipush (-2), 2) := by decide +kernel
theorem dX8_hear_48 : decode cX8_hear 48 = .ok (.ireturn, 1) := by decide +kernel
theorem dX8_hear_49 : decode cX8_hear 49 = .ok (.aload_n 0, 1) := by decide +kernel
theorem dX8_hear_50 : decode cX8_hear 50 = .ok (.getfield 12, 3) := by decide +kernel
theorem dX8_hear_53 : decode cX8_hear 53 = .ok (.getfield 255, 3) := by decide +kernel
theorem dX8_hear_56 : decode cX8_hear 56 = .ok (.iload_n 1, 1) := by decide +kernel
theorem dX8_hear_57 : decode cX8_hear 57 = .ok (.iload_n 2, 1) := by decide +kernel
theorem dX8_hear_58 : decode cX8_hear 58 = .ok (.iload_n 3, 1) := by decide +kernel
theorem dX8_hear_59 : decode cX8_hear 59 = .ok (.invokevirtual 264, 3) := by decide +kernel
theorem dX8_hear_62 : decode cX8_hear 62 = .ok (.ireturn, 1) := by decide +kernel
theorem dX8_can_0 : decode cX8_can 0 = .ok (.aload_n 0, 1) := by decide +kernel
theorem dX8_can_1 : decode cX8_can 1 = .ok (.getfield 12, 3) := by decide +kernel
theorem dX8_can_4 : decode cX8_can 4 = .ok (.iload_n 1, 1) := by decide +kernel
theorem dX8_can_5 : decode cX8_can 5 = .ok (.invokevirtual 90, 3) := by decide +kernel
theorem dX8_can_8 : decode cX8_can 8 = .ok (.astore_n 3, 1) := by decide +kernel
theorem dX8_can_9 : decode cX8_can 9 = .ok (.aload_n 3, 1) := by decide +kernel
theorem dX8_can_10 : decode cX8_can 10 = .ok (.ifnull 12, 3) := by decide +kernel
theorem dX8_can_13 : decode cX8_can 13 = .ok (.iload_n 2, 1) := by decide +kernel
theorem dX8_can_14 : decode cX8_can 14 = .ok (.ifCond .eq 10, 3) := by decide +kernel
theorem dX8_can_17 : decode cX8_can 17 = .ok (.iload_n 2, 1) := by decide +kernel
theorem dX8_can_18 : decode cX8_can 18 = .ok (.iconst 1, 1) := by decide +kernel
theorem dX8_can_19 : decode cX8_can 19 = .ok (.if_icmp .eq 5, 3) := by decide +kernel
theorem dX8_can_22 : decode cX8_can 22 = .ok (.iconst (-1), 1) := by decide +kernel
theorem dX8_can_23 : decode cX8_can 23 = .ok (.ireturn, 1) := by decide +kernel
theorem dX8_can_24 : decode cX8_can 24 = .ok (.aload_n 0, 1) := by decide +kernel
theorem dX8_can_25 : decode cX8_can 25 = .ok (.aload_n 3, 1) := by decide +kernel
theorem dX8_can_26 : decode cX8_can 26 = .ok (.invokevirtual 266, 3) := by decide +kernel
theorem dX8_can_29 : decode cX8_can 29 = .ok (.istore 4, 2) := by decide +kernel
theorem dX8_can_31 : decode cX8_can 31 = .ok (.iload_n 2, 1) := by decide +kernel
theorem dX8_can_32 : decode cX8_can 32 = .ok (.ifCond .ne 11, 3) := by decide +kernel
theorem dX8_can_35 : decode cX8_can 35 = .ok (.iload 4, 2) := by decide +kernel
theorem dX8_can_37 : decode cX8_can 37 = .ok (.invokestatic 240, 3) := by decide +kernel
theorem dX8_can_40 : decode cX8_can 40 = .ok (.goto 8, 3) := by decide +kernel
theorem dX8_can_43 : decode cX8_can 43 = .ok (.iload 4, 2) := by decide +kernel
theorem dX8_can_45 : decode cX8_can 45 = .ok (.invokestatic 269, 3) := by decide +kernel
theorem dX8_can_48 : decode cX8_can 48 = .ok (.ireturn, 1) := by decide +kernel
theorem dX8_odds_0 : decode cX8_odds 0 = .ok (.iload_n 1, 1) := by decide +kernel
theorem dX8_odds_1 : decode cX8_odds 1 = .ok (.invokestatic 102, 3) := by decide +kernel
theorem dX8_odds_4 : decode cX8_odds 4 = .ok (.ifCond .eq 12, 3) := by decide +kernel
theorem dX8_odds_7 : decode cX8_odds 7 = .ok (.iload_n 2, 1) := by decide +kernel
theorem dX8_odds_8 : decode cX8_odds 8 = .ok (.ifCond .eq 12, 3) := by decide +kernel
theorem dX8_odds_11 : decode cX8_odds 11 = .ok (.iload_n 2, 1) := by decide +kernel
theorem dX8_odds_12 : decode cX8_odds 12 = .ok (.iconst 1, 1) := by decide +kernel
theorem dX8_odds_13 : decode cX8_odds 13 = .ok (.if_icmp .eq 7, 3) := by decide +kernel
theorem dX8_odds_16 : decode cX8_odds 16 = .ok (.ldc2_w 272, 3) := by decide +kernel
theorem dX8_odds_19 : decode cX8_odds 19 = .ok (.lreturn, 1) := by decide +kernel
theorem dX8_odds_20 : decode cX8_odds 20 = .ok (.aload_n 0, 1) := by decide +kernel
theorem dX8_odds_21 : decode cX8_odds 21 = .ok (.invokevirtual 155, 3) := by decide +kernel
theorem dX8_odds_24 : decode cX8_odds 24 = .ok (.aload_n 0, 1) := by decide +kernel
theorem dX8_odds_25 : decode cX8_odds 25 = .ok (.getfield 60, 3) := by decide +kernel
theorem dX8_odds_28 : decode cX8_odds 28 = .ok (.getfield 162, 3) := by decide +kernel
theorem dX8_odds_31 : decode cX8_odds 31 = .ok (.ifCond .ne 7, 3) := by decide +kernel
theorem dX8_odds_34 : decode cX8_odds 34 = .ok (.ldc2_w 272, 3) := by decide +kernel
theorem dX8_odds_37 : decode cX8_odds 37 = .ok (.lreturn, 1) := by decide +kernel
theorem dX8_odds_38 : decode cX8_odds 38 = .ok (.aload_n 0, 1) := by decide +kernel
theorem dX8_odds_39 : decode cX8_odds 39 = .ok (.getfield 60, 3) := by decide +kernel
theorem dX8_odds_42 : decode cX8_odds 42 = .ok (.getfield 168, 3) := by decide +kernel
theorem dX8_odds_45 : decode cX8_odds 45 = .ok (.iload_n 1, 1) := by decide +kernel
theorem dX8_odds_46 : decode cX8_odds 46 = .ok (.invokestatic 193, 3) := by decide +kernel
theorem dX8_odds_49 : decode cX8_odds 49 = .ok (.istore_n 3, 1) := by decide +kernel
theorem dX8_odds_50 : decode cX8_odds 50 = .ok (.iload_n 2, 1) := by decide +kernel
theorem dX8_odds_51 : decode cX8_odds 51 = .ok (.iconst 1, 1) := by decide +kernel
theorem dX8_odds_52 : decode cX8_odds 52 = .ok (.if_icmp .ne 15, 3) := by decide +kernel
theorem dX8_odds_55 : decode cX8_odds 55 = .ok (.iload_n 3, 1) := by decide +kernel
theorem dX8_odds_56 : decode cX8_odds 56 = .ok (.ifCond .eq 7, 3) := by decide +kernel
theorem dX8_odds_59 : decode cX8_odds 59 = .ok (.lconst 1, 1) := by decide +kernel
theorem dX8_odds_60 : decode cX8_odds 60 = .ok (.goto 6, 3) := by decide +kernel
theorem dX8_odds_63 : decode cX8_odds 63 = .ok (.ldc2_w 274, 3) := by decide +kernel
theorem dX8_odds_66 : decode cX8_odds 66 = .ok (.lreturn, 1) := by decide +kernel
theorem dX8_odds_67 : decode cX8_odds 67 = .ok (.iload_n 3, 1) := by decide +kernel
theorem dX8_odds_68 : decode cX8_odds 68 = .ok (.ifCond .eq 21, 3) := by decide +kernel
theorem dX8_odds_71 : decode cX8_odds 71 = .ok (.aload_n 0, 1) := by decide +kernel
theorem dX8_odds_72 : decode cX8_odds 72 = .ok (.getfield 60, 3) := by decide +kernel
theorem dX8_odds_75 : decode cX8_odds 75 = .ok (.getfield 165, 3) := by decide +kernel
theorem dX8_odds_78 : decode cX8_odds 78 = .ok (.iload_n 1, 1) := by decide +kernel
theorem dX8_odds_79 : decode cX8_odds 79 = .ok (.invokestatic 193, 3) := by decide +kernel
theorem dX8_odds_82 : decode cX8_odds 82 = .ok (.ifCond .ne 7, 3) := by decide +kernel
theorem dX8_odds_85 : decode cX8_odds 85 = .ok (.lconst 0, 1) := by decide +kernel
theorem dX8_odds_86 : decode cX8_odds 86 = .ok (.goto 4, 3) := by decide +kernel
theorem dX8_odds_89 : decode cX8_odds 89 = .ok (.lconst 1, 1) := by decide +kernel
theorem dX8_odds_90 : decode cX8_odds 90 = .ok (.lreturn, 1) := by decide +kernel
theorem dX8_mean_0 : decode cX8_mean 0 = .ok (.iload_n 1, 1) := by decide +kernel
theorem dX8_mean_1 : decode cX8_mean 1 = .ok (.ifCond .lt 28, 3) := by decide +kernel
theorem dX8_mean_4 : decode cX8_mean 4 = .ok (.iload_n 1, 1) := by decide +kernel
theorem dX8_mean_5 : decode cX8_mean 5 = .ok (.bipush 60, 2) := by decide +kernel
theorem dX8_mean_7 : decode cX8_mean 7 = .ok (.if_icmp .gt 22, 3) := by decide +kernel
theorem dX8_mean_10 : decode cX8_mean 10 = .ok (.iload_n 2, 1) := by decide +kernel
theorem dX8_mean_11 : decode cX8_mean 11 = .ok (.ifCond .eq 8, 3) := by decide +kernel
theorem dX8_mean_14 : decode cX8_mean 14 = .ok (.iload_n 2, 1) := by decide +kernel
theorem dX8_mean_15 : decode cX8_mean 15 = .ok (.iconst 1, 1) := by decide +kernel
theorem dX8_mean_16 : decode cX8_mean 16 = .ok (.if_icmp .ne 13, 3) := by decide +kernel
theorem dX8_mean_19 : decode cX8_mean 19 = .ok (.aload_n 0, 1) := by decide +kernel
theorem dX8_mean_20 : decode cX8_mean 20 = .ok (.getfield 12, 3) := by decide +kernel
theorem dX8_mean_23 : decode cX8_mean 23 = .ok (.getfield 208, 3) := by decide +kernel
theorem dX8_mean_26 : decode cX8_mean 26 = .ok (.ifCond .ne 7, 3) := by decide +kernel
theorem dX8_mean_29 : decode cX8_mean 29 = .ok (.ldc2_w 272, 3) := by decide +kernel
theorem dX8_mean_32 : decode cX8_mean 32 = .ok (.lreturn, 1) := by decide +kernel
theorem dX8_mean_33 : decode cX8_mean 33 = .ok (.aload_n 0, 1) := by decide +kernel
theorem dX8_mean_34 : decode cX8_mean 34 = .ok (.getfield 21, 3) := by decide +kernel
theorem dX8_mean_37 : decode cX8_mean 37 = .ok (.aload_n 0, 1) := by decide +kernel
theorem dX8_mean_38 : decode cX8_mean 38 = .ok (.getfield 12, 3) := by decide +kernel
theorem dX8_mean_41 : decode cX8_mean 41 = .ok (.invokevirtual 224, 3) := by decide +kernel
theorem dX8_mean_44 : decode cX8_mean 44 = .ok (.aload_n 0, 1) := by decide +kernel
theorem dX8_mean_45 : decode cX8_mean 45 = .ok (.getfield 21, 3) := by decide +kernel
theorem dX8_mean_48 : decode cX8_mean 48 = .ok (.iload_n 1, 1) := by decide +kernel
theorem dX8_mean_49 : decode cX8_mean 49 = .ok (.aload_n 0, 1) := by decide +kernel
theorem dX8_mean_50 : decode cX8_mean 50 = .ok (.invokevirtual 146, 3) := by decide +kernel
theorem dX8_mean_53 : decode cX8_mean 53 = .ok (.getfield 149, 3) := by decide +kernel
theorem dX8_mean_56 : decode cX8_mean 56 = .ok (.invokevirtual 220, 3) := by decide +kernel
theorem dX8_mean_59 : decode cX8_mean 59 = .ok (.aload_n 0, 1) := by decide +kernel
theorem dX8_mean_60 : decode cX8_mean 60 = .ok (.getfield 21, 3) := by decide +kernel
theorem dX8_mean_63 : decode cX8_mean 63 = .ok (.invokevirtual 228, 3) := by decide +kernel
theorem dX8_mean_66 : decode cX8_mean 66 = .ok (.istore_n 3, 1) := by decide +kernel
theorem dX8_mean_67 : decode cX8_mean 67 = .ok (.aload_n 0, 1) := by decide +kernel
theorem dX8_mean_68 : decode cX8_mean 68 = .ok (.getfield 21, 3) := by decide +kernel
theorem dX8_mean_71 : decode cX8_mean 71 = .ok (.getfield 208, 3) := by decide +kernel
theorem dX8_mean_74 : decode cX8_mean 74 = .ok (.istore 4, 2) := by decide +kernel
theorem dX8_mean_76 : decode cX8_mean 76 = .ok (.iload_n 3, 1) := by decide +kernel
theorem dX8_mean_77 : decode cX8_mean 77 = .ok (.iload 4, 2) := by decide +kernel
theorem dX8_mean_79 : decode cX8_mean 79 = .ok (.invokestatic 276, 3) := by decide +kernel
theorem dX8_mean_82 : decode cX8_mean 82 = .ok (.istore 5, 2) := by decide +kernel
theorem dX8_mean_84 : decode cX8_mean 84 = .ok (.iload 5, 2) := by decide +kernel
theorem dX8_mean_86 : decode cX8_mean 86 = .ok (.ifCond .ne 7, 3) := by decide +kernel
theorem dX8_mean_89 : decode cX8_mean 89 = .ok (.ldc2_w 272, 3) := by decide +kernel
theorem dX8_mean_92 : decode cX8_mean 92 = .ok (.lreturn, 1) := by decide +kernel
theorem dX8_mean_93 : decode cX8_mean 93 = .ok (.iload_n 2, 1) := by decide +kernel
theorem dX8_mean_94 : decode cX8_mean 94 = .ok (.ifCond .ne 7, 3) := by decide +kernel
theorem dX8_mean_97 : decode cX8_mean 97 = .ok (.iload_n 3, 1) := by decide +kernel
theorem dX8_mean_98 : decode cX8_mean 98 = .ok (.goto 5, 3) := by decide +kernel
theorem dX8_mean_101 : decode cX8_mean 101 = .ok (.iload 4, 2) := by decide +kernel
theorem dX8_mean_103 : decode cX8_mean 103 = .ok (.iload 5, 2) := by decide +kernel
theorem dX8_mean_105 : decode cX8_mean 105 = .ok (.idiv, 1) := by decide +kernel
theorem dX8_mean_106 : decode cX8_mean 106 = .ok (.i2l, 1) := by decide +kernel
theorem dX8_mean_107 : decode cX8_mean 107 = .ok (.lreturn, 1) := by decide +kernel
theorem dX8_commonDivisor_0 : decode cX8_commonDivisor 0 = .ok (.iload_n 0, 1) := by decide +kernel
theorem dX8_commonDivisor_1 : decode cX8_commonDivisor 1 = .ok (.istore_n 2, 1) := by decide +kernel
theorem dX8_commonDivisor_2 : decode cX8_commonDivisor 2 = .ok (.iload_n 1, 1) := by decide +kernel
theorem dX8_commonDivisor_3 : decode cX8_commonDivisor 3 = .ok (.istore_n 3, 1) := by decide +kernel
theorem dX8_commonDivisor_4 : decode cX8_commonDivisor 4 = .ok (.iconst 0, 1) := by decide +kernel
theorem dX8_commonDivisor_5 : decode cX8_commonDivisor 5 = .ok (.istore 4, 2) := by decide +kernel
theorem dX8_commonDivisor_7 : decode cX8_commonDivisor 7 = .ok (.iload 4, 2) := by decide +kernel
theorem dX8_commonDivisor_9 : decode cX8_commonDivisor 9 = .ok (.bipush 64, 2) := by decide +kernel
theorem dX8_commonDivisor_11 : decode cX8_commonDivisor 11 = .ok (.if_icmp .ge 23, 3) := by decide +kernel
theorem dX8_commonDivisor_14 : decode cX8_commonDivisor 14 = .ok (.iload_n 3, 1) := by decide +kernel
theorem dX8_commonDivisor_15 : decode cX8_commonDivisor 15 = .ok (.ifCond .eq 19, 3) := by decide +kernel
theorem dX8_commonDivisor_18 : decode cX8_commonDivisor 18 = .ok (.iload_n 2, 1) := by decide +kernel
theorem dX8_commonDivisor_19 : decode cX8_commonDivisor 19 = .ok (.iload_n 3, 1) := by decide +kernel
theorem dX8_commonDivisor_20 : decode cX8_commonDivisor 20 = .ok (.irem, 1) := by decide +kernel
theorem dX8_commonDivisor_21 : decode cX8_commonDivisor 21 = .ok (.istore 5, 2) := by decide +kernel
theorem dX8_commonDivisor_23 : decode cX8_commonDivisor 23 = .ok (.iload_n 3, 1) := by decide +kernel
theorem dX8_commonDivisor_24 : decode cX8_commonDivisor 24 = .ok (.istore_n 2, 1) := by decide +kernel
theorem dX8_commonDivisor_25 : decode cX8_commonDivisor 25 = .ok (.iload 5, 2) := by decide +kernel
theorem dX8_commonDivisor_27 : decode cX8_commonDivisor 27 = .ok (.istore_n 3, 1) := by decide +kernel
theorem dX8_commonDivisor_28 : decode cX8_commonDivisor 28 = .ok (.iinc 4 1, 3) := by decide +kernel
theorem dX8_commonDivisor_31 : decode cX8_commonDivisor 31 = .ok (.goto (-24), 3) := by decide +kernel
theorem dX8_commonDivisor_34 : decode cX8_commonDivisor 34 = .ok (.iload_n 2, 1) := by decide +kernel
theorem dX8_commonDivisor_35 : decode cX8_commonDivisor 35 = .ok (.ireturn, 1) := by decide +kernel
theorem dX8_gatherFits_0 : decode cX8_gatherFits 0 = .ok (.aload_n 0, 1) := by decide +kernel
theorem dX8_gatherFits_1 : decode cX8_gatherFits 1 = .ok (.getfield 60, 3) := by decide +kernel
theorem dX8_gatherFits_4 : decode cX8_gatherFits 4 = .ok (.invokevirtual 279, 3) := by decide +kernel
theorem dX8_gatherFits_7 : decode cX8_gatherFits 7 = .ok (.aload_n 0, 1) := by decide +kernel
theorem dX8_gatherFits_8 : decode cX8_gatherFits 8 = .ok (.getfield 12, 3) := by decide +kernel
theorem dX8_gatherFits_11 : decode cX8_gatherFits 11 = .ok (.getfield 255, 3) := by decide +kernel
theorem dX8_gatherFits_14 : decode cX8_gatherFits 14 = .ok (.astore_n 1, 1) := by decide +kernel
theorem dX8_gatherFits_15 : decode cX8_gatherFits 15 = .ok (.iconst 0, 1) := by decide +kernel
theorem dX8_gatherFits_16 : decode cX8_gatherFits 16 = .ok (.istore_n 2, 1) := by decide +kernel
theorem dX8_gatherFits_17 : decode cX8_gatherFits 17 = .ok (.iload_n 2, 1) := by decide +kernel
theorem dX8_gatherFits_18 : decode cX8_gatherFits 18 = .ok (.aload_n 1, 1) := by decide +kernel
theorem dX8_gatherFits_19 : decode cX8_gatherFits 19 = .ok (.getfield 282, 3) := by decide +kernel
theorem dX8_gatherFits_22 : decode cX8_gatherFits 22 = .ok (.if_icmp .ge 60, 3) := by decide +kernel
theorem dX8_gatherFits_25 : decode cX8_gatherFits 25 = .ok (.aload_n 0, 1) := by decide +kernel
theorem dX8_gatherFits_26 : decode cX8_gatherFits 26 = .ok (.getfield 12, 3) := by decide +kernel
theorem dX8_gatherFits_29 : decode cX8_gatherFits 29 = .ok (.aload_n 1, 1) := by decide +kernel
theorem dX8_gatherFits_30 : decode cX8_gatherFits 30 = .ok (.getfield 284, 3) := by decide +kernel
theorem dX8_gatherFits_33 : decode cX8_gatherFits 33 = .ok (.iload_n 2, 1) := by decide +kernel
theorem dX8_gatherFits_34 : decode cX8_gatherFits 34 = .ok (.iaload, 1) := by decide +kernel
theorem dX8_gatherFits_35 : decode cX8_gatherFits 35 = .ok (.invokevirtual 90, 3) := by decide +kernel
theorem dX8_gatherFits_38 : decode cX8_gatherFits 38 = .ok (.astore_n 3, 1) := by decide +kernel
theorem dX8_gatherFits_39 : decode cX8_gatherFits 39 = .ok (.aload_n 3, 1) := by decide +kernel
theorem dX8_gatherFits_40 : decode cX8_gatherFits 40 = .ok (.ifnull 36, 3) := by decide +kernel
theorem dX8_gatherFits_43 : decode cX8_gatherFits 43 = .ok (.aload_n 1, 1) := by decide +kernel
theorem dX8_gatherFits_44 : decode cX8_gatherFits 44 = .ok (.getfield 287, 3) := by decide +kernel
theorem dX8_gatherFits_47 : decode cX8_gatherFits 47 = .ok (.iload_n 2, 1) := by decide +kernel
theorem dX8_gatherFits_48 : decode cX8_gatherFits 48 = .ok (.iaload, 1) := by decide +kernel
theorem dX8_gatherFits_49 : decode cX8_gatherFits 49 = .ok (.istore 4, 2) := by decide +kernel
theorem dX8_gatherFits_51 : decode cX8_gatherFits 51 = .ok (.aload_n 0, 1) := by decide +kernel
theorem dX8_gatherFits_52 : decode cX8_gatherFits 52 = .ok (.getfield 60, 3) := by decide +kernel
theorem dX8_gatherFits_55 : decode cX8_gatherFits 55 = .ok (.iload 4, 2) := by decide +kernel
theorem dX8_gatherFits_57 : decode cX8_gatherFits 57 = .ok (.aload_n 0, 1) := by decide +kernel
theorem dX8_gatherFits_58 : decode cX8_gatherFits 58 = .ok (.aload_n 3, 1) := by decide +kernel
theorem dX8_gatherFits_59 : decode cX8_gatherFits 59 = .ok (.iload 4, 2) := by decide +kernel
theorem dX8_gatherFits_61 : decode cX8_gatherFits 61 = .ok (.invokevirtual 105, 3) := by decide +kernel
theorem dX8_gatherFits_64 : decode cX8_gatherFits 64 = .ok (.invokestatic 190, 3) := by decide +kernel
theorem dX8_gatherFits_67 : decode cX8_gatherFits 67 = .ok (.aload_n 1, 1) := by decide +kernel
theorem dX8_gatherFits_68 : decode cX8_gatherFits 68 = .ok (.getfield 290, 3) := by decide +kernel
theorem dX8_gatherFits_71 : decode cX8_gatherFits 71 = .ok (.iload_n 2, 1) := by decide +kernel
theorem dX8_gatherFits_72 : decode cX8_gatherFits 72 = .ok (.iaload, 1) := by decide +kernel
theorem dX8_gatherFits_73 : decode cX8_gatherFits 73 = .ok (.invokevirtual 293, 3) := by decide +kernel
theorem dX8_gatherFits_76 : decode cX8_gatherFits 76 = .ok (.iinc 2 1, 3) := by decide +kernel
theorem dX8_gatherFits_79 : decode cX8_gatherFits 79 = .ok (.goto (-62), 3) := by decide +kernel
theorem dX8_gatherFits_82 : decode cX8_gatherFits 82 = .ok (.return_, 1) := by decide +kernel
theorem dX8_nextToAsk_0 : decode cX8_nextToAsk 0 = .ok (.aload_n 0, 1) := by decide +kernel
theorem dX8_nextToAsk_1 : decode cX8_nextToAsk 1 = .ok (.getfield 60, 3) := by decide +kernel
theorem dX8_nextToAsk_4 : decode cX8_nextToAsk 4 = .ok (.getfield 162, 3) := by decide +kernel
theorem dX8_nextToAsk_7 : decode cX8_nextToAsk 7 = .ok (.ifCond .ne 6, 3) := by decide +kernel
theorem dX8_nextToAsk_10 : decode cX8_nextToAsk 10 = .ok (.bipush (-5), 2) := by decide +kernel
theorem dX8_nextToAsk_12 : decode cX8_nextToAsk 12 = .ok (.ireturn, 1) := by decide +kernel
theorem dX8_nextToAsk_13 : decode cX8_nextToAsk 13 = .ok (.bipush (-5), 2) := by decide +kernel
theorem dX8_nextToAsk_15 : decode cX8_nextToAsk 15 = .ok (.istore_n 1, 1) := by decide +kernel
theorem dX8_nextToAsk_16 : decode cX8_nextToAsk 16 = .ok (.aload_n 0, 1) := by decide +kernel
theorem dX8_nextToAsk_17 : decode cX8_nextToAsk 17 = .ok (.getfield 60, 3) := by decide +kernel
theorem dX8_nextToAsk_20 : decode cX8_nextToAsk 20 = .ok (.invokevirtual 158, 3) := by decide +kernel
theorem dX8_nextToAsk_23 : decode cX8_nextToAsk 23 = .ok (.iconst 1, 1) := by decide +kernel
theorem dX8_nextToAsk_24 : decode cX8_nextToAsk 24 = .ok (.iadd, 1) := by decide +kernel
theorem dX8_nextToAsk_25 : decode cX8_nextToAsk 25 = .ok (.istore_n 2, 1) := by decide +kernel
theorem dX8_nextToAsk_26 : decode cX8_nextToAsk 26 = .ok (.iconst 0, 1) := by decide +kernel
theorem dX8_nextToAsk_27 : decode cX8_nextToAsk 27 = .ok (.istore_n 3, 1) := by decide +kernel
theorem dX8_nextToAsk_28 : decode cX8_nextToAsk 28 = .ok (.iload_n 3, 1) := by decide +kernel
theorem dX8_nextToAsk_29 : decode cX8_nextToAsk 29 = .ok (.aload_n 0, 1) := by decide +kernel
theorem dX8_nextToAsk_30 : decode cX8_nextToAsk 30 = .ok (.getfield 12, 3) := by decide +kernel
theorem dX8_nextToAsk_33 : decode cX8_nextToAsk 33 = .ok (.getfield 208, 3) := by decide +kernel
theorem dX8_nextToAsk_36 : decode cX8_nextToAsk 36 = .ok (.if_icmp .ge 71, 3) := by decide +kernel
theorem dX8_nextToAsk_39 : decode cX8_nextToAsk 39 = .ok (.iconst 0, 1) := by decide +kernel
theorem dX8_nextToAsk_40 : decode cX8_nextToAsk 40 = .ok (.istore 4, 2) := by decide +kernel
theorem dX8_nextToAsk_42 : decode cX8_nextToAsk 42 = .ok (.iload 4, 2) := by decide +kernel
theorem dX8_nextToAsk_44 : decode cX8_nextToAsk 44 = .ok (.bipush 8, 2) := by decide +kernel
theorem dX8_nextToAsk_46 : decode cX8_nextToAsk 46 = .ok (.if_icmp .ge 55, 3) := by decide +kernel
theorem dX8_nextToAsk_49 : decode cX8_nextToAsk 49 = .ok (.aload_n 0, 1) := by decide +kernel
theorem dX8_nextToAsk_50 : decode cX8_nextToAsk 50 = .ok (.getfield 60, 3) := by decide +kernel
theorem dX8_nextToAsk_53 : decode cX8_nextToAsk 53 = .ok (.iload 4, 2) := by decide +kernel
theorem dX8_nextToAsk_55 : decode cX8_nextToAsk 55 = .ok (.aload_n 0, 1) := by decide +kernel
theorem dX8_nextToAsk_56 : decode cX8_nextToAsk 56 = .ok (.aload_n 0, 1) := by decide +kernel
theorem dX8_nextToAsk_57 : decode cX8_nextToAsk 57 = .ok (.getfield 12, 3) := by decide +kernel
theorem dX8_nextToAsk_60 : decode cX8_nextToAsk 60 = .ok (.getfield 211, 3) := by decide +kernel
theorem dX8_nextToAsk_63 : decode cX8_nextToAsk 63 = .ok (.iload_n 3, 1) := by decide +kernel
theorem dX8_nextToAsk_64 : decode cX8_nextToAsk 64 = .ok (.aaload, 1) := by decide +kernel
theorem dX8_nextToAsk_65 : decode cX8_nextToAsk 65 = .ok (.iload 4, 2) := by decide +kernel
theorem dX8_nextToAsk_67 : decode cX8_nextToAsk 67 = .ok (.invokevirtual 105, 3) := by decide +kernel
theorem dX8_nextToAsk_70 : decode cX8_nextToAsk 70 = .ok (.invokestatic 190, 3) := by decide +kernel
theorem dX8_nextToAsk_73 : decode cX8_nextToAsk 73 = .ok (.invokevirtual 297, 3) := by decide +kernel
theorem dX8_nextToAsk_76 : decode cX8_nextToAsk 76 = .ok (.istore 5, 2) := by decide +kernel
theorem dX8_nextToAsk_78 : decode cX8_nextToAsk 78 = .ok (.iload 5, 2) := by decide +kernel
theorem dX8_nextToAsk_80 : decode cX8_nextToAsk 80 = .ok (.iload_n 2, 1) := by decide +kernel
theorem dX8_nextToAsk_81 : decode cX8_nextToAsk 81 = .ok (.if_icmp .ge 14, 3) := by decide +kernel
theorem dX8_nextToAsk_84 : decode cX8_nextToAsk 84 = .ok (.iload 5, 2) := by decide +kernel
theorem dX8_nextToAsk_86 : decode cX8_nextToAsk 86 = .ok (.istore_n 2, 1) := by decide +kernel
theorem dX8_nextToAsk_87 : decode cX8_nextToAsk 87 = .ok (.bipush 10, 2) := by decide +kernel
theorem dX8_nextToAsk_89 : decode cX8_nextToAsk 89 = .ok (.iload_n 3, 1) := by decide +kernel
theorem dX8_nextToAsk_90 : decode cX8_nextToAsk 90 = .ok (.imul, 1) := by decide +kernel
theorem dX8_nextToAsk_91 : decode cX8_nextToAsk 91 = .ok (.iload 4, 2) := by decide +kernel
theorem dX8_nextToAsk_93 : decode cX8_nextToAsk 93 = .ok (.iadd, 1) := by decide +kernel
theorem dX8_nextToAsk_94 : decode cX8_nextToAsk 94 = .ok (.istore_n 1, 1) := by decide +kernel
theorem dX8_nextToAsk_95 : decode cX8_nextToAsk 95 = .ok (.iinc 4 1, 3) := by decide +kernel
theorem dX8_nextToAsk_98 : decode cX8_nextToAsk 98 = .ok (.goto (-56), 3) := by decide +kernel
theorem dX8_nextToAsk_101 : decode cX8_nextToAsk 101 = .ok (.iinc 3 1, 3) := by decide +kernel
theorem dX8_nextToAsk_104 : decode cX8_nextToAsk 104 = .ok (.goto (-76), 3) := by decide +kernel
theorem dX8_nextToAsk_107 : decode cX8_nextToAsk 107 = .ok (.iload_n 1, 1) := by decide +kernel
theorem dX8_nextToAsk_108 : decode cX8_nextToAsk 108 = .ok (.ireturn, 1) := by decide +kernel
theorem dX8_bearsOut_0 : decode cX8_bearsOut 0 = .ok (.aload_n 0, 1) := by decide +kernel
theorem dX8_bearsOut_1 : decode cX8_bearsOut 1 = .ok (.getfield 12, 3) := by decide +kernel
theorem dX8_bearsOut_4 : decode cX8_bearsOut 4 = .ok (.getfield 255, 3) := by decide +kernel
theorem dX8_bearsOut_7 : decode cX8_bearsOut 7 = .ok (.astore_n 2, 1) := by decide +kernel
theorem dX8_bearsOut_8 : decode cX8_bearsOut 8 = .ok (.iconst 0, 1) := by decide +kernel
theorem dX8_bearsOut_9 : decode cX8_bearsOut 9 = .ok (.istore_n 3, 1) := by decide +kernel
theorem dX8_bearsOut_10 : decode cX8_bearsOut 10 = .ok (.iload_n 3, 1) := by decide +kernel
theorem dX8_bearsOut_11 : decode cX8_bearsOut 11 = .ok (.aload_n 2, 1) := by decide +kernel
theorem dX8_bearsOut_12 : decode cX8_bearsOut 12 = .ok (.getfield 282, 3) := by decide +kernel
theorem dX8_bearsOut_15 : decode cX8_bearsOut 15 = .ok (.if_icmp .ge 59, 3) := by decide +kernel
theorem dX8_bearsOut_18 : decode cX8_bearsOut 18 = .ok (.aload_n 2, 1) := by decide +kernel
theorem dX8_bearsOut_19 : decode cX8_bearsOut 19 = .ok (.getfield 284, 3) := by decide +kernel
theorem dX8_bearsOut_22 : decode cX8_bearsOut 22 = .ok (.iload_n 3, 1) := by decide +kernel
theorem dX8_bearsOut_23 : decode cX8_bearsOut 23 = .ok (.iaload, 1) := by decide +kernel
theorem dX8_bearsOut_24 : decode cX8_bearsOut 24 = .ok (.aload_n 1, 1) := by decide +kernel
theorem dX8_bearsOut_25 : decode cX8_bearsOut 25 = .ok (.getfield 300, 3) := by decide +kernel
theorem dX8_bearsOut_28 : decode cX8_bearsOut 28 = .ok (.if_icmp .ne 40, 3) := by decide +kernel
theorem dX8_bearsOut_31 : decode cX8_bearsOut 31 = .ok (.aload_n 0, 1) := by decide +kernel
theorem dX8_bearsOut_32 : decode cX8_bearsOut 32 = .ok (.aload_n 1, 1) := by decide +kernel
theorem dX8_bearsOut_33 : decode cX8_bearsOut 33 = .ok (.aload_n 2, 1) := by decide +kernel
theorem dX8_bearsOut_34 : decode cX8_bearsOut 34 = .ok (.getfield 287, 3) := by decide +kernel
theorem dX8_bearsOut_37 : decode cX8_bearsOut 37 = .ok (.iload_n 3, 1) := by decide +kernel
theorem dX8_bearsOut_38 : decode cX8_bearsOut 38 = .ok (.iaload, 1) := by decide +kernel
theorem dX8_bearsOut_39 : decode cX8_bearsOut 39 = .ok (.invokevirtual 108, 3) := by decide +kernel
theorem dX8_bearsOut_42 : decode cX8_bearsOut 42 = .ok (.istore 4, 2) := by decide +kernel
theorem dX8_bearsOut_44 : decode cX8_bearsOut 44 = .ok (.iload 4, 2) := by decide +kernel
theorem dX8_bearsOut_46 : decode cX8_bearsOut 46 = .ok (.bipush (-5), 2) := by decide +kernel
theorem dX8_bearsOut_48 : decode cX8_bearsOut 48 = .ok (.if_icmp .ne 7, 3) := by decide +kernel
theorem dX8_bearsOut_51 : decode cX8_bearsOut 51 = .ok (.iconst (-1), 1) := by decide +kernel
theorem dX8_bearsOut_52 : decode cX8_bearsOut 52 = .ok (.goto 5, 3) := by decide +kernel
theorem dX8_bearsOut_55 : decode cX8_bearsOut 55 = .ok (.iload 4, 2) := by decide +kernel
theorem dX8_bearsOut_57 : decode cX8_bearsOut 57 = .ok (.aload_n 2, 1) := by decide +kernel
theorem dX8_bearsOut_58 : decode cX8_bearsOut 58 = .ok (.getfield 290, 3) := by decide +kernel
theorem dX8_bearsOut_61 : decode cX8_bearsOut 61 = .ok (.iload_n 3, 1) := by decide +kernel
theorem dX8_bearsOut_62 : decode cX8_bearsOut 62 = .ok (.iaload, 1) := by decide +kernel
theorem dX8_bearsOut_63 : decode cX8_bearsOut 63 = .ok (.if_icmp .eq 5, 3) := by decide +kernel
theorem dX8_bearsOut_66 : decode cX8_bearsOut 66 = .ok (.iconst 0, 1) := by decide +kernel
theorem dX8_bearsOut_67 : decode cX8_bearsOut 67 = .ok (.ireturn, 1) := by decide +kernel
theorem dX8_bearsOut_68 : decode cX8_bearsOut 68 = .ok (.iinc 3 1, 3) := by decide +kernel
theorem dX8_bearsOut_71 : decode cX8_bearsOut 71 = .ok (.goto (-61), 3) := by decide +kernel
theorem dX8_bearsOut_74 : decode cX8_bearsOut 74 = .ok (.iconst 1, 1) := by decide +kernel
theorem dX8_bearsOut_75 : decode cX8_bearsOut 75 = .ok (.ireturn, 1) := by decide +kernel
theorem dX8_least_0 : decode cX8_least 0 = .ok (.iconst 0, 1) := by decide +kernel
theorem dX8_least_1 : decode cX8_least 1 = .ok (.istore_n 1, 1) := by decide +kernel
theorem dX8_least_2 : decode cX8_least 2 = .ok (.iload_n 1, 1) := by decide +kernel
theorem dX8_least_3 : decode cX8_least 3 = .ok (.bipush 9, 2) := by decide +kernel
theorem dX8_least_5 : decode cX8_least 5 = .ok (.if_icmp .gt 19, 3) := by decide +kernel
theorem dX8_least_8 : decode cX8_least 8 = .ok (.iload_n 0, 1) := by decide +kernel
theorem dX8_least_9 : decode cX8_least 9 = .ok (.iload_n 1, 1) := by decide +kernel
theorem dX8_least_10 : decode cX8_least 10 = .ok (.invokestatic 193, 3) := by decide +kernel
theorem dX8_least_13 : decode cX8_least 13 = .ok (.ifCond .eq 5, 3) := by decide +kernel
theorem dX8_least_16 : decode cX8_least 16 = .ok (.iload_n 1, 1) := by decide +kernel
theorem dX8_least_17 : decode cX8_least 17 = .ok (.ireturn, 1) := by decide +kernel
theorem dX8_least_18 : decode cX8_least 18 = .ok (.iinc 1 1, 3) := by decide +kernel
theorem dX8_least_21 : decode cX8_least 21 = .ok (.goto (-19), 3) := by decide +kernel
theorem dX8_least_24 : decode cX8_least 24 = .ok (.bipush (-5), 2) := by decide +kernel
theorem dX8_least_26 : decode cX8_least 26 = .ok (.ireturn, 1) := by decide +kernel
theorem dX8_fittingSugars_0 : decode cX8_fittingSugars 0 = .ok (.iconst 0, 1) := by decide +kernel
theorem dX8_fittingSugars_1 : decode cX8_fittingSugars 1 = .ok (.istore_n 2, 1) := by decide +kernel
theorem dX8_fittingSugars_2 : decode cX8_fittingSugars 2 = .ok (.aload_n 0, 1) := by decide +kernel
theorem dX8_fittingSugars_3 : decode cX8_fittingSugars 3 = .ok (.getfield 27, 3) := by decide +kernel
theorem dX8_fittingSugars_6 : decode cX8_fittingSugars 6 = .ok (.aload_n 1, 1) := by decide +kernel
theorem dX8_fittingSugars_7 : decode cX8_fittingSugars 7 = .ok (.invokevirtual 200, 3) := by decide +kernel
theorem dX8_fittingSugars_10 : decode cX8_fittingSugars 10 = .ok (.iconst 0, 1) := by decide +kernel
theorem dX8_fittingSugars_11 : decode cX8_fittingSugars 11 = .ok (.istore_n 3, 1) := by decide +kernel
theorem dX8_fittingSugars_12 : decode cX8_fittingSugars 12 = .ok (.iload_n 3, 1) := by decide +kernel
theorem dX8_fittingSugars_13 : decode cX8_fittingSugars 13 = .ok (.bipush 9, 2) := by decide +kernel
theorem dX8_fittingSugars_15 : decode cX8_fittingSugars 15 = .ok (.if_icmp .gt 34, 3) := by decide +kernel
theorem dX8_fittingSugars_18 : decode cX8_fittingSugars 18 = .ok (.aload_n 0, 1) := by decide +kernel
theorem dX8_fittingSugars_19 : decode cX8_fittingSugars 19 = .ok (.getfield 27, 3) := by decide +kernel
theorem dX8_fittingSugars_22 : decode cX8_fittingSugars 22 = .ok (.iload_n 3, 1) := by decide +kernel
theorem dX8_fittingSugars_23 : decode cX8_fittingSugars 23 = .ok (.putfield 117, 3) := by decide +kernel
theorem dX8_fittingSugars_26 : decode cX8_fittingSugars 26 = .ok (.aload_n 0, 1) := by decide +kernel
theorem dX8_fittingSugars_27 : decode cX8_fittingSugars 27 = .ok (.aload_n 0, 1) := by decide +kernel
theorem dX8_fittingSugars_28 : decode cX8_fittingSugars 28 = .ok (.getfield 27, 3) := by decide +kernel
theorem dX8_fittingSugars_31 : decode cX8_fittingSugars 31 = .ok (.invokevirtual 303, 3) := by decide +kernel
theorem dX8_fittingSugars_34 : decode cX8_fittingSugars 34 = .ok (.ifCond .eq 9, 3) := by decide +kernel
theorem dX8_fittingSugars_37 : decode cX8_fittingSugars 37 = .ok (.iload_n 2, 1) := by decide +kernel
theorem dX8_fittingSugars_38 : decode cX8_fittingSugars 38 = .ok (.iconst 1, 1) := by decide +kernel
theorem dX8_fittingSugars_39 : decode cX8_fittingSugars 39 = .ok (.iload_n 3, 1) := by decide +kernel
theorem dX8_fittingSugars_40 : decode cX8_fittingSugars 40 = .ok (.ishl, 1) := by decide +kernel
theorem dX8_fittingSugars_41 : decode cX8_fittingSugars 41 = .ok (.ior, 1) := by decide +kernel
theorem dX8_fittingSugars_42 : decode cX8_fittingSugars 42 = .ok (.istore_n 2, 1) := by decide +kernel
theorem dX8_fittingSugars_43 : decode cX8_fittingSugars 43 = .ok (.iinc 3 1, 3) := by decide +kernel
theorem dX8_fittingSugars_46 : decode cX8_fittingSugars 46 = .ok (.goto (-34), 3) := by decide +kernel
theorem dX8_fittingSugars_49 : decode cX8_fittingSugars 49 = .ok (.iload_n 2, 1) := by decide +kernel
theorem dX8_fittingSugars_50 : decode cX8_fittingSugars 50 = .ok (.ireturn, 1) := by decide +kernel
theorem dX8_fittingNumbers_0 : decode cX8_fittingNumbers 0 = .ok (.iconst 0, 1) := by decide +kernel
theorem dX8_fittingNumbers_1 : decode cX8_fittingNumbers 1 = .ok (.istore_n 2, 1) := by decide +kernel
theorem dX8_fittingNumbers_2 : decode cX8_fittingNumbers 2 = .ok (.aload_n 0, 1) := by decide +kernel
theorem dX8_fittingNumbers_3 : decode cX8_fittingNumbers 3 = .ok (.getfield 27, 3) := by decide +kernel
theorem dX8_fittingNumbers_6 : decode cX8_fittingNumbers 6 = .ok (.aload_n 1, 1) := by decide +kernel
theorem dX8_fittingNumbers_7 : decode cX8_fittingNumbers 7 = .ok (.invokevirtual 200, 3) := by decide +kernel
theorem dX8_fittingNumbers_10 : decode cX8_fittingNumbers 10 = .ok (.iconst 0, 1) := by decide +kernel
theorem dX8_fittingNumbers_11 : decode cX8_fittingNumbers 11 = .ok (.istore_n 3, 1) := by decide +kernel
theorem dX8_fittingNumbers_12 : decode cX8_fittingNumbers 12 = .ok (.iload_n 3, 1) := by decide +kernel
theorem dX8_fittingNumbers_13 : decode cX8_fittingNumbers 13 = .ok (.bipush 9, 2) := by decide +kernel
theorem dX8_fittingNumbers_15 : decode cX8_fittingNumbers 15 = .ok (.if_icmp .gt 34, 3) := by decide +kernel
theorem dX8_fittingNumbers_18 : decode cX8_fittingNumbers 18 = .ok (.aload_n 0, 1) := by decide +kernel
theorem dX8_fittingNumbers_19 : decode cX8_fittingNumbers 19 = .ok (.getfield 27, 3) := by decide +kernel
theorem dX8_fittingNumbers_22 : decode cX8_fittingNumbers 22 = .ok (.iload_n 3, 1) := by decide +kernel
theorem dX8_fittingNumbers_23 : decode cX8_fittingNumbers 23 = .ok (.putfield 174, 3) := by decide +kernel
theorem dX8_fittingNumbers_26 : decode cX8_fittingNumbers 26 = .ok (.aload_n 0, 1) := by decide +kernel
theorem dX8_fittingNumbers_27 : decode cX8_fittingNumbers 27 = .ok (.aload_n 0, 1) := by decide +kernel
theorem dX8_fittingNumbers_28 : decode cX8_fittingNumbers 28 = .ok (.getfield 27, 3) := by decide +kernel
theorem dX8_fittingNumbers_31 : decode cX8_fittingNumbers 31 = .ok (.invokevirtual 303, 3) := by decide +kernel
theorem dX8_fittingNumbers_34 : decode cX8_fittingNumbers 34 = .ok (.ifCond .eq 9, 3) := by decide +kernel
theorem dX8_fittingNumbers_37 : decode cX8_fittingNumbers 37 = .ok (.iload_n 2, 1) := by decide +kernel
theorem dX8_fittingNumbers_38 : decode cX8_fittingNumbers 38 = .ok (.iconst 1, 1) := by decide +kernel
theorem dX8_fittingNumbers_39 : decode cX8_fittingNumbers 39 = .ok (.iload_n 3, 1) := by decide +kernel
theorem dX8_fittingNumbers_40 : decode cX8_fittingNumbers 40 = .ok (.ishl, 1) := by decide +kernel
theorem dX8_fittingNumbers_41 : decode cX8_fittingNumbers 41 = .ok (.ior, 1) := by decide +kernel
theorem dX8_fittingNumbers_42 : decode cX8_fittingNumbers 42 = .ok (.istore_n 2, 1) := by decide +kernel
theorem dX8_fittingNumbers_43 : decode cX8_fittingNumbers 43 = .ok (.iinc 3 1, 3) := by decide +kernel
theorem dX8_fittingNumbers_46 : decode cX8_fittingNumbers 46 = .ok (.goto (-34), 3) := by decide +kernel
theorem dX8_fittingNumbers_49 : decode cX8_fittingNumbers 49 = .ok (.iload_n 2, 1) := by decide +kernel
theorem dX8_fittingNumbers_50 : decode cX8_fittingNumbers 50 = .ok (.ireturn, 1) := by decide +kernel
theorem dX8_plan_0 : decode cX8_plan 0 = .ok (.iload_n 1, 1) := by decide +kernel
theorem dX8_plan_1 : decode cX8_plan 1 = .ok (.iconst (-1), 1) := by decide +kernel
theorem dX8_plan_2 : decode cX8_plan 2 = .ok (.if_icmp .ne 14, 3) := by decide +kernel
theorem dX8_plan_5 : decode cX8_plan 5 = .ok (.aload_n 0, 1) := by decide +kernel
theorem dX8_plan_6 : decode cX8_plan 6 = .ok (.getfield 12, 3) := by decide +kernel
theorem dX8_plan_9 : decode cX8_plan 9 = .ok (.getfield 307, 3) := by decide +kernel
theorem dX8_plan_12 : decode cX8_plan 12 = .ok (.invokevirtual 259, 3) := by decide +kernel
theorem dX8_plan_15 : decode cX8_plan 15 = .ok (.ireturn, 1) := by decide +kernel
theorem dX8_plan_16 : decode cX8_plan 16 = .ok (.aload_n 0, 1) := by decide +kernel
theorem dX8_plan_17 : decode cX8_plan 17 = .ok (.iload_n 1, 1) := by decide +kernel
theorem dX8_plan_18 : decode cX8_plan 18 = .ok (.iload_n 2, 1) := by decide +kernel
theorem dX8_plan_19 : decode cX8_plan 19 = .ok (.invokevirtual 310, 3) := by decide +kernel
theorem dX8_plan_22 : decode cX8_plan 22 = .ok (.ifCond .ne 5, 3) := by decide +kernel
theorem dX8_plan_25 : decode cX8_plan 25 = .ok (.iconst (-1), 1) := by decide +kernel
theorem dX8_plan_26 : decode cX8_plan 26 = .ok (.ireturn, 1) := by decide +kernel
theorem dX8_plan_27 : decode cX8_plan 27 = .ok (.aload_n 0, 1) := by decide +kernel
theorem dX8_plan_28 : decode cX8_plan 28 = .ok (.getfield 12, 3) := by decide +kernel
theorem dX8_plan_31 : decode cX8_plan 31 = .ok (.getfield 307, 3) := by decide +kernel
theorem dX8_plan_34 : decode cX8_plan 34 = .ok (.iload_n 1, 1) := by decide +kernel
theorem dX8_plan_35 : decode cX8_plan 35 = .ok (.iload_n 2, 1) := by decide +kernel
theorem dX8_plan_36 : decode cX8_plan 36 = .ok (.iconst 0, 1) := by decide +kernel
theorem dX8_plan_37 : decode cX8_plan 37 = .ok (.invokevirtual 264, 3) := by decide +kernel
theorem dX8_plan_40 : decode cX8_plan 40 = .ok (.ireturn, 1) := by decide +kernel
theorem dX8_canGo_0 : decode cX8_canGo 0 = .ok (.iload_n 1, 1) := by decide +kernel
theorem dX8_canGo_1 : decode cX8_canGo 1 = .ok (.tableswitch 89 0 3 #[31, 33, 67, 84], 31) := by decide +kernel
theorem dX8_canGo_32 : decode cX8_canGo 32 = .ok (.iconst 1, 1) := by decide +kernel
theorem dX8_canGo_33 : decode cX8_canGo 33 = .ok (.ireturn, 1) := by decide +kernel
theorem dX8_canGo_34 : decode cX8_canGo 34 = .ok (.iload_n 2, 1) := by decide +kernel
theorem dX8_canGo_35 : decode cX8_canGo 35 = .ok (.ifCond .lt 31, 3) := by decide +kernel
theorem dX8_canGo_38 : decode cX8_canGo 38 = .ok (.aload_n 0, 1) := by decide +kernel
theorem dX8_canGo_39 : decode cX8_canGo 39 = .ok (.getfield 12, 3) := by decide +kernel
theorem dX8_canGo_42 : decode cX8_canGo 42 = .ok (.iload_n 2, 1) := by decide +kernel
theorem dX8_canGo_43 : decode cX8_canGo 43 = .ok (.bipush 10, 2) := by decide +kernel
theorem dX8_canGo_45 : decode cX8_canGo 45 = .ok (.idiv, 1) := by decide +kernel
theorem dX8_canGo_46 : decode cX8_canGo 46 = .ok (.invokevirtual 90, 3) := by decide +kernel
theorem dX8_canGo_49 : decode cX8_canGo 49 = .ok (.ifnull 17, 3) := by decide +kernel
theorem dX8_canGo_52 : decode cX8_canGo 52 = .ok (.iload_n 2, 1) := by decide +kernel
theorem dX8_canGo_53 : decode cX8_canGo 53 = .ok (.bipush 10, 2) := by decide +kernel
theorem dX8_canGo_55 : decode cX8_canGo 55 = .ok (.irem, 1) := by decide +kernel
theorem dX8_canGo_56 : decode cX8_canGo 56 = .ok (.invokestatic 102, 3) := by decide +kernel
theorem dX8_canGo_59 : decode cX8_canGo 59 = .ok (.ifCond .eq 7, 3) := by decide +kernel
theorem dX8_canGo_62 : decode cX8_canGo 62 = .ok (.iconst 1, 1) := by decide +kernel
theorem dX8_canGo_63 : decode cX8_canGo 63 = .ok (.goto 4, 3) := by decide +kernel
theorem dX8_canGo_66 : decode cX8_canGo 66 = .ok (.iconst 0, 1) := by decide +kernel
theorem dX8_canGo_67 : decode cX8_canGo 67 = .ok (.ireturn, 1) := by decide +kernel
theorem dX8_canGo_68 : decode cX8_canGo 68 = .ok (.aload_n 0, 1) := by decide +kernel
theorem dX8_canGo_69 : decode cX8_canGo 69 = .ok (.getfield 12, 3) := by decide +kernel
theorem dX8_canGo_72 : decode cX8_canGo 72 = .ok (.iload_n 2, 1) := by decide +kernel
theorem dX8_canGo_73 : decode cX8_canGo 73 = .ok (.invokevirtual 90, 3) := by decide +kernel
theorem dX8_canGo_76 : decode cX8_canGo 76 = .ok (.ifnull 7, 3) := by decide +kernel
theorem dX8_canGo_79 : decode cX8_canGo 79 = .ok (.iconst 1, 1) := by decide +kernel
