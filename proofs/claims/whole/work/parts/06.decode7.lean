theorem dX7_init_0 : decode cX7_init 0 = .ok (.aload_n 0, 1) := by decide +kernel
theorem dX7_init_1 : decode cX7_init 1 = .ok (.invokespecial 1, 3) := by decide +kernel
theorem dX7_init_4 : decode cX7_init 4 = .ok (.aload_n 0, 1) := by decide +kernel
theorem dX7_init_5 : decode cX7_init 5 = .ok (.bipush 6, 2) := by decide +kernel
theorem dX7_init_7 : decode cX7_init 7 = .ok (.putfield 7, 3) := by decide +kernel
theorem dX7_init_10 : decode cX7_init 10 = .ok (.aload_n 0, 1) := by decide +kernel
theorem dX7_init_11 : decode cX7_init 11 = .ok (.iconst 2, 1) := by decide +kernel
theorem dX7_init_12 : decode cX7_init 12 = .ok (.putfield 13, 3) := by decide +kernel
theorem dX7_init_15 : decode cX7_init 15 = .ok (.aload_n 0, 1) := by decide +kernel
theorem dX7_init_16 : decode cX7_init 16 = .ok (.iconst 1, 1) := by decide +kernel
theorem dX7_init_17 : decode cX7_init 17 = .ok (.putfield 16, 3) := by decide +kernel
theorem dX7_init_20 : decode cX7_init 20 = .ok (.aload_n 0, 1) := by decide +kernel
theorem dX7_init_21 : decode cX7_init 21 = .ok (.bipush 13, 2) := by decide +kernel
theorem dX7_init_23 : decode cX7_init 23 = .ok (.newarray .boolean, 2) := by decide +kernel
theorem dX7_init_25 : decode cX7_init 25 = .ok (.putfield 19, 3) := by decide +kernel
theorem dX7_init_28 : decode cX7_init 28 = .ok (.aload_n 0, 1) := by decide +kernel
theorem dX7_init_29 : decode cX7_init 29 = .ok (.bipush 13, 2) := by decide +kernel
theorem dX7_init_31 : decode cX7_init 31 = .ok (.newarray .int, 2) := by decide +kernel
theorem dX7_init_33 : decode cX7_init 33 = .ok (.putfield 23, 3) := by decide +kernel
theorem dX7_init_36 : decode cX7_init 36 = .ok (.aload_n 0, 1) := by decide +kernel
theorem dX7_init_37 : decode cX7_init 37 = .ok (.sipush 23517, 3) := by decide +kernel
theorem dX7_init_40 : decode cX7_init 40 = .ok (.newarray .int, 2) := by decide +kernel
theorem dX7_init_42 : decode cX7_init 42 = .ok (.putfield 27, 3) := by decide +kernel
theorem dX7_init_45 : decode cX7_init 45 = .ok (.aload_n 0, 1) := by decide +kernel
theorem dX7_init_46 : decode cX7_init 46 = .ok (.sipush 23517, 3) := by decide +kernel
theorem dX7_init_49 : decode cX7_init 49 = .ok (.newarray .int, 2) := by decide +kernel
theorem dX7_init_51 : decode cX7_init 51 = .ok (.putfield 30, 3) := by decide +kernel
theorem dX7_init_54 : decode cX7_init 54 = .ok (.aload_n 0, 1) := by decide +kernel
theorem dX7_init_55 : decode cX7_init 55 = .ok (.sipush 1000, 3) := by decide +kernel
theorem dX7_init_58 : decode cX7_init 58 = .ok (.newarray .int, 2) := by decide +kernel
theorem dX7_init_60 : decode cX7_init 60 = .ok (.putfield 33, 3) := by decide +kernel
theorem dX7_init_63 : decode cX7_init 63 = .ok (.aload_n 0, 1) := by decide +kernel
theorem dX7_init_64 : decode cX7_init 64 = .ok (.bipush 117, 2) := by decide +kernel
theorem dX7_init_66 : decode cX7_init 66 = .ok (.newarray .int, 2) := by decide +kernel
theorem dX7_init_68 : decode cX7_init 68 = .ok (.putfield 36, 3) := by decide +kernel
theorem dX7_init_71 : decode cX7_init 71 = .ok (.aload_n 0, 1) := by decide +kernel
theorem dX7_init_72 : decode cX7_init 72 = .ok (.bipush 117, 2) := by decide +kernel
theorem dX7_init_74 : decode cX7_init 74 = .ok (.newarray .int, 2) := by decide +kernel
theorem dX7_init_76 : decode cX7_init 76 = .ok (.putfield 39, 3) := by decide +kernel
theorem dX7_init_79 : decode cX7_init 79 = .ok (.aload_n 0, 1) := by decide +kernel
theorem dX7_init_80 : decode cX7_init 80 = .ok (.iconst 3, 1) := by decide +kernel
theorem dX7_init_81 : decode cX7_init 81 = .ok (.newarray .int, 2) := by decide +kernel
theorem dX7_init_83 : decode cX7_init 83 = .ok (.putfield 42, 3) := by decide +kernel
theorem dX7_init_86 : decode cX7_init 86 = .ok (.aload_n 0, 1) := by decide +kernel
theorem dX7_init_87 : decode cX7_init 87 = .ok (.iconst 3, 1) := by decide +kernel
theorem dX7_init_88 : decode cX7_init 88 = .ok (.newarray .int, 2) := by decide +kernel
theorem dX7_init_90 : decode cX7_init 90 = .ok (.putfield 45, 3) := by decide +kernel
theorem dX7_init_93 : decode cX7_init 93 = .ok (.aload_n 0, 1) := by decide +kernel
theorem dX7_init_94 : decode cX7_init 94 = .ok (.iconst 3, 1) := by decide +kernel
theorem dX7_init_95 : decode cX7_init 95 = .ok (.newarray .int, 2) := by decide +kernel
theorem dX7_init_97 : decode cX7_init 97 = .ok (.putfield 48, 3) := by decide +kernel
theorem dX7_init_100 : decode cX7_init 100 = .ok (.aload_n 0, 1) := by decide +kernel
theorem dX7_init_101 : decode cX7_init 101 = .ok (.iconst 3, 1) := by decide +kernel
theorem dX7_init_102 : decode cX7_init 102 = .ok (.newarray .int, 2) := by decide +kernel
theorem dX7_init_104 : decode cX7_init 104 = .ok (.putfield 51, 3) := by decide +kernel
theorem dX7_init_107 : decode cX7_init 107 = .ok (.aload_n 0, 1) := by decide +kernel
theorem dX7_init_108 : decode cX7_init 108 = .ok (.sipush 1000, 3) := by decide +kernel
theorem dX7_init_111 : decode cX7_init 111 = .ok (.newarray .int, 2) := by decide +kernel
theorem dX7_init_113 : decode cX7_init 113 = .ok (.putfield 54, 3) := by decide +kernel
theorem dX7_init_116 : decode cX7_init 116 = .ok (.aload_n 0, 1) := by decide +kernel
theorem dX7_init_117 : decode cX7_init 117 = .ok (.iconst (-1), 1) := by decide +kernel
theorem dX7_init_118 : decode cX7_init 118 = .ok (.putfield 57, 3) := by decide +kernel
theorem dX7_init_121 : decode cX7_init 121 = .ok (.aload_n 0, 1) := by decide +kernel
theorem dX7_init_122 : decode cX7_init 122 = .ok (.iconst 3, 1) := by decide +kernel
theorem dX7_init_123 : decode cX7_init 123 = .ok (.newarray .int, 2) := by decide +kernel
theorem dX7_init_125 : decode cX7_init 125 = .ok (.putfield 60, 3) := by decide +kernel
theorem dX7_init_128 : decode cX7_init 128 = .ok (.aload_n 0, 1) := by decide +kernel
theorem dX7_init_129 : decode cX7_init 129 = .ok (.iconst 3, 1) := by decide +kernel
theorem dX7_init_130 : decode cX7_init 130 = .ok (.newarray .boolean, 2) := by decide +kernel
theorem dX7_init_132 : decode cX7_init 132 = .ok (.putfield 63, 3) := by decide +kernel
theorem dX7_init_135 : decode cX7_init 135 = .ok (.aload_n 0, 1) := by decide +kernel
theorem dX7_init_136 : decode cX7_init 136 = .ok (.bipush 9, 2) := by decide +kernel
theorem dX7_init_138 : decode cX7_init 138 = .ok (.newarray .int, 2) := by decide +kernel
theorem dX7_init_140 : decode cX7_init 140 = .ok (.putfield 66, 3) := by decide +kernel
theorem dX7_init_143 : decode cX7_init 143 = .ok (.iconst 0, 1) := by decide +kernel
theorem dX7_init_144 : decode cX7_init 144 = .ok (.istore_n 1, 1) := by decide +kernel
theorem dX7_init_145 : decode cX7_init 145 = .ok (.iload_n 1, 1) := by decide +kernel
theorem dX7_init_146 : decode cX7_init 146 = .ok (.bipush 13, 2) := by decide +kernel
theorem dX7_init_148 : decode cX7_init 148 = .ok (.if_icmp .ge 17, 3) := by decide +kernel
theorem dX7_init_151 : decode cX7_init 151 = .ok (.aload_n 0, 1) := by decide +kernel
theorem dX7_init_152 : decode cX7_init 152 = .ok (.getfield 23, 3) := by decide +kernel
theorem dX7_init_155 : decode cX7_init 155 = .ok (.iload_n 1, 1) := by decide +kernel
theorem dX7_init_156 : decode cX7_init 156 = .ok (.bipush 100, 2) := by decide +kernel
theorem dX7_init_158 : decode cX7_init 158 = .ok (.iastore, 1) := by decide +kernel
theorem dX7_init_159 : decode cX7_init 159 = .ok (.iinc 1 1, 3) := by decide +kernel
theorem dX7_init_162 : decode cX7_init 162 = .ok (.goto (-17), 3) := by decide +kernel
theorem dX7_init_165 : decode cX7_init 165 = .ok (.aload_n 0, 1) := by decide +kernel
theorem dX7_init_166 : decode cX7_init 166 = .ok (.iconst 4, 1) := by decide +kernel
theorem dX7_init_167 : decode cX7_init 167 = .ok (.bipush 10, 2) := by decide +kernel
theorem dX7_init_169 : decode cX7_init 169 = .ok (.invokevirtual 69, 3) := by decide +kernel
theorem dX7_init_172 : decode cX7_init 172 = .ok (.istore_n 1, 1) := by decide +kernel
theorem dX7_init_173 : decode cX7_init 173 = .ok (.return_, 1) := by decide +kernel
theorem dX7_thrown_0 : decode cX7_thrown 0 = .ok (.aload_n 0, 1) := by decide +kernel
theorem dX7_thrown_1 : decode cX7_thrown 1 = .ok (.getfield 73, 3) := by decide +kernel
theorem dX7_thrown_4 : decode cX7_thrown 4 = .ok (.ireturn, 1) := by decide +kernel
theorem dX7_isIn_0 : decode cX7_isIn 0 = .ok (.iload_n 0, 1) := by decide +kernel
theorem dX7_isIn_1 : decode cX7_isIn 1 = .ok (.iload_n 1, 1) := by decide +kernel
theorem dX7_isIn_2 : decode cX7_isIn 2 = .ok (.if_icmp .lt 12, 3) := by decide +kernel
theorem dX7_isIn_5 : decode cX7_isIn 5 = .ok (.iload_n 0, 1) := by decide +kernel
theorem dX7_isIn_6 : decode cX7_isIn 6 = .ok (.iload_n 2, 1) := by decide +kernel
theorem dX7_isIn_7 : decode cX7_isIn 7 = .ok (.if_icmp .gt 7, 3) := by decide +kernel
theorem dX7_isIn_10 : decode cX7_isIn 10 = .ok (.iconst 1, 1) := by decide +kernel
theorem dX7_isIn_11 : decode cX7_isIn 11 = .ok (.goto 4, 3) := by decide +kernel
theorem dX7_isIn_14 : decode cX7_isIn 14 = .ok (.iconst 0, 1) := by decide +kernel
theorem dX7_isIn_15 : decode cX7_isIn 15 = .ok (.ireturn, 1) := by decide +kernel
theorem dX7_limits_0 : decode cX7_limits 0 = .ok (.aload_n 0, 1) := by decide +kernel
theorem dX7_limits_1 : decode cX7_limits 1 = .ok (.iconst 0, 1) := by decide +kernel
theorem dX7_limits_2 : decode cX7_limits 2 = .ok (.putfield 73, 3) := by decide +kernel
theorem dX7_limits_5 : decode cX7_limits 5 = .ok (.aload_n 0, 1) := by decide +kernel
theorem dX7_limits_6 : decode cX7_limits 6 = .ok (.getfield 76, 3) := by decide +kernel
theorem dX7_limits_9 : decode cX7_limits 9 = .ok (.ifCond .ne 31, 3) := by decide +kernel
theorem dX7_limits_12 : decode cX7_limits 12 = .ok (.iload_n 1, 1) := by decide +kernel
theorem dX7_limits_13 : decode cX7_limits 13 = .ok (.iconst 1, 1) := by decide +kernel
theorem dX7_limits_14 : decode cX7_limits 14 = .ok (.bipush 12, 2) := by decide +kernel
theorem dX7_limits_16 : decode cX7_limits 16 = .ok (.invokestatic 80, 3) := by decide +kernel
theorem dX7_limits_19 : decode cX7_limits 19 = .ok (.ifCond .eq 21, 3) := by decide +kernel
theorem dX7_limits_22 : decode cX7_limits 22 = .ok (.iload_n 2, 1) := by decide +kernel
theorem dX7_limits_23 : decode cX7_limits 23 = .ok (.iconst 1, 1) := by decide +kernel
theorem dX7_limits_24 : decode cX7_limits 24 = .ok (.iconst 4, 1) := by decide +kernel
theorem dX7_limits_25 : decode cX7_limits 25 = .ok (.invokestatic 80, 3) := by decide +kernel
theorem dX7_limits_28 : decode cX7_limits 28 = .ok (.ifCond .eq 12, 3) := by decide +kernel
theorem dX7_limits_31 : decode cX7_limits 31 = .ok (.iload_n 3, 1) := by decide +kernel
theorem dX7_limits_32 : decode cX7_limits 32 = .ok (.iconst 1, 1) := by decide +kernel
theorem dX7_limits_33 : decode cX7_limits 33 = .ok (.iconst 4, 1) := by decide +kernel
theorem dX7_limits_34 : decode cX7_limits 34 = .ok (.invokestatic 80, 3) := by decide +kernel
theorem dX7_limits_37 : decode cX7_limits 37 = .ok (.ifCond .ne 5, 3) := by decide +kernel
theorem dX7_limits_40 : decode cX7_limits 40 = .ok (.iconst 0, 1) := by decide +kernel
theorem dX7_limits_41 : decode cX7_limits 41 = .ok (.ireturn, 1) := by decide +kernel
theorem dX7_limits_42 : decode cX7_limits 42 = .ok (.aload_n 0, 1) := by decide +kernel
theorem dX7_limits_43 : decode cX7_limits 43 = .ok (.iload_n 1, 1) := by decide +kernel
theorem dX7_limits_44 : decode cX7_limits 44 = .ok (.putfield 7, 3) := by decide +kernel
theorem dX7_limits_47 : decode cX7_limits 47 = .ok (.aload_n 0, 1) := by decide +kernel
theorem dX7_limits_48 : decode cX7_limits 48 = .ok (.iload_n 2, 1) := by decide +kernel
theorem dX7_limits_49 : decode cX7_limits 49 = .ok (.putfield 13, 3) := by decide +kernel
theorem dX7_limits_52 : decode cX7_limits 52 = .ok (.aload_n 0, 1) := by decide +kernel
theorem dX7_limits_53 : decode cX7_limits 53 = .ok (.iload_n 3, 1) := by decide +kernel
theorem dX7_limits_54 : decode cX7_limits 54 = .ok (.putfield 16, 3) := by decide +kernel
theorem dX7_limits_57 : decode cX7_limits 57 = .ok (.iconst 1, 1) := by decide +kernel
theorem dX7_limits_58 : decode cX7_limits 58 = .ok (.ireturn, 1) := by decide +kernel
theorem dX7_bad_0 : decode cX7_bad 0 = .ok (.aload_n 0, 1) := by decide +kernel
theorem dX7_bad_1 : decode cX7_bad 1 = .ok (.iconst 0, 1) := by decide +kernel
theorem dX7_bad_2 : decode cX7_bad 2 = .ok (.putfield 73, 3) := by decide +kernel
theorem dX7_bad_5 : decode cX7_bad 5 = .ok (.aload_n 0, 1) := by decide +kernel
theorem dX7_bad_6 : decode cX7_bad 6 = .ok (.getfield 76, 3) := by decide +kernel
theorem dX7_bad_9 : decode cX7_bad 9 = .ok (.ifCond .ne 23, 3) := by decide +kernel
theorem dX7_bad_12 : decode cX7_bad 12 = .ok (.iload_n 1, 1) := by decide +kernel
theorem dX7_bad_13 : decode cX7_bad 13 = .ok (.iconst 1, 1) := by decide +kernel
theorem dX7_bad_14 : decode cX7_bad 14 = .ok (.bipush 12, 2) := by decide +kernel
theorem dX7_bad_16 : decode cX7_bad 16 = .ok (.invokestatic 80, 3) := by decide +kernel
theorem dX7_bad_19 : decode cX7_bad 19 = .ok (.ifCond .eq 13, 3) := by decide +kernel
theorem dX7_bad_22 : decode cX7_bad 22 = .ok (.aload_n 0, 1) := by decide +kernel
theorem dX7_bad_23 : decode cX7_bad 23 = .ok (.getfield 19, 3) := by decide +kernel
theorem dX7_bad_26 : decode cX7_bad 26 = .ok (.iload_n 1, 1) := by decide +kernel
theorem dX7_bad_27 : decode cX7_bad 27 = .ok (.baload, 1) := by decide +kernel
theorem dX7_bad_28 : decode cX7_bad 28 = .ok (.iload_n 2, 1) := by decide +kernel
theorem dX7_bad_29 : decode cX7_bad 29 = .ok (.if_icmp .ne 5, 3) := by decide +kernel
theorem dX7_bad_32 : decode cX7_bad 32 = .ok (.iconst 0, 1) := by decide +kernel
theorem dX7_bad_33 : decode cX7_bad 33 = .ok (.ireturn, 1) := by decide +kernel
theorem dX7_bad_34 : decode cX7_bad 34 = .ok (.aload_n 0, 1) := by decide +kernel
theorem dX7_bad_35 : decode cX7_bad 35 = .ok (.getfield 19, 3) := by decide +kernel
theorem dX7_bad_38 : decode cX7_bad 38 = .ok (.iload_n 1, 1) := by decide +kernel
theorem dX7_bad_39 : decode cX7_bad 39 = .ok (.iload_n 2, 1) := by decide +kernel
theorem dX7_bad_40 : decode cX7_bad 40 = .ok (.bastore, 1) := by decide +kernel
theorem dX7_bad_41 : decode cX7_bad 41 = .ok (.iconst 1, 1) := by decide +kernel
theorem dX7_bad_42 : decode cX7_bad 42 = .ok (.ireturn, 1) := by decide +kernel
theorem dX7_pull_0 : decode cX7_pull 0 = .ok (.aload_n 0, 1) := by decide +kernel
theorem dX7_pull_1 : decode cX7_pull 1 = .ok (.iconst 0, 1) := by decide +kernel
theorem dX7_pull_2 : decode cX7_pull 2 = .ok (.putfield 73, 3) := by decide +kernel
theorem dX7_pull_5 : decode cX7_pull 5 = .ok (.aload_n 0, 1) := by decide +kernel
theorem dX7_pull_6 : decode cX7_pull 6 = .ok (.getfield 76, 3) := by decide +kernel
theorem dX7_pull_9 : decode cX7_pull 9 = .ok (.ifCond .ne 24, 3) := by decide +kernel
theorem dX7_pull_12 : decode cX7_pull 12 = .ok (.iload_n 1, 1) := by decide +kernel
theorem dX7_pull_13 : decode cX7_pull 13 = .ok (.iconst 0, 1) := by decide +kernel
theorem dX7_pull_14 : decode cX7_pull 14 = .ok (.bipush 12, 2) := by decide +kernel
theorem dX7_pull_16 : decode cX7_pull 16 = .ok (.invokestatic 80, 3) := by decide +kernel
theorem dX7_pull_19 : decode cX7_pull 19 = .ok (.ifCond .eq 14, 3) := by decide +kernel
theorem dX7_pull_22 : decode cX7_pull 22 = .ok (.iload_n 2, 1) := by decide +kernel
theorem dX7_pull_23 : decode cX7_pull 23 = .ok (.iconst 0, 1) := by decide +kernel
theorem dX7_pull_24 : decode cX7_pull 24 = .ok (.sipush 1000, 3) := by decide +kernel
theorem dX7_pull_27 : decode cX7_pull 27 = .ok (.invokestatic 80, 3) := by decide +kernel
theorem dX7_pull_30 : decode cX7_pull 30 = .ok (.ifCond .ne 5, 3) := by decide +kernel
theorem dX7_pull_33 : decode cX7_pull 33 = .ok (.iconst 0, 1) := by decide +kernel
theorem dX7_pull_34 : decode cX7_pull 34 = .ok (.ireturn, 1) := by decide +kernel
theorem dX7_pull_35 : decode cX7_pull 35 = .ok (.aload_n 0, 1) := by decide +kernel
theorem dX7_pull_36 : decode cX7_pull 36 = .ok (.getfield 23, 3) := by decide +kernel
theorem dX7_pull_39 : decode cX7_pull 39 = .ok (.iload_n 1, 1) := by decide +kernel
theorem dX7_pull_40 : decode cX7_pull 40 = .ok (.iload_n 2, 1) := by decide +kernel
theorem dX7_pull_41 : decode cX7_pull 41 = .ok (.iastore, 1) := by decide +kernel
theorem dX7_pull_42 : decode cX7_pull 42 = .ok (.iconst 1, 1) := by decide +kernel
theorem dX7_pull_43 : decode cX7_pull 43 = .ok (.ireturn, 1) := by decide +kernel
theorem dX7_load_0 : decode cX7_load 0 = .ok (.aload_n 0, 1) := by decide +kernel
theorem dX7_load_1 : decode cX7_load 1 = .ok (.iconst 0, 1) := by decide +kernel
theorem dX7_load_2 : decode cX7_load 2 = .ok (.putfield 73, 3) := by decide +kernel
theorem dX7_load_5 : decode cX7_load 5 = .ok (.aload_n 0, 1) := by decide +kernel
theorem dX7_load_6 : decode cX7_load 6 = .ok (.getfield 76, 3) := by decide +kernel
theorem dX7_load_9 : decode cX7_load 9 = .ok (.ifCond .ne 24, 3) := by decide +kernel
theorem dX7_load_12 : decode cX7_load 12 = .ok (.iload_n 1, 1) := by decide +kernel
theorem dX7_load_13 : decode cX7_load 13 = .ok (.iconst 0, 1) := by decide +kernel
theorem dX7_load_14 : decode cX7_load 14 = .ok (.sipush 1000, 3) := by decide +kernel
theorem dX7_load_17 : decode cX7_load 17 = .ok (.invokestatic 80, 3) := by decide +kernel
theorem dX7_load_20 : decode cX7_load 20 = .ok (.ifCond .eq 13, 3) := by decide +kernel
theorem dX7_load_23 : decode cX7_load 23 = .ok (.iload_n 2, 1) := by decide +kernel
theorem dX7_load_24 : decode cX7_load 24 = .ok (.iconst 0, 1) := by decide +kernel
theorem dX7_load_25 : decode cX7_load 25 = .ok (.bipush 100, 2) := by decide +kernel
theorem dX7_load_27 : decode cX7_load 27 = .ok (.invokestatic 80, 3) := by decide +kernel
theorem dX7_load_30 : decode cX7_load 30 = .ok (.ifCond .ne 5, 3) := by decide +kernel
theorem dX7_load_33 : decode cX7_load 33 = .ok (.iconst 0, 1) := by decide +kernel
theorem dX7_load_34 : decode cX7_load 34 = .ok (.ireturn, 1) := by decide +kernel
theorem dX7_load_35 : decode cX7_load 35 = .ok (.aload_n 0, 1) := by decide +kernel
theorem dX7_load_36 : decode cX7_load 36 = .ok (.iload_n 1, 1) := by decide +kernel
theorem dX7_load_37 : decode cX7_load 37 = .ok (.putfield 84, 3) := by decide +kernel
theorem dX7_load_40 : decode cX7_load 40 = .ok (.aload_n 0, 1) := by decide +kernel
theorem dX7_load_41 : decode cX7_load 41 = .ok (.iload_n 2, 1) := by decide +kernel
theorem dX7_load_42 : decode cX7_load 42 = .ok (.putfield 87, 3) := by decide +kernel
theorem dX7_load_45 : decode cX7_load 45 = .ok (.iconst 1, 1) := by decide +kernel
theorem dX7_load_46 : decode cX7_load 46 = .ok (.ireturn, 1) := by decide +kernel
theorem dX7_only_0 : decode cX7_only 0 = .ok (.aload_n 0, 1) := by decide +kernel
theorem dX7_only_1 : decode cX7_only 1 = .ok (.iconst 0, 1) := by decide +kernel
theorem dX7_only_2 : decode cX7_only 2 = .ok (.putfield 73, 3) := by decide +kernel
theorem dX7_only_5 : decode cX7_only 5 = .ok (.aload_n 0, 1) := by decide +kernel
theorem dX7_only_6 : decode cX7_only 6 = .ok (.getfield 76, 3) := by decide +kernel
theorem dX7_only_9 : decode cX7_only 9 = .ok (.ifCond .ne 11, 3) := by decide +kernel
theorem dX7_only_12 : decode cX7_only 12 = .ok (.aload_n 0, 1) := by decide +kernel
theorem dX7_only_13 : decode cX7_only 13 = .ok (.getfield 90, 3) := by decide +kernel
theorem dX7_only_16 : decode cX7_only 16 = .ok (.iload_n 1, 1) := by decide +kernel
theorem dX7_only_17 : decode cX7_only 17 = .ok (.if_icmp .ne 5, 3) := by decide +kernel
theorem dX7_only_20 : decode cX7_only 20 = .ok (.iconst 0, 1) := by decide +kernel
theorem dX7_only_21 : decode cX7_only 21 = .ok (.ireturn, 1) := by decide +kernel
theorem dX7_only_22 : decode cX7_only 22 = .ok (.aload_n 0, 1) := by decide +kernel
theorem dX7_only_23 : decode cX7_only 23 = .ok (.iload_n 1, 1) := by decide +kernel
theorem dX7_only_24 : decode cX7_only 24 = .ok (.putfield 90, 3) := by decide +kernel
theorem dX7_only_27 : decode cX7_only 27 = .ok (.iconst 1, 1) := by decide +kernel
theorem dX7_only_28 : decode cX7_only 28 = .ok (.ireturn, 1) := by decide +kernel
theorem dX7_isState_0 : decode cX7_isState 0 = .ok (.iload_n 1, 1) := by decide +kernel
theorem dX7_isState_1 : decode cX7_isState 1 = .ok (.iconst 0, 1) := by decide +kernel
theorem dX7_isState_2 : decode cX7_isState 2 = .ok (.aload_n 0, 1) := by decide +kernel
theorem dX7_isState_3 : decode cX7_isState 3 = .ok (.getfield 7, 3) := by decide +kernel
theorem dX7_isState_6 : decode cX7_isState 6 = .ok (.invokestatic 80, 3) := by decide +kernel
theorem dX7_isState_9 : decode cX7_isState 9 = .ok (.ifCond .eq 23, 3) := by decide +kernel
theorem dX7_isState_12 : decode cX7_isState 12 = .ok (.iload_n 2, 1) := by decide +kernel
theorem dX7_isState_13 : decode cX7_isState 13 = .ok (.aload_n 0, 1) := by decide +kernel
theorem dX7_isState_14 : decode cX7_isState 14 = .ok (.getfield 13, 3) := by decide +kernel
theorem dX7_isState_17 : decode cX7_isState 17 = .ok (.ineg, 1) := by decide +kernel
theorem dX7_isState_18 : decode cX7_isState 18 = .ok (.aload_n 0, 1) := by decide +kernel
theorem dX7_isState_19 : decode cX7_isState 19 = .ok (.getfield 13, 3) := by decide +kernel
theorem dX7_isState_22 : decode cX7_isState 22 = .ok (.invokestatic 80, 3) := by decide +kernel
theorem dX7_isState_25 : decode cX7_isState 25 = .ok (.ifCond .eq 7, 3) := by decide +kernel
theorem dX7_isState_28 : decode cX7_isState 28 = .ok (.iconst 1, 1) := by decide +kernel
theorem dX7_isState_29 : decode cX7_isState 29 = .ok (.goto 4, 3) := by decide +kernel
theorem dX7_isState_32 : decode cX7_isState 32 = .ok (.iconst 0, 1) := by decide +kernel
theorem dX7_isState_33 : decode cX7_isState 33 = .ok (.ireturn, 1) := by decide +kernel
theorem dX7_isSafe_0 : decode cX7_isSafe 0 = .ok (.aload_n 0, 1) := by decide +kernel
theorem dX7_isSafe_1 : decode cX7_isSafe 1 = .ok (.getfield 84, 3) := by decide +kernel
theorem dX7_isSafe_4 : decode cX7_isSafe 4 = .ok (.aload_n 0, 1) := by decide +kernel
theorem dX7_isSafe_5 : decode cX7_isSafe 5 = .ok (.getfield 87, 3) := by decide +kernel
theorem dX7_isSafe_8 : decode cX7_isSafe 8 = .ok (.iload_n 2, 1) := by decide +kernel
theorem dX7_isSafe_9 : decode cX7_isSafe 9 = .ok (.invokestatic 93, 3) := by decide +kernel
theorem dX7_isSafe_12 : decode cX7_isSafe 12 = .ok (.imul, 1) := by decide +kernel
theorem dX7_isSafe_13 : decode cX7_isSafe 13 = .ok (.iadd, 1) := by decide +kernel
theorem dX7_isSafe_14 : decode cX7_isSafe 14 = .ok (.aload_n 0, 1) := by decide +kernel
theorem dX7_isSafe_15 : decode cX7_isSafe 15 = .ok (.getfield 23, 3) := by decide +kernel
theorem dX7_isSafe_18 : decode cX7_isSafe 18 = .ok (.iload_n 1, 1) := by decide +kernel
theorem dX7_isSafe_19 : decode cX7_isSafe 19 = .ok (.iaload, 1) := by decide +kernel
theorem dX7_isSafe_20 : decode cX7_isSafe 20 = .ok (.if_icmp .gt 7, 3) := by decide +kernel
theorem dX7_isSafe_23 : decode cX7_isSafe 23 = .ok (.iconst 1, 1) := by decide +kernel
theorem dX7_isSafe_24 : decode cX7_isSafe 24 = .ok (.goto 4, 3) := by decide +kernel
theorem dX7_isSafe_27 : decode cX7_isSafe 27 = .ok (.iconst 0, 1) := by decide +kernel
theorem dX7_isSafe_28 : decode cX7_isSafe 28 = .ok (.ireturn, 1) := by decide +kernel
theorem dX7_mayGo_0 : decode cX7_mayGo 0 = .ok (.iload_n 1, 1) := by decide +kernel
theorem dX7_mayGo_1 : decode cX7_mayGo 1 = .ok (.iload_n 3, 1) := by decide +kernel
theorem dX7_mayGo_2 : decode cX7_mayGo 2 = .ok (.iadd, 1) := by decide +kernel
theorem dX7_mayGo_3 : decode cX7_mayGo 3 = .ok (.istore 5, 2) := by decide +kernel
theorem dX7_mayGo_5 : decode cX7_mayGo 5 = .ok (.aload_n 0, 1) := by decide +kernel
theorem dX7_mayGo_6 : decode cX7_mayGo 6 = .ok (.iload 5, 2) := by decide +kernel
theorem dX7_mayGo_8 : decode cX7_mayGo 8 = .ok (.iload_n 3, 1) := by decide +kernel
theorem dX7_mayGo_9 : decode cX7_mayGo 9 = .ok (.invokevirtual 99, 3) := by decide +kernel
theorem dX7_mayGo_12 : decode cX7_mayGo 12 = .ok (.ifCond .eq 35, 3) := by decide +kernel
theorem dX7_mayGo_15 : decode cX7_mayGo 15 = .ok (.iload_n 3, 1) := by decide +kernel
theorem dX7_mayGo_16 : decode cX7_mayGo 16 = .ok (.iload_n 2, 1) := by decide +kernel
theorem dX7_mayGo_17 : decode cX7_mayGo 17 = .ok (.isub, 1) := by decide +kernel
theorem dX7_mayGo_18 : decode cX7_mayGo 18 = .ok (.invokestatic 93, 3) := by decide +kernel
theorem dX7_mayGo_21 : decode cX7_mayGo 21 = .ok (.aload_n 0, 1) := by decide +kernel
theorem dX7_mayGo_22 : decode cX7_mayGo 22 = .ok (.getfield 16, 3) := by decide +kernel
theorem dX7_mayGo_25 : decode cX7_mayGo 25 = .ok (.if_icmp .gt 22, 3) := by decide +kernel
theorem dX7_mayGo_28 : decode cX7_mayGo 28 = .ok (.iload_n 3, 1) := by decide +kernel
theorem dX7_mayGo_29 : decode cX7_mayGo 29 = .ok (.ifCond .ne 20, 3) := by decide +kernel
theorem dX7_mayGo_32 : decode cX7_mayGo 32 = .ok (.iload 5, 2) := by decide +kernel
theorem dX7_mayGo_34 : decode cX7_mayGo 34 = .ok (.ifCond .le 15, 3) := by decide +kernel
theorem dX7_mayGo_37 : decode cX7_mayGo 37 = .ok (.aload_n 0, 1) := by decide +kernel
theorem dX7_mayGo_38 : decode cX7_mayGo 38 = .ok (.getfield 19, 3) := by decide +kernel
theorem dX7_mayGo_41 : decode cX7_mayGo 41 = .ok (.iload 5, 2) := by decide +kernel
theorem dX7_mayGo_43 : decode cX7_mayGo 43 = .ok (.baload, 1) := by decide +kernel
theorem dX7_mayGo_44 : decode cX7_mayGo 44 = .ok (.ifCond .eq 5, 3) := by decide +kernel
theorem dX7_mayGo_47 : decode cX7_mayGo 47 = .ok (.iconst 0, 1) := by decide +kernel
theorem dX7_mayGo_48 : decode cX7_mayGo 48 = .ok (.ireturn, 1) := by decide +kernel
theorem dX7_mayGo_49 : decode cX7_mayGo 49 = .ok (.iload 4, 2) := by decide +kernel
theorem dX7_mayGo_51 : decode cX7_mayGo 51 = .ok (.ifCond .eq 13, 3) := by decide +kernel
theorem dX7_mayGo_54 : decode cX7_mayGo 54 = .ok (.aload_n 0, 1) := by decide +kernel
theorem dX7_mayGo_55 : decode cX7_mayGo 55 = .ok (.iload 5, 2) := by decide +kernel
theorem dX7_mayGo_57 : decode cX7_mayGo 57 = .ok (.iload_n 3, 1) := by decide +kernel
theorem dX7_mayGo_58 : decode cX7_mayGo 58 = .ok (.invokevirtual 102, 3) := by decide +kernel
theorem dX7_mayGo_61 : decode cX7_mayGo 61 = .ok (.ifCond .eq 7, 3) := by decide +kernel
theorem dX7_mayGo_64 : decode cX7_mayGo 64 = .ok (.iconst 1, 1) := by decide +kernel
theorem dX7_mayGo_65 : decode cX7_mayGo 65 = .ok (.goto 4, 3) := by decide +kernel
theorem dX7_mayGo_68 : decode cX7_mayGo 68 = .ok (.iconst 0, 1) := by decide +kernel
theorem dX7_mayGo_69 : decode cX7_mayGo 69 = .ok (.ireturn, 1) := by decide +kernel
theorem dX7_isRest_0 : decode cX7_isRest 0 = .ok (.iload_n 1, 1) := by decide +kernel
theorem dX7_isRest_1 : decode cX7_isRest 1 = .ok (.ifCond .ne 18, 3) := by decide +kernel
theorem dX7_isRest_4 : decode cX7_isRest 4 = .ok (.iload_n 2, 1) := by decide +kernel
theorem dX7_isRest_5 : decode cX7_isRest 5 = .ok (.invokestatic 93, 3) := by decide +kernel
theorem dX7_isRest_8 : decode cX7_isRest 8 = .ok (.aload_n 0, 1) := by decide +kernel
theorem dX7_isRest_9 : decode cX7_isRest 9 = .ok (.getfield 16, 3) := by decide +kernel
theorem dX7_isRest_12 : decode cX7_isRest 12 = .ok (.if_icmp .gt 7, 3) := by decide +kernel
theorem dX7_isRest_15 : decode cX7_isRest 15 = .ok (.iconst 1, 1) := by decide +kernel
theorem dX7_isRest_16 : decode cX7_isRest 16 = .ok (.goto 4, 3) := by decide +kernel
theorem dX7_isRest_19 : decode cX7_isRest 19 = .ok (.iconst 0, 1) := by decide +kernel
theorem dX7_isRest_20 : decode cX7_isRest 20 = .ok (.ireturn, 1) := by decide +kernel
theorem dX7_index_0 : decode cX7_index 0 = .ok (.iload_n 0, 1) := by decide +kernel
theorem dX7_index_1 : decode cX7_index 1 = .ok (.bipush 9, 2) := by decide +kernel
theorem dX7_index_3 : decode cX7_index 3 = .ok (.imul, 1) := by decide +kernel
theorem dX7_index_4 : decode cX7_index 4 = .ok (.iload_n 1, 1) := by decide +kernel
theorem dX7_index_5 : decode cX7_index 5 = .ok (.iadd, 1) := by decide +kernel
theorem dX7_index_6 : decode cX7_index 6 = .ok (.iconst 4, 1) := by decide +kernel
theorem dX7_index_7 : decode cX7_index 7 = .ok (.iadd, 1) := by decide +kernel
theorem dX7_index_8 : decode cX7_index 8 = .ok (.sipush 201, 3) := by decide +kernel
theorem dX7_index_11 : decode cX7_index 11 = .ok (.imul, 1) := by decide +kernel
theorem dX7_index_12 : decode cX7_index 12 = .ok (.iload_n 2, 1) := by decide +kernel
theorem dX7_index_13 : decode cX7_index 13 = .ok (.iadd, 1) := by decide +kernel
theorem dX7_index_14 : decode cX7_index 14 = .ok (.ireturn, 1) := by decide +kernel
theorem dX7_spread_0 : decode cX7_spread 0 = .ok (.iconst 0, 1) := by decide +kernel
theorem dX7_spread_1 : decode cX7_spread 1 = .ok (.istore_n 1, 1) := by decide +kernel
theorem dX7_spread_2 : decode cX7_spread 2 = .ok (.iload_n 1, 1) := by decide +kernel
theorem dX7_spread_3 : decode cX7_spread 3 = .ok (.aload_n 0, 1) := by decide +kernel
theorem dX7_spread_4 : decode cX7_spread 4 = .ok (.getfield 27, 3) := by decide +kernel
theorem dX7_spread_7 : decode cX7_spread 7 = .ok (.arraylength, 1) := by decide +kernel
theorem dX7_spread_8 : decode cX7_spread 8 = .ok (.if_icmp .ge 17, 3) := by decide +kernel
theorem dX7_spread_11 : decode cX7_spread 11 = .ok (.aload_n 0, 1) := by decide +kernel
theorem dX7_spread_12 : decode cX7_spread 12 = .ok (.getfield 27, 3) := by decide +kernel
theorem dX7_spread_15 : decode cX7_spread 15 = .ok (.iload_n 1, 1) := by decide +kernel
theorem dX7_spread_16 : decode cX7_spread 16 = .ok (.ldc 105, 2) := by decide +kernel
theorem dX7_spread_18 : decode cX7_spread 18 = .ok (.iastore, 1) := by decide +kernel
theorem dX7_spread_19 : decode cX7_spread 19 = .ok (.iinc 1 1, 3) := by decide +kernel
theorem dX7_spread_22 : decode cX7_spread 22 = .ok (.goto (-20), 3) := by decide +kernel
theorem dX7_spread_25 : decode cX7_spread 25 = .ok (.iconst 0, 1) := by decide +kernel
theorem dX7_spread_26 : decode cX7_spread 26 = .ok (.istore_n 1, 1) := by decide +kernel
theorem dX7_spread_27 : decode cX7_spread 27 = .ok (.aload_n 0, 1) := by decide +kernel
theorem dX7_spread_28 : decode cX7_spread 28 = .ok (.getfield 13, 3) := by decide +kernel
theorem dX7_spread_31 : decode cX7_spread 31 = .ok (.ineg, 1) := by decide +kernel
theorem dX7_spread_32 : decode cX7_spread 32 = .ok (.istore_n 2, 1) := by decide +kernel
theorem dX7_spread_33 : decode cX7_spread 33 = .ok (.iload_n 2, 1) := by decide +kernel
theorem dX7_spread_34 : decode cX7_spread 34 = .ok (.aload_n 0, 1) := by decide +kernel
theorem dX7_spread_35 : decode cX7_spread 35 = .ok (.getfield 13, 3) := by decide +kernel
theorem dX7_spread_38 : decode cX7_spread 38 = .ok (.if_icmp .gt 48, 3) := by decide +kernel
theorem dX7_spread_41 : decode cX7_spread 41 = .ok (.aload_n 0, 1) := by decide +kernel
theorem dX7_spread_42 : decode cX7_spread 42 = .ok (.iconst 0, 1) := by decide +kernel
theorem dX7_spread_43 : decode cX7_spread 43 = .ok (.iload_n 2, 1) := by decide +kernel
theorem dX7_spread_44 : decode cX7_spread 44 = .ok (.invokevirtual 106, 3) := by decide +kernel
theorem dX7_spread_47 : decode cX7_spread 47 = .ok (.ifCond .ne 6, 3) := by decide +kernel
theorem dX7_spread_50 : decode cX7_spread 50 = .ok (.goto 30, 3) := by decide +kernel
theorem dX7_spread_53 : decode cX7_spread 53 = .ok (.aload_n 0, 1) := by decide +kernel
theorem dX7_spread_54 : decode cX7_spread 54 = .ok (.getfield 27, 3) := by decide +kernel
theorem dX7_spread_57 : decode cX7_spread 57 = .ok (.iconst 0, 1) := by decide +kernel
theorem dX7_spread_58 : decode cX7_spread 58 = .ok (.iload_n 2, 1) := by decide +kernel
theorem dX7_spread_59 : decode cX7_spread 59 = .ok (.iconst 0, 1) := by decide +kernel
theorem dX7_spread_60 : decode cX7_spread 60 = .ok (.invokestatic 109, 3) := by decide +kernel
theorem dX7_spread_63 : decode cX7_spread 63 = .ok (.iconst 0, 1) := by decide +kernel
theorem dX7_spread_64 : decode cX7_spread 64 = .ok (.iastore, 1) := by decide +kernel
theorem dX7_spread_65 : decode cX7_spread 65 = .ok (.aload_n 0, 1) := by decide +kernel
theorem dX7_spread_66 : decode cX7_spread 66 = .ok (.getfield 30, 3) := by decide +kernel
theorem dX7_spread_69 : decode cX7_spread 69 = .ok (.iload_n 1, 1) := by decide +kernel
theorem dX7_spread_70 : decode cX7_spread 70 = .ok (.iconst 0, 1) := by decide +kernel
theorem dX7_spread_71 : decode cX7_spread 71 = .ok (.iload_n 2, 1) := by decide +kernel
theorem dX7_spread_72 : decode cX7_spread 72 = .ok (.iconst 0, 1) := by decide +kernel
theorem dX7_spread_73 : decode cX7_spread 73 = .ok (.invokestatic 109, 3) := by decide +kernel
theorem dX7_spread_76 : decode cX7_spread 76 = .ok (.iastore, 1) := by decide +kernel
theorem dX7_spread_77 : decode cX7_spread 77 = .ok (.iinc 1 1, 3) := by decide +kernel
theorem dX7_spread_80 : decode cX7_spread 80 = .ok (.iinc 2 1, 3) := by decide +kernel
theorem dX7_spread_83 : decode cX7_spread 83 = .ok (.goto (-50), 3) := by decide +kernel
theorem dX7_spread_86 : decode cX7_spread 86 = .ok (.iconst 0, 1) := by decide +kernel
theorem dX7_spread_87 : decode cX7_spread 87 = .ok (.istore_n 2, 1) := by decide +kernel
theorem dX7_spread_88 : decode cX7_spread 88 = .ok (.iload_n 2, 1) := by decide +kernel
theorem dX7_spread_89 : decode cX7_spread 89 = .ok (.iload_n 1, 1) := by decide +kernel
theorem dX7_spread_90 : decode cX7_spread 90 = .ok (.if_icmp .ge 184, 3) := by decide +kernel
theorem dX7_spread_93 : decode cX7_spread 93 = .ok (.aload_n 0, 1) := by decide +kernel
theorem dX7_spread_94 : decode cX7_spread 94 = .ok (.getfield 30, 3) := by decide +kernel
theorem dX7_spread_97 : decode cX7_spread 97 = .ok (.iload_n 2, 1) := by decide +kernel
theorem dX7_spread_98 : decode cX7_spread 98 = .ok (.iaload, 1) := by decide +kernel
theorem dX7_spread_99 : decode cX7_spread 99 = .ok (.sipush 201, 3) := by decide +kernel
theorem dX7_spread_102 : decode cX7_spread 102 = .ok (.irem, 1) := by decide +kernel
theorem dX7_spread_103 : decode cX7_spread 103 = .ok (.istore_n 3, 1) := by decide +kernel
theorem dX7_spread_104 : decode cX7_spread 104 = .ok (.aload_n 0, 1) := by decide +kernel
theorem dX7_spread_105 : decode cX7_spread 105 = .ok (.getfield 30, 3) := by decide +kernel
theorem dX7_spread_108 : decode cX7_spread 108 = .ok (.iload_n 2, 1) := by decide +kernel
theorem dX7_spread_109 : decode cX7_spread 109 = .ok (.iaload, 1) := by decide +kernel
theorem dX7_spread_110 : decode cX7_spread 110 = .ok (.sipush 201, 3) := by decide +kernel
theorem dX7_spread_113 : decode cX7_spread 113 = .ok (.idiv, 1) := by decide +kernel
theorem dX7_spread_114 : decode cX7_spread 114 = .ok (.bipush 9, 2) := by decide +kernel
theorem dX7_spread_116 : decode cX7_spread 116 = .ok (.idiv, 1) := by decide +kernel
theorem dX7_spread_117 : decode cX7_spread 117 = .ok (.istore 4, 2) := by decide +kernel
theorem dX7_spread_119 : decode cX7_spread 119 = .ok (.aload_n 0, 1) := by decide +kernel
theorem dX7_spread_120 : decode cX7_spread 120 = .ok (.getfield 30, 3) := by decide +kernel
theorem dX7_spread_123 : decode cX7_spread 123 = .ok (.iload_n 2, 1) := by decide +kernel
theorem dX7_spread_124 : decode cX7_spread 124 = .ok (.iaload, 1) := by decide +kernel
theorem dX7_spread_125 : decode cX7_spread 125 = .ok (.sipush 201, 3) := by decide +kernel
theorem dX7_spread_128 : decode cX7_spread 128 = .ok (.idiv, 1) := by decide +kernel
theorem dX7_spread_129 : decode cX7_spread 129 = .ok (.bipush 9, 2) := by decide +kernel
theorem dX7_spread_131 : decode cX7_spread 131 = .ok (.irem, 1) := by decide +kernel
theorem dX7_spread_132 : decode cX7_spread 132 = .ok (.iconst 4, 1) := by decide +kernel
theorem dX7_spread_133 : decode cX7_spread 133 = .ok (.isub, 1) := by decide +kernel
theorem dX7_spread_134 : decode cX7_spread 134 = .ok (.istore 5, 2) := by decide +kernel
theorem dX7_spread_136 : decode cX7_spread 136 = .ok (.iload 4, 2) := by decide +kernel
theorem dX7_spread_138 : decode cX7_spread 138 = .ok (.iload 5, 2) := by decide +kernel
theorem dX7_spread_140 : decode cX7_spread 140 = .ok (.isub, 1) := by decide +kernel
theorem dX7_spread_141 : decode cX7_spread 141 = .ok (.istore 6, 2) := by decide +kernel
theorem dX7_spread_143 : decode cX7_spread 143 = .ok (.iload_n 3, 1) := by decide +kernel
theorem dX7_spread_144 : decode cX7_spread 144 = .ok (.iload 4, 2) := by decide +kernel
theorem dX7_spread_146 : decode cX7_spread 146 = .ok (.iadd, 1) := by decide +kernel
theorem dX7_spread_147 : decode cX7_spread 147 = .ok (.sipush 200, 3) := by decide +kernel
theorem dX7_spread_150 : decode cX7_spread 150 = .ok (.if_icmp .gt 118, 3) := by decide +kernel
theorem dX7_spread_153 : decode cX7_spread 153 = .ok (.iload 6, 2) := by decide +kernel
theorem dX7_spread_155 : decode cX7_spread 155 = .ok (.ifCond .lt 113, 3) := by decide +kernel
theorem dX7_spread_158 : decode cX7_spread 158 = .ok (.iload 6, 2) := by decide +kernel
theorem dX7_spread_160 : decode cX7_spread 160 = .ok (.aload_n 0, 1) := by decide +kernel
theorem dX7_spread_161 : decode cX7_spread 161 = .ok (.getfield 7, 3) := by decide +kernel
theorem dX7_spread_164 : decode cX7_spread 164 = .ok (.if_icmp .le 6, 3) := by decide +kernel
theorem dX7_spread_167 : decode cX7_spread 167 = .ok (.goto 101, 3) := by decide +kernel
theorem dX7_spread_170 : decode cX7_spread 170 = .ok (.aload_n 0, 1) := by decide +kernel
theorem dX7_spread_171 : decode cX7_spread 171 = .ok (.getfield 13, 3) := by decide +kernel
theorem dX7_spread_174 : decode cX7_spread 174 = .ok (.ineg, 1) := by decide +kernel
theorem dX7_spread_175 : decode cX7_spread 175 = .ok (.istore 7, 2) := by decide +kernel
theorem dX7_spread_177 : decode cX7_spread 177 = .ok (.iload 7, 2) := by decide +kernel
theorem dX7_spread_179 : decode cX7_spread 179 = .ok (.aload_n 0, 1) := by decide +kernel
theorem dX7_spread_180 : decode cX7_spread 180 = .ok (.getfield 13, 3) := by decide +kernel
theorem dX7_spread_183 : decode cX7_spread 183 = .ok (.if_icmp .gt 85, 3) := by decide +kernel
theorem dX7_spread_186 : decode cX7_spread 186 = .ok (.iload 6, 2) := by decide +kernel
theorem dX7_spread_188 : decode cX7_spread 188 = .ok (.iload 7, 2) := by decide +kernel
theorem dX7_spread_190 : decode cX7_spread 190 = .ok (.iload_n 3, 1) := by decide +kernel
theorem dX7_spread_191 : decode cX7_spread 191 = .ok (.iload 4, 2) := by decide +kernel
theorem dX7_spread_193 : decode cX7_spread 193 = .ok (.iadd, 1) := by decide +kernel
theorem dX7_spread_194 : decode cX7_spread 194 = .ok (.invokestatic 109, 3) := by decide +kernel
theorem dX7_spread_197 : decode cX7_spread 197 = .ok (.istore 8, 2) := by decide +kernel
theorem dX7_spread_199 : decode cX7_spread 199 = .ok (.aload_n 0, 1) := by decide +kernel
theorem dX7_spread_200 : decode cX7_spread 200 = .ok (.getfield 27, 3) := by decide +kernel
theorem dX7_spread_203 : decode cX7_spread 203 = .ok (.iload 8, 2) := by decide +kernel
theorem dX7_spread_205 : decode cX7_spread 205 = .ok (.iaload, 1) := by decide +kernel
theorem dX7_spread_206 : decode cX7_spread 206 = .ok (.ldc 105, 2) := by decide +kernel
theorem dX7_spread_208 : decode cX7_spread 208 = .ok (.if_icmp .ne 54, 3) := by decide +kernel
theorem dX7_spread_211 : decode cX7_spread 211 = .ok (.aload_n 0, 1) := by decide +kernel
theorem dX7_spread_212 : decode cX7_spread 212 = .ok (.iload 6, 2) := by decide +kernel
theorem dX7_spread_214 : decode cX7_spread 214 = .ok (.iload 7, 2) := by decide +kernel
theorem dX7_spread_216 : decode cX7_spread 216 = .ok (.iload 5, 2) := by decide +kernel
theorem dX7_spread_218 : decode cX7_spread 218 = .ok (.aload_n 0, 1) := by decide +kernel
theorem dX7_spread_219 : decode cX7_spread 219 = .ok (.getfield 90, 3) := by decide +kernel
theorem dX7_spread_222 : decode cX7_spread 222 = .ok (.invokevirtual 113, 3) := by decide +kernel
theorem dX7_spread_225 : decode cX7_spread 225 = .ok (.ifCond .ne 6, 3) := by decide +kernel
theorem dX7_spread_228 : decode cX7_spread 228 = .ok (.goto 34, 3) := by decide +kernel
theorem dX7_spread_231 : decode cX7_spread 231 = .ok (.aload_n 0, 1) := by decide +kernel
theorem dX7_spread_232 : decode cX7_spread 232 = .ok (.getfield 27, 3) := by decide +kernel
theorem dX7_spread_235 : decode cX7_spread 235 = .ok (.iload 8, 2) := by decide +kernel
theorem dX7_spread_237 : decode cX7_spread 237 = .ok (.aload_n 0, 1) := by decide +kernel
theorem dX7_spread_238 : decode cX7_spread 238 = .ok (.getfield 27, 3) := by decide +kernel
theorem dX7_spread_241 : decode cX7_spread 241 = .ok (.aload_n 0, 1) := by decide +kernel
theorem dX7_spread_242 : decode cX7_spread 242 = .ok (.getfield 30, 3) := by decide +kernel
theorem dX7_spread_245 : decode cX7_spread 245 = .ok (.iload_n 2, 1) := by decide +kernel
theorem dX7_spread_246 : decode cX7_spread 246 = .ok (.iaload, 1) := by decide +kernel
theorem dX7_spread_247 : decode cX7_spread 247 = .ok (.iaload, 1) := by decide +kernel
theorem dX7_spread_248 : decode cX7_spread 248 = .ok (.iconst 1, 1) := by decide +kernel
theorem dX7_spread_249 : decode cX7_spread 249 = .ok (.iadd, 1) := by decide +kernel
theorem dX7_spread_250 : decode cX7_spread 250 = .ok (.iastore, 1) := by decide +kernel
theorem dX7_spread_251 : decode cX7_spread 251 = .ok (.aload_n 0, 1) := by decide +kernel
theorem dX7_spread_252 : decode cX7_spread 252 = .ok (.getfield 30, 3) := by decide +kernel
theorem dX7_spread_255 : decode cX7_spread 255 = .ok (.iload_n 1, 1) := by decide +kernel
theorem dX7_spread_256 : decode cX7_spread 256 = .ok (.iload 8, 2) := by decide +kernel
theorem dX7_spread_258 : decode cX7_spread 258 = .ok (.iastore, 1) := by decide +kernel
theorem dX7_spread_259 : decode cX7_spread 259 = .ok (.iinc 1 1, 3) := by decide +kernel
theorem dX7_spread_262 : decode cX7_spread 262 = .ok (.iinc 7 1, 3) := by decide +kernel
theorem dX7_spread_265 : decode cX7_spread 265 = .ok (.goto (-88), 3) := by decide +kernel
theorem dX7_spread_268 : decode cX7_spread 268 = .ok (.iinc 2 1, 3) := by decide +kernel
theorem dX7_spread_271 : decode cX7_spread 271 = .ok (.goto (-183), 3) := by decide +kernel
theorem dX7_spread_274 : decode cX7_spread 274 = .ok (.return_, 1) := by decide +kernel
theorem dX7_ramps_0 : decode cX7_ramps 0 = .ok (.aload_n 0, 1) := by decide +kernel
theorem dX7_ramps_1 : decode cX7_ramps 1 = .ok (.invokevirtual 117, 3) := by decide +kernel
theorem dX7_ramps_4 : decode cX7_ramps 4 = .ok (.aload_n 0, 1) := by decide +kernel
theorem dX7_ramps_5 : decode cX7_ramps 5 = .ok (.iconst 0, 1) := by decide +kernel
theorem dX7_ramps_6 : decode cX7_ramps 6 = .ok (.putfield 120, 3) := by decide +kernel
theorem dX7_ramps_9 : decode cX7_ramps 9 = .ok (.iload_n 1, 1) := by decide +kernel
theorem dX7_ramps_10 : decode cX7_ramps 10 = .ok (.ifCond .ne 5, 3) := by decide +kernel
theorem dX7_ramps_13 : decode cX7_ramps 13 = .ok (.iconst 1, 1) := by decide +kernel
theorem dX7_ramps_14 : decode cX7_ramps 14 = .ok (.ireturn, 1) := by decide +kernel
theorem dX7_ramps_15 : decode cX7_ramps 15 = .ok (.aload_n 0, 1) := by decide +kernel
theorem dX7_ramps_16 : decode cX7_ramps 16 = .ok (.getfield 27, 3) := by decide +kernel
theorem dX7_ramps_19 : decode cX7_ramps 19 = .ok (.iconst 0, 1) := by decide +kernel
theorem dX7_ramps_20 : decode cX7_ramps 20 = .ok (.iconst 0, 1) := by decide +kernel
theorem dX7_ramps_21 : decode cX7_ramps 21 = .ok (.iload_n 1, 1) := by decide +kernel
theorem dX7_ramps_22 : decode cX7_ramps 22 = .ok (.invokestatic 109, 3) := by decide +kernel
theorem dX7_ramps_25 : decode cX7_ramps 25 = .ok (.iaload, 1) := by decide +kernel
theorem dX7_ramps_26 : decode cX7_ramps 26 = .ok (.ldc 105, 2) := by decide +kernel
theorem dX7_ramps_28 : decode cX7_ramps 28 = .ok (.if_icmp .ne 5, 3) := by decide +kernel
theorem dX7_ramps_31 : decode cX7_ramps 31 = .ok (.iconst 0, 1) := by decide +kernel
theorem dX7_ramps_32 : decode cX7_ramps 32 = .ok (.ireturn, 1) := by decide +kernel
theorem dX7_ramps_33 : decode cX7_ramps 33 = .ok (.iconst 0, 1) := by decide +kernel
theorem dX7_ramps_34 : decode cX7_ramps 34 = .ok (.istore_n 2, 1) := by decide +kernel
theorem dX7_ramps_35 : decode cX7_ramps 35 = .ok (.iconst 0, 1) := by decide +kernel
theorem dX7_ramps_36 : decode cX7_ramps 36 = .ok (.istore_n 3, 1) := by decide +kernel
theorem dX7_ramps_37 : decode cX7_ramps 37 = .ok (.iload_n 1, 1) := by decide +kernel
theorem dX7_ramps_38 : decode cX7_ramps 38 = .ok (.istore 4, 2) := by decide +kernel
theorem dX7_ramps_40 : decode cX7_ramps 40 = .ok (.aload_n 0, 1) := by decide +kernel
theorem dX7_ramps_41 : decode cX7_ramps 41 = .ok (.getfield 27, 3) := by decide +kernel
theorem dX7_ramps_44 : decode cX7_ramps 44 = .ok (.iload_n 2, 1) := by decide +kernel
theorem dX7_ramps_45 : decode cX7_ramps 45 = .ok (.iload_n 3, 1) := by decide +kernel
theorem dX7_ramps_46 : decode cX7_ramps 46 = .ok (.iload 4, 2) := by decide +kernel
theorem dX7_ramps_48 : decode cX7_ramps 48 = .ok (.invokestatic 109, 3) := by decide +kernel
theorem dX7_ramps_51 : decode cX7_ramps 51 = .ok (.iaload, 1) := by decide +kernel
theorem dX7_ramps_52 : decode cX7_ramps 52 = .ok (.ifCond .le 115, 3) := by decide +kernel
theorem dX7_ramps_55 : decode cX7_ramps 55 = .ok (.aload_n 0, 1) := by decide +kernel
theorem dX7_ramps_56 : decode cX7_ramps 56 = .ok (.getfield 13, 3) := by decide +kernel
theorem dX7_ramps_59 : decode cX7_ramps 59 = .ok (.istore 5, 2) := by decide +kernel
theorem dX7_ramps_61 : decode cX7_ramps 61 = .ok (.aload_n 0, 1) := by decide +kernel
theorem dX7_ramps_62 : decode cX7_ramps 62 = .ok (.iload_n 2, 1) := by decide +kernel
theorem dX7_ramps_63 : decode cX7_ramps 63 = .ok (.iload_n 3, 1) := by decide +kernel
theorem dX7_ramps_64 : decode cX7_ramps 64 = .ok (.iload 5, 2) := by decide +kernel
theorem dX7_ramps_66 : decode cX7_ramps 66 = .ok (.aload_n 0, 1) := by decide +kernel
theorem dX7_ramps_67 : decode cX7_ramps 67 = .ok (.getfield 90, 3) := by decide +kernel
theorem dX7_ramps_70 : decode cX7_ramps 70 = .ok (.invokevirtual 113, 3) := by decide +kernel
theorem dX7_ramps_73 : decode cX7_ramps 73 = .ok (.ifCond .eq 50, 3) := by decide +kernel
theorem dX7_ramps_76 : decode cX7_ramps 76 = .ok (.iload_n 2, 1) := by decide +kernel
theorem dX7_ramps_77 : decode cX7_ramps 77 = .ok (.iload 5, 2) := by decide +kernel
theorem dX7_ramps_79 : decode cX7_ramps 79 = .ok (.iadd, 1) := by decide +kernel
theorem dX7_ramps_80 : decode cX7_ramps 80 = .ok (.iload 4, 2) := by decide +kernel
theorem dX7_ramps_82 : decode cX7_ramps 82 = .ok (.if_icmp .gt 41, 3) := by decide +kernel
theorem dX7_ramps_85 : decode cX7_ramps 85 = .ok (.aload_n 0, 1) := by decide +kernel
theorem dX7_ramps_86 : decode cX7_ramps 86 = .ok (.getfield 27, 3) := by decide +kernel
theorem dX7_ramps_89 : decode cX7_ramps 89 = .ok (.iload_n 2, 1) := by decide +kernel
theorem dX7_ramps_90 : decode cX7_ramps 90 = .ok (.iload 5, 2) := by decide +kernel
theorem dX7_ramps_92 : decode cX7_ramps 92 = .ok (.iadd, 1) := by decide +kernel
theorem dX7_ramps_93 : decode cX7_ramps 93 = .ok (.iload 5, 2) := by decide +kernel
theorem dX7_ramps_95 : decode cX7_ramps 95 = .ok (.iload 4, 2) := by decide +kernel
theorem dX7_ramps_97 : decode cX7_ramps 97 = .ok (.iload_n 2, 1) := by decide +kernel
theorem dX7_ramps_98 : decode cX7_ramps 98 = .ok (.isub, 1) := by decide +kernel
theorem dX7_ramps_99 : decode cX7_ramps 99 = .ok (.iload 5, 2) := by decide +kernel
theorem dX7_ramps_101 : decode cX7_ramps 101 = .ok (.isub, 1) := by decide +kernel
theorem dX7_ramps_102 : decode cX7_ramps 102 = .ok (.invokestatic 109, 3) := by decide +kernel
theorem dX7_ramps_105 : decode cX7_ramps 105 = .ok (.iaload, 1) := by decide +kernel
theorem dX7_ramps_106 : decode cX7_ramps 106 = .ok (.aload_n 0, 1) := by decide +kernel
theorem dX7_ramps_107 : decode cX7_ramps 107 = .ok (.getfield 27, 3) := by decide +kernel
theorem dX7_ramps_110 : decode cX7_ramps 110 = .ok (.iload_n 2, 1) := by decide +kernel
theorem dX7_ramps_111 : decode cX7_ramps 111 = .ok (.iload_n 3, 1) := by decide +kernel
theorem dX7_ramps_112 : decode cX7_ramps 112 = .ok (.iload 4, 2) := by decide +kernel
theorem dX7_ramps_114 : decode cX7_ramps 114 = .ok (.invokestatic 109, 3) := by decide +kernel
theorem dX7_ramps_117 : decode cX7_ramps 117 = .ok (.iaload, 1) := by decide +kernel
theorem dX7_ramps_118 : decode cX7_ramps 118 = .ok (.iconst 1, 1) := by decide +kernel
theorem dX7_ramps_119 : decode cX7_ramps 119 = .ok (.isub, 1) := by decide +kernel
theorem dX7_ramps_120 : decode cX7_ramps 120 = .ok (.if_icmp .eq 9, 3) := by decide +kernel
theorem dX7_ramps_123 : decode cX7_ramps 123 = .ok (.iinc 5 (-1), 3) := by decide +kernel
theorem dX7_ramps_126 : decode cX7_ramps 126 = .ok (.goto (-65), 3) := by decide +kernel
theorem dX7_ramps_129 : decode cX7_ramps 129 = .ok (.aload_n 0, 1) := by decide +kernel
theorem dX7_ramps_130 : decode cX7_ramps 130 = .ok (.getfield 33, 3) := by decide +kernel
theorem dX7_ramps_133 : decode cX7_ramps 133 = .ok (.aload_n 0, 1) := by decide +kernel
theorem dX7_ramps_134 : decode cX7_ramps 134 = .ok (.getfield 120, 3) := by decide +kernel
theorem dX7_ramps_137 : decode cX7_ramps 137 = .ok (.iload 5, 2) := by decide +kernel
theorem dX7_ramps_139 : decode cX7_ramps 139 = .ok (.iastore, 1) := by decide +kernel
theorem dX7_ramps_140 : decode cX7_ramps 140 = .ok (.aload_n 0, 1) := by decide +kernel
theorem dX7_ramps_141 : decode cX7_ramps 141 = .ok (.dup, 1) := by decide +kernel
theorem dX7_ramps_142 : decode cX7_ramps 142 = .ok (.getfield 120, 3) := by decide +kernel
theorem dX7_ramps_145 : decode cX7_ramps 145 = .ok (.iconst 1, 1) := by decide +kernel
theorem dX7_ramps_146 : decode cX7_ramps 146 = .ok (.iadd, 1) := by decide +kernel
theorem dX7_ramps_147 : decode cX7_ramps 147 = .ok (.putfield 120, 3) := by decide +kernel
theorem dX7_ramps_150 : decode cX7_ramps 150 = .ok (.iload_n 2, 1) := by decide +kernel
theorem dX7_ramps_151 : decode cX7_ramps 151 = .ok (.iload 5, 2) := by decide +kernel
theorem dX7_ramps_153 : decode cX7_ramps 153 = .ok (.iadd, 1) := by decide +kernel
theorem dX7_ramps_154 : decode cX7_ramps 154 = .ok (.istore_n 2, 1) := by decide +kernel
theorem dX7_ramps_155 : decode cX7_ramps 155 = .ok (.iload 5, 2) := by decide +kernel
theorem dX7_ramps_157 : decode cX7_ramps 157 = .ok (.istore_n 3, 1) := by decide +kernel
theorem dX7_ramps_158 : decode cX7_ramps 158 = .ok (.iload 4, 2) := by decide +kernel
theorem dX7_ramps_160 : decode cX7_ramps 160 = .ok (.iload_n 2, 1) := by decide +kernel
theorem dX7_ramps_161 : decode cX7_ramps 161 = .ok (.isub, 1) := by decide +kernel
theorem dX7_ramps_162 : decode cX7_ramps 162 = .ok (.istore 4, 2) := by decide +kernel
theorem dX7_ramps_164 : decode cX7_ramps 164 = .ok (.goto (-124), 3) := by decide +kernel
theorem dX7_ramps_167 : decode cX7_ramps 167 = .ok (.iconst 1, 1) := by decide +kernel
theorem dX7_ramps_168 : decode cX7_ramps 168 = .ok (.ireturn, 1) := by decide +kernel
theorem dX7_ramp_0 : decode cX7_ramp 0 = .ok (.aload_n 0, 1) := by decide +kernel
theorem dX7_ramp_1 : decode cX7_ramp 1 = .ok (.iconst 0, 1) := by decide +kernel
theorem dX7_ramp_2 : decode cX7_ramp 2 = .ok (.putfield 73, 3) := by decide +kernel
theorem dX7_ramp_5 : decode cX7_ramp 5 = .ok (.iload_n 1, 1) := by decide +kernel
theorem dX7_ramp_6 : decode cX7_ramp 6 = .ok (.iconst 0, 1) := by decide +kernel
theorem dX7_ramp_7 : decode cX7_ramp 7 = .ok (.sipush 200, 3) := by decide +kernel
theorem dX7_ramp_10 : decode cX7_ramp 10 = .ok (.invokestatic 80, 3) := by decide +kernel
theorem dX7_ramp_13 : decode cX7_ramp 13 = .ok (.ifCond .eq 18, 3) := by decide +kernel
theorem dX7_ramp_16 : decode cX7_ramp 16 = .ok (.aload_n 0, 1) := by decide +kernel
theorem dX7_ramp_17 : decode cX7_ramp 17 = .ok (.iload_n 1, 1) := by decide +kernel
theorem dX7_ramp_18 : decode cX7_ramp 18 = .ok (.invokevirtual 123, 3) := by decide +kernel
theorem dX7_ramp_21 : decode cX7_ramp 21 = .ok (.ifCond .eq 10, 3) := by decide +kernel
theorem dX7_ramp_24 : decode cX7_ramp 24 = .ok (.aload_n 0, 1) := by decide +kernel
theorem dX7_ramp_25 : decode cX7_ramp 25 = .ok (.getfield 120, 3) := by decide +kernel
theorem dX7_ramp_28 : decode cX7_ramp 28 = .ok (.goto 4, 3) := by decide +kernel
theorem dX7_ramp_31 : decode cX7_ramp 31 = .ok (.iconst (-1), 1) := by decide +kernel
theorem dX7_ramp_32 : decode cX7_ramp 32 = .ok (.ireturn, 1) := by decide +kernel
theorem dX7_speed_0 : decode cX7_speed 0 = .ok (.aload_n 0, 1) := by decide +kernel
theorem dX7_speed_1 : decode cX7_speed 1 = .ok (.iconst 0, 1) := by decide +kernel
theorem dX7_speed_2 : decode cX7_speed 2 = .ok (.putfield 73, 3) := by decide +kernel
theorem dX7_speed_5 : decode cX7_speed 5 = .ok (.iload_n 1, 1) := by decide +kernel
theorem dX7_speed_6 : decode cX7_speed 6 = .ok (.iconst 0, 1) := by decide +kernel
theorem dX7_speed_7 : decode cX7_speed 7 = .ok (.sipush 200, 3) := by decide +kernel
theorem dX7_speed_10 : decode cX7_speed 10 = .ok (.invokestatic 80, 3) := by decide +kernel
theorem dX7_speed_13 : decode cX7_speed 13 = .ok (.ifCond .eq 23, 3) := by decide +kernel
theorem dX7_speed_16 : decode cX7_speed 16 = .ok (.aload_n 0, 1) := by decide +kernel
theorem dX7_speed_17 : decode cX7_speed 17 = .ok (.iload_n 1, 1) := by decide +kernel
theorem dX7_speed_18 : decode cX7_speed 18 = .ok (.invokevirtual 123, 3) := by decide +kernel
theorem dX7_speed_21 : decode cX7_speed 21 = .ok (.ifCond .eq 15, 3) := by decide +kernel
theorem dX7_speed_24 : decode cX7_speed 24 = .ok (.iload_n 2, 1) := by decide +kernel
theorem dX7_speed_25 : decode cX7_speed 25 = .ok (.ifCond .lt 11, 3) := by decide +kernel
theorem dX7_speed_28 : decode cX7_speed 28 = .ok (.iload_n 2, 1) := by decide +kernel
theorem dX7_speed_29 : decode cX7_speed 29 = .ok (.aload_n 0, 1) := by decide +kernel
theorem dX7_speed_30 : decode cX7_speed 30 = .ok (.getfield 120, 3) := by decide +kernel
theorem dX7_speed_33 : decode cX7_speed 33 = .ok (.if_icmp .lt 5, 3) := by decide +kernel
theorem dX7_speed_36 : decode cX7_speed 36 = .ok (.iconst (-1), 1) := by decide +kernel
theorem dX7_speed_37 : decode cX7_speed 37 = .ok (.ireturn, 1) := by decide +kernel
theorem dX7_speed_38 : decode cX7_speed 38 = .ok (.iconst 0, 1) := by decide +kernel
theorem dX7_speed_39 : decode cX7_speed 39 = .ok (.istore_n 3, 1) := by decide +kernel
theorem dX7_speed_40 : decode cX7_speed 40 = .ok (.iconst 0, 1) := by decide +kernel
theorem dX7_speed_41 : decode cX7_speed 41 = .ok (.istore 4, 2) := by decide +kernel
theorem dX7_speed_43 : decode cX7_speed 43 = .ok (.iload 4, 2) := by decide +kernel
theorem dX7_speed_45 : decode cX7_speed 45 = .ok (.iload_n 2, 1) := by decide +kernel
theorem dX7_speed_46 : decode cX7_speed 46 = .ok (.if_icmp .gt 19, 3) := by decide +kernel
theorem dX7_speed_49 : decode cX7_speed 49 = .ok (.iload_n 3, 1) := by decide +kernel
theorem dX7_speed_50 : decode cX7_speed 50 = .ok (.aload_n 0, 1) := by decide +kernel
theorem dX7_speed_51 : decode cX7_speed 51 = .ok (.getfield 33, 3) := by decide +kernel
theorem dX7_speed_54 : decode cX7_speed 54 = .ok (.iload 4, 2) := by decide +kernel
theorem dX7_speed_56 : decode cX7_speed 56 = .ok (.iaload, 1) := by decide +kernel
theorem dX7_speed_57 : decode cX7_speed 57 = .ok (.iadd, 1) := by decide +kernel
theorem dX7_speed_58 : decode cX7_speed 58 = .ok (.istore_n 3, 1) := by decide +kernel
theorem dX7_speed_59 : decode cX7_speed 59 = .ok (.iinc 4 1, 3) := by decide +kernel
theorem dX7_speed_62 : decode cX7_speed 62 = .ok (.goto (-19), 3) := by decide +kernel
theorem dX7_speed_65 : decode cX7_speed 65 = .ok (.iload_n 3, 1) := by decide +kernel
theorem dX7_speed_66 : decode cX7_speed 66 = .ok (.ireturn, 1) := by decide +kernel
theorem dX7_of_0 : decode cX7_of 0 = .ok (.iload_n 0, 1) := by decide +kernel
theorem dX7_of_1 : decode cX7_of 1 = .ok (.bipush 9, 2) := by decide +kernel
theorem dX7_of_3 : decode cX7_of 3 = .ok (.imul, 1) := by decide +kernel
theorem dX7_of_4 : decode cX7_of 4 = .ok (.iload_n 1, 1) := by decide +kernel
theorem dX7_of_5 : decode cX7_of 5 = .ok (.iadd, 1) := by decide +kernel
theorem dX7_of_6 : decode cX7_of 6 = .ok (.iconst 4, 1) := by decide +kernel
theorem dX7_of_7 : decode cX7_of 7 = .ok (.iadd, 1) := by decide +kernel
theorem dX7_of_8 : decode cX7_of 8 = .ok (.ireturn, 1) := by decide +kernel
theorem dX7_slows_0 : decode cX7_slows 0 = .ok (.iconst 0, 1) := by decide +kernel
theorem dX7_slows_1 : decode cX7_slows 1 = .ok (.istore_n 2, 1) := by decide +kernel
theorem dX7_slows_2 : decode cX7_slows 2 = .ok (.iload_n 2, 1) := by decide +kernel
theorem dX7_slows_3 : decode cX7_slows 3 = .ok (.bipush 13, 2) := by decide +kernel
theorem dX7_slows_5 : decode cX7_slows 5 = .ok (.if_icmp .ge 80, 3) := by decide +kernel
theorem dX7_slows_8 : decode cX7_slows 8 = .ok (.bipush (-4), 2) := by decide +kernel
theorem dX7_slows_10 : decode cX7_slows 10 = .ok (.istore_n 3, 1) := by decide +kernel
theorem dX7_slows_11 : decode cX7_slows 11 = .ok (.iload_n 3, 1) := by decide +kernel
theorem dX7_slows_12 : decode cX7_slows 12 = .ok (.iconst 4, 1) := by decide +kernel
theorem dX7_slows_13 : decode cX7_slows 13 = .ok (.if_icmp .gt 66, 3) := by decide +kernel
theorem dX7_slows_16 : decode cX7_slows 16 = .ok (.aload_n 0, 1) := by decide +kernel
theorem dX7_slows_17 : decode cX7_slows 17 = .ok (.iload_n 2, 1) := by decide +kernel
theorem dX7_slows_18 : decode cX7_slows 18 = .ok (.iload_n 3, 1) := by decide +kernel
theorem dX7_slows_19 : decode cX7_slows 19 = .ok (.invokevirtual 99, 3) := by decide +kernel
theorem dX7_slows_22 : decode cX7_slows 22 = .ok (.ifCond .eq 16, 3) := by decide +kernel
theorem dX7_slows_25 : decode cX7_slows 25 = .ok (.aload_n 0, 1) := by decide +kernel
theorem dX7_slows_26 : decode cX7_slows 26 = .ok (.iload_n 2, 1) := by decide +kernel
theorem dX7_slows_27 : decode cX7_slows 27 = .ok (.iload_n 3, 1) := by decide +kernel
theorem dX7_slows_28 : decode cX7_slows 28 = .ok (.invokevirtual 106, 3) := by decide +kernel
theorem dX7_slows_31 : decode cX7_slows 31 = .ok (.ifCond .eq 7, 3) := by decide +kernel
theorem dX7_slows_34 : decode cX7_slows 34 = .ok (.iconst 1, 1) := by decide +kernel
theorem dX7_slows_35 : decode cX7_slows 35 = .ok (.goto 4, 3) := by decide +kernel
theorem dX7_slows_38 : decode cX7_slows 38 = .ok (.iconst 0, 1) := by decide +kernel
theorem dX7_slows_39 : decode cX7_slows 39 = .ok (.istore 4, 2) := by decide +kernel
theorem dX7_slows_41 : decode cX7_slows 41 = .ok (.aload_n 0, 1) := by decide +kernel
theorem dX7_slows_42 : decode cX7_slows 42 = .ok (.getfield 36, 3) := by decide +kernel
theorem dX7_slows_45 : decode cX7_slows 45 = .ok (.iload_n 2, 1) := by decide +kernel
theorem dX7_slows_46 : decode cX7_slows 46 = .ok (.iload_n 3, 1) := by decide +kernel
theorem dX7_slows_47 : decode cX7_slows 47 = .ok (.invokestatic 127, 3) := by decide +kernel
theorem dX7_slows_50 : decode cX7_slows 50 = .ok (.iload 4, 2) := by decide +kernel
theorem dX7_slows_52 : decode cX7_slows 52 = .ok (.ifCond .eq 7, 3) := by decide +kernel
theorem dX7_slows_55 : decode cX7_slows 55 = .ok (.iconst 0, 1) := by decide +kernel
theorem dX7_slows_56 : decode cX7_slows 56 = .ok (.goto 5, 3) := by decide +kernel
theorem dX7_slows_59 : decode cX7_slows 59 = .ok (.ldc 105, 2) := by decide +kernel
theorem dX7_slows_61 : decode cX7_slows 61 = .ok (.iastore, 1) := by decide +kernel
theorem dX7_slows_62 : decode cX7_slows 62 = .ok (.aload_n 0, 1) := by decide +kernel
theorem dX7_slows_63 : decode cX7_slows 63 = .ok (.getfield 39, 3) := by decide +kernel
theorem dX7_slows_66 : decode cX7_slows 66 = .ok (.iload_n 2, 1) := by decide +kernel
theorem dX7_slows_67 : decode cX7_slows 67 = .ok (.iload_n 3, 1) := by decide +kernel
theorem dX7_slows_68 : decode cX7_slows 68 = .ok (.invokestatic 127, 3) := by decide +kernel
theorem dX7_slows_71 : decode cX7_slows 71 = .ok (.iconst 0, 1) := by decide +kernel
theorem dX7_slows_72 : decode cX7_slows 72 = .ok (.iastore, 1) := by decide +kernel
theorem dX7_slows_73 : decode cX7_slows 73 = .ok (.iinc 3 1, 3) := by decide +kernel
theorem dX7_slows_76 : decode cX7_slows 76 = .ok (.goto (-65), 3) := by decide +kernel
theorem dX7_slows_79 : decode cX7_slows 79 = .ok (.iinc 2 1, 3) := by decide +kernel
theorem dX7_slows_82 : decode cX7_slows 82 = .ok (.goto (-80), 3) := by decide +kernel
theorem dX7_slows_85 : decode cX7_slows 85 = .ok (.iconst 1, 1) := by decide +kernel
theorem dX7_slows_86 : decode cX7_slows 86 = .ok (.istore_n 2, 1) := by decide +kernel
theorem dX7_slows_87 : decode cX7_slows 87 = .ok (.iload_n 2, 1) := by decide +kernel
theorem dX7_slows_88 : decode cX7_slows 88 = .ok (.ifCond .eq 209, 3) := by decide +kernel
theorem dX7_slows_91 : decode cX7_slows 91 = .ok (.iconst 0, 1) := by decide +kernel
theorem dX7_slows_92 : decode cX7_slows 92 = .ok (.istore_n 2, 1) := by decide +kernel
theorem dX7_slows_93 : decode cX7_slows 93 = .ok (.iconst 0, 1) := by decide +kernel
theorem dX7_slows_94 : decode cX7_slows 94 = .ok (.istore_n 3, 1) := by decide +kernel
theorem dX7_slows_95 : decode cX7_slows 95 = .ok (.iload_n 3, 1) := by decide +kernel
theorem dX7_slows_96 : decode cX7_slows 96 = .ok (.aload_n 0, 1) := by decide +kernel
theorem dX7_slows_97 : decode cX7_slows 97 = .ok (.getfield 7, 3) := by decide +kernel
theorem dX7_slows_100 : decode cX7_slows 100 = .ok (.if_icmp .gt 194, 3) := by decide +kernel
theorem dX7_slows_103 : decode cX7_slows 103 = .ok (.aload_n 0, 1) := by decide +kernel
theorem dX7_slows_104 : decode cX7_slows 104 = .ok (.getfield 13, 3) := by decide +kernel
theorem dX7_slows_107 : decode cX7_slows 107 = .ok (.ineg, 1) := by decide +kernel
theorem dX7_slows_108 : decode cX7_slows 108 = .ok (.istore 4, 2) := by decide +kernel
theorem dX7_slows_110 : decode cX7_slows 110 = .ok (.iload 4, 2) := by decide +kernel
theorem dX7_slows_112 : decode cX7_slows 112 = .ok (.aload_n 0, 1) := by decide +kernel
theorem dX7_slows_113 : decode cX7_slows 113 = .ok (.getfield 13, 3) := by decide +kernel
theorem dX7_slows_116 : decode cX7_slows 116 = .ok (.if_icmp .gt 172, 3) := by decide +kernel
theorem dX7_slows_119 : decode cX7_slows 119 = .ok (.aload_n 0, 1) := by decide +kernel
theorem dX7_slows_120 : decode cX7_slows 120 = .ok (.getfield 13, 3) := by decide +kernel
theorem dX7_slows_123 : decode cX7_slows 123 = .ok (.ineg, 1) := by decide +kernel
theorem dX7_slows_124 : decode cX7_slows 124 = .ok (.istore 5, 2) := by decide +kernel
theorem dX7_slows_126 : decode cX7_slows 126 = .ok (.iload 5, 2) := by decide +kernel
theorem dX7_slows_128 : decode cX7_slows 128 = .ok (.aload_n 0, 1) := by decide +kernel
theorem dX7_slows_129 : decode cX7_slows 129 = .ok (.getfield 13, 3) := by decide +kernel
theorem dX7_slows_132 : decode cX7_slows 132 = .ok (.if_icmp .gt 150, 3) := by decide +kernel
theorem dX7_slows_135 : decode cX7_slows 135 = .ok (.aload_n 0, 1) := by decide +kernel
theorem dX7_slows_136 : decode cX7_slows 136 = .ok (.iload_n 3, 1) := by decide +kernel
theorem dX7_slows_137 : decode cX7_slows 137 = .ok (.iload 4, 2) := by decide +kernel
theorem dX7_slows_139 : decode cX7_slows 139 = .ok (.iload 5, 2) := by decide +kernel
theorem dX7_slows_141 : decode cX7_slows 141 = .ok (.iload_n 1, 1) := by decide +kernel
theorem dX7_slows_142 : decode cX7_slows 142 = .ok (.invokevirtual 113, 3) := by decide +kernel
theorem dX7_slows_145 : decode cX7_slows 145 = .ok (.ifCond .ne 6, 3) := by decide +kernel
theorem dX7_slows_148 : decode cX7_slows 148 = .ok (.goto 128, 3) := by decide +kernel
theorem dX7_slows_151 : decode cX7_slows 151 = .ok (.iconst 1, 1) := by decide +kernel
theorem dX7_slows_152 : decode cX7_slows 152 = .ok (.aload_n 0, 1) := by decide +kernel
theorem dX7_slows_153 : decode cX7_slows 153 = .ok (.getfield 36, 3) := by decide +kernel
theorem dX7_slows_156 : decode cX7_slows 156 = .ok (.iload_n 3, 1) := by decide +kernel
theorem dX7_slows_157 : decode cX7_slows 157 = .ok (.iload 5, 2) := by decide +kernel
theorem dX7_slows_159 : decode cX7_slows 159 = .ok (.iadd, 1) := by decide +kernel
theorem dX7_slows_160 : decode cX7_slows 160 = .ok (.iload 5, 2) := by decide +kernel
theorem dX7_slows_162 : decode cX7_slows 162 = .ok (.invokestatic 127, 3) := by decide +kernel
theorem dX7_slows_165 : decode cX7_slows 165 = .ok (.iaload, 1) := by decide +kernel
theorem dX7_slows_166 : decode cX7_slows 166 = .ok (.iadd, 1) := by decide +kernel
theorem dX7_slows_167 : decode cX7_slows 167 = .ok (.istore 6, 2) := by decide +kernel
theorem dX7_slows_169 : decode cX7_slows 169 = .ok (.iload_n 3, 1) := by decide +kernel
theorem dX7_slows_170 : decode cX7_slows 170 = .ok (.iload 5, 2) := by decide +kernel
theorem dX7_slows_172 : decode cX7_slows 172 = .ok (.iadd, 1) := by decide +kernel
theorem dX7_slows_173 : decode cX7_slows 173 = .ok (.aload_n 0, 1) := by decide +kernel
theorem dX7_slows_174 : decode cX7_slows 174 = .ok (.getfield 39, 3) := by decide +kernel
theorem dX7_slows_177 : decode cX7_slows 177 = .ok (.iload_n 3, 1) := by decide +kernel
theorem dX7_slows_178 : decode cX7_slows 178 = .ok (.iload 5, 2) := by decide +kernel
theorem dX7_slows_180 : decode cX7_slows 180 = .ok (.iadd, 1) := by decide +kernel
theorem dX7_slows_181 : decode cX7_slows 181 = .ok (.iload 5, 2) := by decide +kernel
theorem dX7_slows_183 : decode cX7_slows 183 = .ok (.invokestatic 127, 3) := by decide +kernel
theorem dX7_slows_186 : decode cX7_slows 186 = .ok (.iaload, 1) := by decide +kernel
theorem dX7_slows_187 : decode cX7_slows 187 = .ok (.iadd, 1) := by decide +kernel
theorem dX7_slows_188 : decode cX7_slows 188 = .ok (.istore 7, 2) := by decide +kernel
theorem dX7_slows_190 : decode cX7_slows 190 = .ok (.iload 6, 2) := by decide +kernel
theorem dX7_slows_192 : decode cX7_slows 192 = .ok (.ldc 105, 2) := by decide +kernel
theorem dX7_slows_194 : decode cX7_slows 194 = .ok (.if_icmp .gt 82, 3) := by decide +kernel
theorem dX7_slows_197 : decode cX7_slows 197 = .ok (.iload 6, 2) := by decide +kernel
theorem dX7_slows_199 : decode cX7_slows 199 = .ok (.aload_n 0, 1) := by decide +kernel
theorem dX7_slows_200 : decode cX7_slows 200 = .ok (.getfield 36, 3) := by decide +kernel
theorem dX7_slows_203 : decode cX7_slows 203 = .ok (.iload_n 3, 1) := by decide +kernel
theorem dX7_slows_204 : decode cX7_slows 204 = .ok (.iload 4, 2) := by decide +kernel
theorem dX7_slows_206 : decode cX7_slows 206 = .ok (.invokestatic 127, 3) := by decide +kernel
theorem dX7_slows_209 : decode cX7_slows 209 = .ok (.iaload, 1) := by decide +kernel
theorem dX7_slows_210 : decode cX7_slows 210 = .ok (.if_icmp .gt 66, 3) := by decide +kernel
theorem dX7_slows_213 : decode cX7_slows 213 = .ok (.iload 6, 2) := by decide +kernel
theorem dX7_slows_215 : decode cX7_slows 215 = .ok (.aload_n 0, 1) := by decide +kernel
theorem dX7_slows_216 : decode cX7_slows 216 = .ok (.getfield 36, 3) := by decide +kernel
theorem dX7_slows_219 : decode cX7_slows 219 = .ok (.iload_n 3, 1) := by decide +kernel
theorem dX7_slows_220 : decode cX7_slows 220 = .ok (.iload 4, 2) := by decide +kernel
theorem dX7_slows_222 : decode cX7_slows 222 = .ok (.invokestatic 127, 3) := by decide +kernel
theorem dX7_slows_225 : decode cX7_slows 225 = .ok (.iaload, 1) := by decide +kernel
theorem dX7_slows_226 : decode cX7_slows 226 = .ok (.if_icmp .ne 22, 3) := by decide +kernel
theorem dX7_slows_229 : decode cX7_slows 229 = .ok (.iload 7, 2) := by decide +kernel
theorem dX7_slows_231 : decode cX7_slows 231 = .ok (.aload_n 0, 1) := by decide +kernel
theorem dX7_slows_232 : decode cX7_slows 232 = .ok (.getfield 39, 3) := by decide +kernel
theorem dX7_slows_235 : decode cX7_slows 235 = .ok (.iload_n 3, 1) := by decide +kernel
theorem dX7_slows_236 : decode cX7_slows 236 = .ok (.iload 4, 2) := by decide +kernel
theorem dX7_slows_238 : decode cX7_slows 238 = .ok (.invokestatic 127, 3) := by decide +kernel
theorem dX7_slows_241 : decode cX7_slows 241 = .ok (.iaload, 1) := by decide +kernel
theorem dX7_slows_242 : decode cX7_slows 242 = .ok (.if_icmp .lt 6, 3) := by decide +kernel
theorem dX7_slows_245 : decode cX7_slows 245 = .ok (.goto 31, 3) := by decide +kernel
theorem dX7_slows_248 : decode cX7_slows 248 = .ok (.aload_n 0, 1) := by decide +kernel
theorem dX7_slows_249 : decode cX7_slows 249 = .ok (.getfield 36, 3) := by decide +kernel
theorem dX7_slows_252 : decode cX7_slows 252 = .ok (.iload_n 3, 1) := by decide +kernel
theorem dX7_slows_253 : decode cX7_slows 253 = .ok (.iload 4, 2) := by decide +kernel
theorem dX7_slows_255 : decode cX7_slows 255 = .ok (.invokestatic 127, 3) := by decide +kernel
theorem dX7_slows_258 : decode cX7_slows 258 = .ok (.iload 6, 2) := by decide +kernel
theorem dX7_slows_260 : decode cX7_slows 260 = .ok (.iastore, 1) := by decide +kernel
theorem dX7_slows_261 : decode cX7_slows 261 = .ok (.aload_n 0, 1) := by decide +kernel
theorem dX7_slows_262 : decode cX7_slows 262 = .ok (.getfield 39, 3) := by decide +kernel
theorem dX7_slows_265 : decode cX7_slows 265 = .ok (.iload_n 3, 1) := by decide +kernel
theorem dX7_slows_266 : decode cX7_slows 266 = .ok (.iload 4, 2) := by decide +kernel
theorem dX7_slows_268 : decode cX7_slows 268 = .ok (.invokestatic 127, 3) := by decide +kernel
theorem dX7_slows_271 : decode cX7_slows 271 = .ok (.iload 7, 2) := by decide +kernel
theorem dX7_slows_273 : decode cX7_slows 273 = .ok (.iastore, 1) := by decide +kernel
theorem dX7_slows_274 : decode cX7_slows 274 = .ok (.iconst 1, 1) := by decide +kernel
theorem dX7_slows_275 : decode cX7_slows 275 = .ok (.istore_n 2, 1) := by decide +kernel
theorem dX7_slows_276 : decode cX7_slows 276 = .ok (.iinc 5 1, 3) := by decide +kernel
theorem dX7_slows_279 : decode cX7_slows 279 = .ok (.goto (-153), 3) := by decide +kernel
theorem dX7_slows_282 : decode cX7_slows 282 = .ok (.iinc 4 1, 3) := by decide +kernel
theorem dX7_slows_285 : decode cX7_slows 285 = .ok (.goto (-175), 3) := by decide +kernel
theorem dX7_slows_288 : decode cX7_slows 288 = .ok (.iinc 3 1, 3) := by decide +kernel
theorem dX7_slows_291 : decode cX7_slows 291 = .ok (.goto (-196), 3) := by decide +kernel
theorem dX7_slows_294 : decode cX7_slows 294 = .ok (.goto (-207), 3) := by decide +kernel
theorem dX7_slows_297 : decode cX7_slows 297 = .ok (.return_, 1) := by decide +kernel
theorem dX7_slowsFrom_0 : decode cX7_slowsFrom 0 = .ok (.aload_n 0, 1) := by decide +kernel
theorem dX7_slowsFrom_1 : decode cX7_slowsFrom 1 = .ok (.getfield 90, 3) := by decide +kernel
theorem dX7_slowsFrom_4 : decode cX7_slowsFrom 4 = .ok (.istore_n 3, 1) := by decide +kernel
theorem dX7_slowsFrom_5 : decode cX7_slowsFrom 5 = .ok (.aload_n 0, 1) := by decide +kernel
theorem dX7_slowsFrom_6 : decode cX7_slowsFrom 6 = .ok (.iload_n 3, 1) := by decide +kernel
theorem dX7_slowsFrom_7 : decode cX7_slowsFrom 7 = .ok (.invokevirtual 131, 3) := by decide +kernel
theorem dX7_slowsFrom_10 : decode cX7_slowsFrom 10 = .ok (.iload_n 3, 1) := by decide +kernel
theorem dX7_slowsFrom_11 : decode cX7_slowsFrom 11 = .ok (.ifCond .eq 25, 3) := by decide +kernel
theorem dX7_slowsFrom_14 : decode cX7_slowsFrom 14 = .ok (.aload_n 0, 1) := by decide +kernel
theorem dX7_slowsFrom_15 : decode cX7_slowsFrom 15 = .ok (.getfield 36, 3) := by decide +kernel
theorem dX7_slowsFrom_18 : decode cX7_slowsFrom 18 = .ok (.iload_n 1, 1) := by decide +kernel
theorem dX7_slowsFrom_19 : decode cX7_slowsFrom 19 = .ok (.iload_n 2, 1) := by decide +kernel
theorem dX7_slowsFrom_20 : decode cX7_slowsFrom 20 = .ok (.invokestatic 127, 3) := by decide +kernel
theorem dX7_slowsFrom_23 : decode cX7_slowsFrom 23 = .ok (.iaload, 1) := by decide +kernel
theorem dX7_slowsFrom_24 : decode cX7_slowsFrom 24 = .ok (.ldc 105, 2) := by decide +kernel
theorem dX7_slowsFrom_26 : decode cX7_slowsFrom 26 = .ok (.if_icmp .ne 10, 3) := by decide +kernel
theorem dX7_slowsFrom_29 : decode cX7_slowsFrom 29 = .ok (.iconst 0, 1) := by decide +kernel
theorem dX7_slowsFrom_30 : decode cX7_slowsFrom 30 = .ok (.istore_n 3, 1) := by decide +kernel
theorem dX7_slowsFrom_31 : decode cX7_slowsFrom 31 = .ok (.aload_n 0, 1) := by decide +kernel
theorem dX7_slowsFrom_32 : decode cX7_slowsFrom 32 = .ok (.iconst 0, 1) := by decide +kernel
theorem dX7_slowsFrom_33 : decode cX7_slowsFrom 33 = .ok (.invokevirtual 131, 3) := by decide +kernel
theorem dX7_slowsFrom_36 : decode cX7_slowsFrom 36 = .ok (.aload_n 0, 1) := by decide +kernel
theorem dX7_slowsFrom_37 : decode cX7_slowsFrom 37 = .ok (.iconst 0, 1) := by decide +kernel
theorem dX7_slowsFrom_38 : decode cX7_slowsFrom 38 = .ok (.putfield 120, 3) := by decide +kernel
theorem dX7_slowsFrom_41 : decode cX7_slowsFrom 41 = .ok (.aload_n 0, 1) := by decide +kernel
theorem dX7_slowsFrom_42 : decode cX7_slowsFrom 42 = .ok (.getfield 36, 3) := by decide +kernel
theorem dX7_slowsFrom_45 : decode cX7_slowsFrom 45 = .ok (.iload_n 1, 1) := by decide +kernel
theorem dX7_slowsFrom_46 : decode cX7_slowsFrom 46 = .ok (.iload_n 2, 1) := by decide +kernel
theorem dX7_slowsFrom_47 : decode cX7_slowsFrom 47 = .ok (.invokestatic 127, 3) := by decide +kernel
theorem dX7_slowsFrom_50 : decode cX7_slowsFrom 50 = .ok (.iaload, 1) := by decide +kernel
theorem dX7_slowsFrom_51 : decode cX7_slowsFrom 51 = .ok (.ldc 105, 2) := by decide +kernel
theorem dX7_slowsFrom_53 : decode cX7_slowsFrom 53 = .ok (.if_icmp .ne 5, 3) := by decide +kernel
theorem dX7_slowsFrom_56 : decode cX7_slowsFrom 56 = .ok (.iconst 0, 1) := by decide +kernel
theorem dX7_slowsFrom_57 : decode cX7_slowsFrom 57 = .ok (.ireturn, 1) := by decide +kernel
theorem dX7_slowsFrom_58 : decode cX7_slowsFrom 58 = .ok (.iload_n 1, 1) := by decide +kernel
theorem dX7_slowsFrom_59 : decode cX7_slowsFrom 59 = .ok (.istore 4, 2) := by decide +kernel
theorem dX7_slowsFrom_61 : decode cX7_slowsFrom 61 = .ok (.iload_n 2, 1) := by decide +kernel
theorem dX7_slowsFrom_62 : decode cX7_slowsFrom 62 = .ok (.istore 5, 2) := by decide +kernel
theorem dX7_slowsFrom_64 : decode cX7_slowsFrom 64 = .ok (.aload_n 0, 1) := by decide +kernel
theorem dX7_slowsFrom_65 : decode cX7_slowsFrom 65 = .ok (.getfield 36, 3) := by decide +kernel
theorem dX7_slowsFrom_68 : decode cX7_slowsFrom 68 = .ok (.iload 4, 2) := by decide +kernel
theorem dX7_slowsFrom_70 : decode cX7_slowsFrom 70 = .ok (.iload 5, 2) := by decide +kernel
theorem dX7_slowsFrom_72 : decode cX7_slowsFrom 72 = .ok (.invokestatic 127, 3) := by decide +kernel
theorem dX7_slowsFrom_75 : decode cX7_slowsFrom 75 = .ok (.iaload, 1) := by decide +kernel
theorem dX7_slowsFrom_76 : decode cX7_slowsFrom 76 = .ok (.ifCond .le 132, 3) := by decide +kernel
theorem dX7_slowsFrom_79 : decode cX7_slowsFrom 79 = .ok (.aload_n 0, 1) := by decide +kernel
theorem dX7_slowsFrom_80 : decode cX7_slowsFrom 80 = .ok (.getfield 13, 3) := by decide +kernel
theorem dX7_slowsFrom_83 : decode cX7_slowsFrom 83 = .ok (.istore 6, 2) := by decide +kernel
theorem dX7_slowsFrom_85 : decode cX7_slowsFrom 85 = .ok (.aload_n 0, 1) := by decide +kernel
theorem dX7_slowsFrom_86 : decode cX7_slowsFrom 86 = .ok (.iload 4, 2) := by decide +kernel
theorem dX7_slowsFrom_88 : decode cX7_slowsFrom 88 = .ok (.iload 5, 2) := by decide +kernel
theorem dX7_slowsFrom_90 : decode cX7_slowsFrom 90 = .ok (.iload 6, 2) := by decide +kernel
theorem dX7_slowsFrom_92 : decode cX7_slowsFrom 92 = .ok (.iload_n 3, 1) := by decide +kernel
theorem dX7_slowsFrom_93 : decode cX7_slowsFrom 93 = .ok (.invokevirtual 113, 3) := by decide +kernel
theorem dX7_slowsFrom_96 : decode cX7_slowsFrom 96 = .ok (.ifCond .eq 71, 3) := by decide +kernel
theorem dX7_slowsFrom_99 : decode cX7_slowsFrom 99 = .ok (.aload_n 0, 1) := by decide +kernel
theorem dX7_slowsFrom_100 : decode cX7_slowsFrom 100 = .ok (.getfield 36, 3) := by decide +kernel
theorem dX7_slowsFrom_103 : decode cX7_slowsFrom 103 = .ok (.iload 4, 2) := by decide +kernel
theorem dX7_slowsFrom_105 : decode cX7_slowsFrom 105 = .ok (.iload 6, 2) := by decide +kernel
theorem dX7_slowsFrom_107 : decode cX7_slowsFrom 107 = .ok (.iadd, 1) := by decide +kernel
theorem dX7_slowsFrom_108 : decode cX7_slowsFrom 108 = .ok (.iload 6, 2) := by decide +kernel
theorem dX7_slowsFrom_110 : decode cX7_slowsFrom 110 = .ok (.invokestatic 127, 3) := by decide +kernel
theorem dX7_slowsFrom_113 : decode cX7_slowsFrom 113 = .ok (.iaload, 1) := by decide +kernel
theorem dX7_slowsFrom_114 : decode cX7_slowsFrom 114 = .ok (.aload_n 0, 1) := by decide +kernel
theorem dX7_slowsFrom_115 : decode cX7_slowsFrom 115 = .ok (.getfield 36, 3) := by decide +kernel
theorem dX7_slowsFrom_118 : decode cX7_slowsFrom 118 = .ok (.iload 4, 2) := by decide +kernel
theorem dX7_slowsFrom_120 : decode cX7_slowsFrom 120 = .ok (.iload 5, 2) := by decide +kernel
theorem dX7_slowsFrom_122 : decode cX7_slowsFrom 122 = .ok (.invokestatic 127, 3) := by decide +kernel
theorem dX7_slowsFrom_125 : decode cX7_slowsFrom 125 = .ok (.iaload, 1) := by decide +kernel
theorem dX7_slowsFrom_126 : decode cX7_slowsFrom 126 = .ok (.iconst 1, 1) := by decide +kernel
theorem dX7_slowsFrom_127 : decode cX7_slowsFrom 127 = .ok (.isub, 1) := by decide +kernel
theorem dX7_slowsFrom_128 : decode cX7_slowsFrom 128 = .ok (.if_icmp .ne 39, 3) := by decide +kernel
theorem dX7_slowsFrom_131 : decode cX7_slowsFrom 131 = .ok (.aload_n 0, 1) := by decide +kernel
theorem dX7_slowsFrom_132 : decode cX7_slowsFrom 132 = .ok (.getfield 39, 3) := by decide +kernel
theorem dX7_slowsFrom_135 : decode cX7_slowsFrom 135 = .ok (.iload 4, 2) := by decide +kernel
theorem dX7_slowsFrom_137 : decode cX7_slowsFrom 137 = .ok (.iload 6, 2) := by decide +kernel
theorem dX7_slowsFrom_139 : decode cX7_slowsFrom 139 = .ok (.iadd, 1) := by decide +kernel
theorem dX7_slowsFrom_140 : decode cX7_slowsFrom 140 = .ok (.iload 6, 2) := by decide +kernel
theorem dX7_slowsFrom_142 : decode cX7_slowsFrom 142 = .ok (.invokestatic 127, 3) := by decide +kernel
theorem dX7_slowsFrom_145 : decode cX7_slowsFrom 145 = .ok (.iaload, 1) := by decide +kernel
theorem dX7_slowsFrom_146 : decode cX7_slowsFrom 146 = .ok (.iload 4, 2) := by decide +kernel
theorem dX7_slowsFrom_148 : decode cX7_slowsFrom 148 = .ok (.iadd, 1) := by decide +kernel
theorem dX7_slowsFrom_149 : decode cX7_slowsFrom 149 = .ok (.iload 6, 2) := by decide +kernel
theorem dX7_slowsFrom_151 : decode cX7_slowsFrom 151 = .ok (.iadd, 1) := by decide +kernel
theorem dX7_slowsFrom_152 : decode cX7_slowsFrom 152 = .ok (.aload_n 0, 1) := by decide +kernel
theorem dX7_slowsFrom_153 : decode cX7_slowsFrom 153 = .ok (.getfield 39, 3) := by decide +kernel
theorem dX7_slowsFrom_156 : decode cX7_slowsFrom 156 = .ok (.iload 4, 2) := by decide +kernel
theorem dX7_slowsFrom_158 : decode cX7_slowsFrom 158 = .ok (.iload 5, 2) := by decide +kernel
theorem dX7_slowsFrom_160 : decode cX7_slowsFrom 160 = .ok (.invokestatic 127, 3) := by decide +kernel
theorem dX7_slowsFrom_163 : decode cX7_slowsFrom 163 = .ok (.iaload, 1) := by decide +kernel
theorem dX7_slowsFrom_164 : decode cX7_slowsFrom 164 = .ok (.if_icmp .eq 9, 3) := by decide +kernel
theorem dX7_slowsFrom_167 : decode cX7_slowsFrom 167 = .ok (.iinc 6 (-1), 3) := by decide +kernel
theorem dX7_slowsFrom_170 : decode cX7_slowsFrom 170 = .ok (.goto (-85), 3) := by decide +kernel
theorem dX7_slowsFrom_173 : decode cX7_slowsFrom 173 = .ok (.aload_n 0, 1) := by decide +kernel
theorem dX7_slowsFrom_174 : decode cX7_slowsFrom 174 = .ok (.getfield 33, 3) := by decide +kernel
theorem dX7_slowsFrom_177 : decode cX7_slowsFrom 177 = .ok (.aload_n 0, 1) := by decide +kernel
theorem dX7_slowsFrom_178 : decode cX7_slowsFrom 178 = .ok (.getfield 120, 3) := by decide +kernel
theorem dX7_slowsFrom_181 : decode cX7_slowsFrom 181 = .ok (.iload 6, 2) := by decide +kernel
theorem dX7_slowsFrom_183 : decode cX7_slowsFrom 183 = .ok (.iastore, 1) := by decide +kernel
theorem dX7_slowsFrom_184 : decode cX7_slowsFrom 184 = .ok (.aload_n 0, 1) := by decide +kernel
theorem dX7_slowsFrom_185 : decode cX7_slowsFrom 185 = .ok (.dup, 1) := by decide +kernel
theorem dX7_slowsFrom_186 : decode cX7_slowsFrom 186 = .ok (.getfield 120, 3) := by decide +kernel
theorem dX7_slowsFrom_189 : decode cX7_slowsFrom 189 = .ok (.iconst 1, 1) := by decide +kernel
theorem dX7_slowsFrom_190 : decode cX7_slowsFrom 190 = .ok (.iadd, 1) := by decide +kernel
theorem dX7_slowsFrom_191 : decode cX7_slowsFrom 191 = .ok (.putfield 120, 3) := by decide +kernel
theorem dX7_slowsFrom_194 : decode cX7_slowsFrom 194 = .ok (.iload 4, 2) := by decide +kernel
theorem dX7_slowsFrom_196 : decode cX7_slowsFrom 196 = .ok (.iload 6, 2) := by decide +kernel
theorem dX7_slowsFrom_198 : decode cX7_slowsFrom 198 = .ok (.iadd, 1) := by decide +kernel
theorem dX7_slowsFrom_199 : decode cX7_slowsFrom 199 = .ok (.istore 4, 2) := by decide +kernel
theorem dX7_slowsFrom_201 : decode cX7_slowsFrom 201 = .ok (.iload 6, 2) := by decide +kernel
theorem dX7_slowsFrom_203 : decode cX7_slowsFrom 203 = .ok (.istore 5, 2) := by decide +kernel
theorem dX7_slowsFrom_205 : decode cX7_slowsFrom 205 = .ok (.goto (-141), 3) := by decide +kernel
theorem dX7_slowsFrom_208 : decode cX7_slowsFrom 208 = .ok (.iconst 1, 1) := by decide +kernel
theorem dX7_slowsFrom_209 : decode cX7_slowsFrom 209 = .ok (.ireturn, 1) := by decide +kernel
theorem dX7_slowing_0 : decode cX7_slowing 0 = .ok (.aload_n 0, 1) := by decide +kernel
theorem dX7_slowing_1 : decode cX7_slowing 1 = .ok (.iconst 0, 1) := by decide +kernel
theorem dX7_slowing_2 : decode cX7_slowing 2 = .ok (.putfield 73, 3) := by decide +kernel
theorem dX7_slowing_5 : decode cX7_slowing 5 = .ok (.aload_n 0, 1) := by decide +kernel
theorem dX7_slowing_6 : decode cX7_slowing 6 = .ok (.iload_n 1, 1) := by decide +kernel
theorem dX7_slowing_7 : decode cX7_slowing 7 = .ok (.iload_n 2, 1) := by decide +kernel
theorem dX7_slowing_8 : decode cX7_slowing 8 = .ok (.invokevirtual 99, 3) := by decide +kernel
theorem dX7_slowing_11 : decode cX7_slowing 11 = .ok (.ifCond .eq 21, 3) := by decide +kernel
theorem dX7_slowing_14 : decode cX7_slowing 14 = .ok (.iload_n 3, 1) := by decide +kernel
theorem dX7_slowing_15 : decode cX7_slowing 15 = .ok (.iconst 0, 1) := by decide +kernel
theorem dX7_slowing_16 : decode cX7_slowing 16 = .ok (.iconst 2, 1) := by decide +kernel
theorem dX7_slowing_17 : decode cX7_slowing 17 = .ok (.invokestatic 80, 3) := by decide +kernel
theorem dX7_slowing_20 : decode cX7_slowing 20 = .ok (.ifCond .eq 12, 3) := by decide +kernel
theorem dX7_slowing_23 : decode cX7_slowing 23 = .ok (.aload_n 0, 1) := by decide +kernel
theorem dX7_slowing_24 : decode cX7_slowing 24 = .ok (.iload_n 1, 1) := by decide +kernel
theorem dX7_slowing_25 : decode cX7_slowing 25 = .ok (.iload_n 2, 1) := by decide +kernel
theorem dX7_slowing_26 : decode cX7_slowing 26 = .ok (.invokevirtual 135, 3) := by decide +kernel
theorem dX7_slowing_29 : decode cX7_slowing 29 = .ok (.ifCond .ne 5, 3) := by decide +kernel
theorem dX7_slowing_32 : decode cX7_slowing 32 = .ok (.iconst (-1), 1) := by decide +kernel
theorem dX7_slowing_33 : decode cX7_slowing 33 = .ok (.ireturn, 1) := by decide +kernel
theorem dX7_slowing_34 : decode cX7_slowing 34 = .ok (.iload_n 3, 1) := by decide +kernel
theorem dX7_slowing_35 : decode cX7_slowing 35 = .ok (.iconst 2, 1) := by decide +kernel
theorem dX7_slowing_36 : decode cX7_slowing 36 = .ok (.if_icmp .ne 21, 3) := by decide +kernel
theorem dX7_slowing_39 : decode cX7_slowing 39 = .ok (.aload_n 0, 1) := by decide +kernel
theorem dX7_slowing_40 : decode cX7_slowing 40 = .ok (.getfield 120, 3) := by decide +kernel
theorem dX7_slowing_43 : decode cX7_slowing 43 = .ok (.ifCond .ne 7, 3) := by decide +kernel
theorem dX7_slowing_46 : decode cX7_slowing 46 = .ok (.iconst (-1), 1) := by decide +kernel
theorem dX7_slowing_47 : decode cX7_slowing 47 = .ok (.goto 9, 3) := by decide +kernel
theorem dX7_slowing_50 : decode cX7_slowing 50 = .ok (.aload_n 0, 1) := by decide +kernel
theorem dX7_slowing_51 : decode cX7_slowing 51 = .ok (.getfield 33, 3) := by decide +kernel
theorem dX7_slowing_54 : decode cX7_slowing 54 = .ok (.iconst 0, 1) := by decide +kernel
theorem dX7_slowing_55 : decode cX7_slowing 55 = .ok (.iaload, 1) := by decide +kernel
theorem dX7_slowing_56 : decode cX7_slowing 56 = .ok (.ireturn, 1) := by decide +kernel
theorem dX7_slowing_57 : decode cX7_slowing 57 = .ok (.iload_n 3, 1) := by decide +kernel
theorem dX7_slowing_58 : decode cX7_slowing 58 = .ok (.ifCond .ne 16, 3) := by decide +kernel
theorem dX7_slowing_61 : decode cX7_slowing 61 = .ok (.aload_n 0, 1) := by decide +kernel
theorem dX7_slowing_62 : decode cX7_slowing 62 = .ok (.getfield 36, 3) := by decide +kernel
theorem dX7_slowing_65 : decode cX7_slowing 65 = .ok (.iload_n 1, 1) := by decide +kernel
theorem dX7_slowing_66 : decode cX7_slowing 66 = .ok (.iload_n 2, 1) := by decide +kernel
theorem dX7_slowing_67 : decode cX7_slowing 67 = .ok (.invokestatic 127, 3) := by decide +kernel
theorem dX7_slowing_70 : decode cX7_slowing 70 = .ok (.iaload, 1) := by decide +kernel
theorem dX7_slowing_71 : decode cX7_slowing 71 = .ok (.goto 13, 3) := by decide +kernel
theorem dX7_slowing_74 : decode cX7_slowing 74 = .ok (.aload_n 0, 1) := by decide +kernel
theorem dX7_slowing_75 : decode cX7_slowing 75 = .ok (.getfield 39, 3) := by decide +kernel
theorem dX7_slowing_78 : decode cX7_slowing 78 = .ok (.iload_n 1, 1) := by decide +kernel
theorem dX7_slowing_79 : decode cX7_slowing 79 = .ok (.iload_n 2, 1) := by decide +kernel
theorem dX7_slowing_80 : decode cX7_slowing 80 = .ok (.invokestatic 127, 3) := by decide +kernel
theorem dX7_slowing_83 : decode cX7_slowing 83 = .ok (.iaload, 1) := by decide +kernel
theorem dX7_slowing_84 : decode cX7_slowing 84 = .ok (.ireturn, 1) := by decide +kernel
theorem dX7_move_0 : decode cX7_move 0 = .ok (.aload_n 0, 1) := by decide +kernel
theorem dX7_move_1 : decode cX7_move 1 = .ok (.iconst 0, 1) := by decide +kernel
theorem dX7_move_2 : decode cX7_move 2 = .ok (.putfield 73, 3) := by decide +kernel
theorem dX7_move_5 : decode cX7_move 5 = .ok (.aload_n 0, 1) := by decide +kernel
theorem dX7_move_6 : decode cX7_move 6 = .ok (.getfield 76, 3) := by decide +kernel
theorem dX7_move_9 : decode cX7_move 9 = .ok (.ifCond .ne 42, 3) := by decide +kernel
theorem dX7_move_12 : decode cX7_move 12 = .ok (.iload_n 1, 1) := by decide +kernel
theorem dX7_move_13 : decode cX7_move 13 = .ok (.sipush (-200), 3) := by decide +kernel
theorem dX7_move_16 : decode cX7_move 16 = .ok (.sipush 200, 3) := by decide +kernel
theorem dX7_move_19 : decode cX7_move 19 = .ok (.invokestatic 80, 3) := by decide +kernel
theorem dX7_move_22 : decode cX7_move 22 = .ok (.ifCond .eq 29, 3) := by decide +kernel
theorem dX7_move_25 : decode cX7_move 25 = .ok (.iload_n 2, 1) := by decide +kernel
theorem dX7_move_26 : decode cX7_move 26 = .ok (.sipush (-200), 3) := by decide +kernel
theorem dX7_move_29 : decode cX7_move 29 = .ok (.sipush 200, 3) := by decide +kernel
theorem dX7_move_32 : decode cX7_move 32 = .ok (.invokestatic 80, 3) := by decide +kernel
theorem dX7_move_35 : decode cX7_move 35 = .ok (.ifCond .eq 16, 3) := by decide +kernel
theorem dX7_move_38 : decode cX7_move 38 = .ok (.iload_n 3, 1) := by decide +kernel
theorem dX7_move_39 : decode cX7_move 39 = .ok (.sipush (-200), 3) := by decide +kernel
theorem dX7_move_42 : decode cX7_move 42 = .ok (.sipush 200, 3) := by decide +kernel
theorem dX7_move_45 : decode cX7_move 45 = .ok (.invokestatic 80, 3) := by decide +kernel
theorem dX7_move_48 : decode cX7_move 48 = .ok (.ifCond .ne 5, 3) := by decide +kernel
theorem dX7_move_51 : decode cX7_move 51 = .ok (.iconst (-1), 1) := by decide +kernel
theorem dX7_move_52 : decode cX7_move 52 = .ok (.ireturn, 1) := by decide +kernel
theorem dX7_move_53 : decode cX7_move 53 = .ok (.iload_n 1, 1) := by decide +kernel
theorem dX7_move_54 : decode cX7_move 54 = .ok (.invokestatic 93, 3) := by decide +kernel
theorem dX7_move_57 : decode cX7_move 57 = .ok (.iload_n 2, 1) := by decide +kernel
theorem dX7_move_58 : decode cX7_move 58 = .ok (.invokestatic 93, 3) := by decide +kernel
theorem dX7_move_61 : decode cX7_move 61 = .ok (.iload_n 3, 1) := by decide +kernel
theorem dX7_move_62 : decode cX7_move 62 = .ok (.invokestatic 93, 3) := by decide +kernel
theorem dX7_move_65 : decode cX7_move 65 = .ok (.invokestatic 138, 3) := by decide +kernel
theorem dX7_move_68 : decode cX7_move 68 = .ok (.invokestatic 138, 3) := by decide +kernel
theorem dX7_move_71 : decode cX7_move 71 = .ok (.istore 4, 2) := by decide +kernel
theorem dX7_move_73 : decode cX7_move 73 = .ok (.aload_n 0, 1) := by decide +kernel
theorem dX7_move_74 : decode cX7_move 74 = .ok (.iload 4, 2) := by decide +kernel
theorem dX7_move_76 : decode cX7_move 76 = .ok (.invokevirtual 123, 3) := by decide +kernel
theorem dX7_move_79 : decode cX7_move 79 = .ok (.ifCond .ne 5, 3) := by decide +kernel
theorem dX7_move_82 : decode cX7_move 82 = .ok (.iconst (-1), 1) := by decide +kernel
theorem dX7_move_83 : decode cX7_move 83 = .ok (.ireturn, 1) := by decide +kernel
theorem dX7_move_84 : decode cX7_move 84 = .ok (.aload_n 0, 1) := by decide +kernel
theorem dX7_move_85 : decode cX7_move 85 = .ok (.getfield 45, 3) := by decide +kernel
theorem dX7_move_88 : decode cX7_move 88 = .ok (.iconst 0, 1) := by decide +kernel
theorem dX7_move_89 : decode cX7_move 89 = .ok (.iload_n 1, 1) := by decide +kernel
theorem dX7_move_90 : decode cX7_move 90 = .ok (.iastore, 1) := by decide +kernel
theorem dX7_move_91 : decode cX7_move 91 = .ok (.aload_n 0, 1) := by decide +kernel
theorem dX7_move_92 : decode cX7_move 92 = .ok (.getfield 45, 3) := by decide +kernel
theorem dX7_move_95 : decode cX7_move 95 = .ok (.iconst 1, 1) := by decide +kernel
theorem dX7_move_96 : decode cX7_move 96 = .ok (.iload_n 2, 1) := by decide +kernel
theorem dX7_move_97 : decode cX7_move 97 = .ok (.iastore, 1) := by decide +kernel
theorem dX7_move_98 : decode cX7_move 98 = .ok (.aload_n 0, 1) := by decide +kernel
theorem dX7_move_99 : decode cX7_move 99 = .ok (.getfield 45, 3) := by decide +kernel
theorem dX7_move_102 : decode cX7_move 102 = .ok (.iconst 2, 1) := by decide +kernel
theorem dX7_move_103 : decode cX7_move 103 = .ok (.iload_n 3, 1) := by decide +kernel
theorem dX7_move_104 : decode cX7_move 104 = .ok (.iastore, 1) := by decide +kernel
theorem dX7_move_105 : decode cX7_move 105 = .ok (.iconst 0, 1) := by decide +kernel
theorem dX7_move_106 : decode cX7_move 106 = .ok (.istore 5, 2) := by decide +kernel
theorem dX7_move_108 : decode cX7_move 108 = .ok (.iload 5, 2) := by decide +kernel
theorem dX7_move_110 : decode cX7_move 110 = .ok (.iconst 3, 1) := by decide +kernel
theorem dX7_move_111 : decode cX7_move 111 = .ok (.if_icmp .ge 23, 3) := by decide +kernel
theorem dX7_move_114 : decode cX7_move 114 = .ok (.aload_n 0, 1) := by decide +kernel
theorem dX7_move_115 : decode cX7_move 115 = .ok (.getfield 42, 3) := by decide +kernel
theorem dX7_move_118 : decode cX7_move 118 = .ok (.iload 5, 2) := by decide +kernel
theorem dX7_move_120 : decode cX7_move 120 = .ok (.aload_n 0, 1) := by decide +kernel
theorem dX7_move_121 : decode cX7_move 121 = .ok (.getfield 48, 3) := by decide +kernel
theorem dX7_move_124 : decode cX7_move 124 = .ok (.iload 5, 2) := by decide +kernel
theorem dX7_move_126 : decode cX7_move 126 = .ok (.iaload, 1) := by decide +kernel
theorem dX7_move_127 : decode cX7_move 127 = .ok (.iastore, 1) := by decide +kernel
theorem dX7_move_128 : decode cX7_move 128 = .ok (.iinc 5 1, 3) := by decide +kernel
theorem dX7_move_131 : decode cX7_move 131 = .ok (.goto (-23), 3) := by decide +kernel
theorem dX7_move_134 : decode cX7_move 134 = .ok (.aload_n 0, 1) := by decide +kernel
theorem dX7_move_135 : decode cX7_move 135 = .ok (.invokevirtual 141, 3) := by decide +kernel
theorem dX7_move_138 : decode cX7_move 138 = .ok (.aload_n 0, 1) := by decide +kernel
theorem dX7_move_139 : decode cX7_move 139 = .ok (.iload 4, 2) := by decide +kernel
theorem dX7_move_141 : decode cX7_move 141 = .ok (.putfield 144, 3) := by decide +kernel
theorem dX7_move_144 : decode cX7_move 144 = .ok (.aload_n 0, 1) := by decide +kernel
theorem dX7_move_145 : decode cX7_move 145 = .ok (.iconst 0, 1) := by decide +kernel
theorem dX7_move_146 : decode cX7_move 146 = .ok (.putfield 147, 3) := by decide +kernel
theorem dX7_move_149 : decode cX7_move 149 = .ok (.aload_n 0, 1) := by decide +kernel
theorem dX7_move_150 : decode cX7_move 150 = .ok (.iconst 0, 1) := by decide +kernel
theorem dX7_move_151 : decode cX7_move 151 = .ok (.putfield 150, 3) := by decide +kernel
theorem dX7_move_154 : decode cX7_move 154 = .ok (.aload_n 0, 1) := by decide +kernel
theorem dX7_move_155 : decode cX7_move 155 = .ok (.iconst 0, 1) := by decide +kernel
theorem dX7_move_156 : decode cX7_move 156 = .ok (.putfield 153, 3) := by decide +kernel
theorem dX7_move_159 : decode cX7_move 159 = .ok (.aload_n 0, 1) := by decide +kernel
theorem dX7_move_160 : decode cX7_move 160 = .ok (.iconst 0, 1) := by decide +kernel
theorem dX7_move_161 : decode cX7_move 161 = .ok (.putfield 156, 3) := by decide +kernel
theorem dX7_move_164 : decode cX7_move 164 = .ok (.aload_n 0, 1) := by decide +kernel
theorem dX7_move_165 : decode cX7_move 165 = .ok (.iconst 0, 1) := by decide +kernel
theorem dX7_move_166 : decode cX7_move 166 = .ok (.putfield 159, 3) := by decide +kernel
theorem dX7_move_169 : decode cX7_move 169 = .ok (.aload_n 0, 1) := by decide +kernel
theorem dX7_move_170 : decode cX7_move 170 = .ok (.iconst (-1), 1) := by decide +kernel
theorem dX7_move_171 : decode cX7_move 171 = .ok (.putfield 57, 3) := by decide +kernel
theorem dX7_move_174 : decode cX7_move 174 = .ok (.aload_n 0, 1) := by decide +kernel
theorem dX7_move_175 : decode cX7_move 175 = .ok (.iconst 0, 1) := by decide +kernel
theorem dX7_move_176 : decode cX7_move 176 = .ok (.putfield 162, 3) := by decide +kernel
theorem dX7_move_179 : decode cX7_move 179 = .ok (.aload_n 0, 1) := by decide +kernel
theorem dX7_move_180 : decode cX7_move 180 = .ok (.getfield 165, 3) := by decide +kernel
theorem dX7_move_183 : decode cX7_move 183 = .ok (.ireturn, 1) := by decide +kernel
theorem dX7_follow_0 : decode cX7_follow 0 = .ok (.aload_n 0, 1) := by decide +kernel
theorem dX7_follow_1 : decode cX7_follow 1 = .ok (.aload_n 0, 1) := by decide +kernel
theorem dX7_follow_2 : decode cX7_follow 2 = .ok (.getfield 120, 3) := by decide +kernel
theorem dX7_follow_5 : decode cX7_follow 5 = .ok (.putfield 165, 3) := by decide +kernel
theorem dX7_follow_8 : decode cX7_follow 8 = .ok (.aload_n 0, 1) := by decide +kernel
theorem dX7_follow_9 : decode cX7_follow 9 = .ok (.iconst 0, 1) := by decide +kernel
theorem dX7_follow_10 : decode cX7_follow 10 = .ok (.putfield 168, 3) := by decide +kernel
theorem dX7_follow_13 : decode cX7_follow 13 = .ok (.iconst 0, 1) := by decide +kernel
theorem dX7_follow_14 : decode cX7_follow 14 = .ok (.istore_n 1, 1) := by decide +kernel
theorem dX7_follow_15 : decode cX7_follow 15 = .ok (.iload_n 1, 1) := by decide +kernel
theorem dX7_follow_16 : decode cX7_follow 16 = .ok (.aload_n 0, 1) := by decide +kernel
theorem dX7_follow_17 : decode cX7_follow 17 = .ok (.getfield 120, 3) := by decide +kernel
theorem dX7_follow_20 : decode cX7_follow 20 = .ok (.if_icmp .ge 21, 3) := by decide +kernel
theorem dX7_follow_23 : decode cX7_follow 23 = .ok (.aload_n 0, 1) := by decide +kernel
theorem dX7_follow_24 : decode cX7_follow 24 = .ok (.getfield 54, 3) := by decide +kernel
theorem dX7_follow_27 : decode cX7_follow 27 = .ok (.iload_n 1, 1) := by decide +kernel
theorem dX7_follow_28 : decode cX7_follow 28 = .ok (.aload_n 0, 1) := by decide +kernel
theorem dX7_follow_29 : decode cX7_follow 29 = .ok (.getfield 33, 3) := by decide +kernel
theorem dX7_follow_32 : decode cX7_follow 32 = .ok (.iload_n 1, 1) := by decide +kernel
theorem dX7_follow_33 : decode cX7_follow 33 = .ok (.iaload, 1) := by decide +kernel
theorem dX7_follow_34 : decode cX7_follow 34 = .ok (.iastore, 1) := by decide +kernel
theorem dX7_follow_35 : decode cX7_follow 35 = .ok (.iinc 1 1, 3) := by decide +kernel
theorem dX7_follow_38 : decode cX7_follow 38 = .ok (.goto (-23), 3) := by decide +kernel
theorem dX7_follow_41 : decode cX7_follow 41 = .ok (.aload_n 0, 1) := by decide +kernel
theorem dX7_follow_42 : decode cX7_follow 42 = .ok (.aload_n 0, 1) := by decide +kernel
theorem dX7_follow_43 : decode cX7_follow 43 = .ok (.getfield 120, 3) := by decide +kernel
theorem dX7_follow_46 : decode cX7_follow 46 = .ok (.ifCond .le 7, 3) := by decide +kernel
theorem dX7_follow_49 : decode cX7_follow 49 = .ok (.iconst 1, 1) := by decide +kernel
theorem dX7_follow_50 : decode cX7_follow 50 = .ok (.goto 4, 3) := by decide +kernel
theorem dX7_follow_53 : decode cX7_follow 53 = .ok (.iconst 0, 1) := by decide +kernel
theorem dX7_follow_54 : decode cX7_follow 54 = .ok (.putfield 76, 3) := by decide +kernel
theorem dX7_follow_57 : decode cX7_follow 57 = .ok (.return_, 1) := by decide +kernel
theorem dX7_gone_0 : decode cX7_gone 0 = .ok (.aload_n 0, 1) := by decide +kernel
theorem dX7_gone_1 : decode cX7_gone 1 = .ok (.getfield 144, 3) := by decide +kernel
theorem dX7_gone_4 : decode cX7_gone 4 = .ok (.ifCond .ne 5, 3) := by decide +kernel
theorem dX7_gone_7 : decode cX7_gone 7 = .ok (.iconst 0, 1) := by decide +kernel
theorem dX7_gone_8 : decode cX7_gone 8 = .ok (.ireturn, 1) := by decide +kernel
theorem dX7_gone_9 : decode cX7_gone 9 = .ok (.iconst 2, 1) := by decide +kernel
theorem dX7_gone_10 : decode cX7_gone 10 = .ok (.iload_n 2, 1) := by decide +kernel
theorem dX7_gone_11 : decode cX7_gone 11 = .ok (.imul, 1) := by decide +kernel
theorem dX7_gone_12 : decode cX7_gone 12 = .ok (.aload_n 0, 1) := by decide +kernel
theorem dX7_gone_13 : decode cX7_gone 13 = .ok (.getfield 45, 3) := by decide +kernel
theorem dX7_gone_16 : decode cX7_gone 16 = .ok (.iload_n 1, 1) := by decide +kernel
theorem dX7_gone_17 : decode cX7_gone 17 = .ok (.iaload, 1) := by decide +kernel
theorem dX7_gone_18 : decode cX7_gone 18 = .ok (.invokestatic 93, 3) := by decide +kernel
theorem dX7_gone_21 : decode cX7_gone 21 = .ok (.imul, 1) := by decide +kernel
theorem dX7_gone_22 : decode cX7_gone 22 = .ok (.aload_n 0, 1) := by decide +kernel
theorem dX7_gone_23 : decode cX7_gone 23 = .ok (.getfield 144, 3) := by decide +kernel
theorem dX7_gone_26 : decode cX7_gone 26 = .ok (.iadd, 1) := by decide +kernel
theorem dX7_gone_27 : decode cX7_gone 27 = .ok (.iconst 2, 1) := by decide +kernel
theorem dX7_gone_28 : decode cX7_gone 28 = .ok (.aload_n 0, 1) := by decide +kernel
theorem dX7_gone_29 : decode cX7_gone 29 = .ok (.getfield 144, 3) := by decide +kernel
theorem dX7_gone_32 : decode cX7_gone 32 = .ok (.imul, 1) := by decide +kernel
theorem dX7_gone_33 : decode cX7_gone 33 = .ok (.idiv, 1) := by decide +kernel
theorem dX7_gone_34 : decode cX7_gone 34 = .ok (.istore_n 3, 1) := by decide +kernel
theorem dX7_gone_35 : decode cX7_gone 35 = .ok (.aload_n 0, 1) := by decide +kernel
theorem dX7_gone_36 : decode cX7_gone 36 = .ok (.getfield 45, 3) := by decide +kernel
theorem dX7_gone_39 : decode cX7_gone 39 = .ok (.iload_n 1, 1) := by decide +kernel
theorem dX7_gone_40 : decode cX7_gone 40 = .ok (.iaload, 1) := by decide +kernel
theorem dX7_gone_41 : decode cX7_gone 41 = .ok (.ifCond .ge 8, 3) := by decide +kernel
theorem dX7_gone_44 : decode cX7_gone 44 = .ok (.iload_n 3, 1) := by decide +kernel
theorem dX7_gone_45 : decode cX7_gone 45 = .ok (.ineg, 1) := by decide +kernel
theorem dX7_gone_46 : decode cX7_gone 46 = .ok (.goto 4, 3) := by decide +kernel
theorem dX7_gone_49 : decode cX7_gone 49 = .ok (.iload_n 3, 1) := by decide +kernel
theorem dX7_gone_50 : decode cX7_gone 50 = .ok (.ireturn, 1) := by decide +kernel
theorem dX7_tick_0 : decode cX7_tick 0 = .ok (.aload_n 0, 1) := by decide +kernel
theorem dX7_tick_1 : decode cX7_tick 1 = .ok (.iconst 0, 1) := by decide +kernel
theorem dX7_tick_2 : decode cX7_tick 2 = .ok (.putfield 73, 3) := by decide +kernel
theorem dX7_tick_5 : decode cX7_tick 5 = .ok (.aload_n 0, 1) := by decide +kernel
theorem dX7_tick_6 : decode cX7_tick 6 = .ok (.getfield 76, 3) := by decide +kernel
theorem dX7_tick_9 : decode cX7_tick 9 = .ok (.ifCond .eq 14, 3) := by decide +kernel
theorem dX7_tick_12 : decode cX7_tick 12 = .ok (.iload_n 1, 1) := by decide +kernel
theorem dX7_tick_13 : decode cX7_tick 13 = .ok (.iconst 0, 1) := by decide +kernel
theorem dX7_tick_14 : decode cX7_tick 14 = .ok (.sipush 1000, 3) := by decide +kernel
theorem dX7_tick_17 : decode cX7_tick 17 = .ok (.invokestatic 80, 3) := by decide +kernel
theorem dX7_tick_20 : decode cX7_tick 20 = .ok (.ifCond .ne 5, 3) := by decide +kernel
theorem dX7_tick_23 : decode cX7_tick 23 = .ok (.iconst (-1), 1) := by decide +kernel
theorem dX7_tick_24 : decode cX7_tick 24 = .ok (.ireturn, 1) := by decide +kernel
theorem dX7_tick_25 : decode cX7_tick 25 = .ok (.iconst 0, 1) := by decide +kernel
theorem dX7_tick_26 : decode cX7_tick 26 = .ok (.istore_n 2, 1) := by decide +kernel
theorem dX7_tick_27 : decode cX7_tick 27 = .ok (.iload_n 2, 1) := by decide +kernel
theorem dX7_tick_28 : decode cX7_tick 28 = .ok (.iload_n 1, 1) := by decide +kernel
theorem dX7_tick_29 : decode cX7_tick 29 = .ok (.if_icmp .ge 236, 3) := by decide +kernel
theorem dX7_tick_32 : decode cX7_tick 32 = .ok (.aload_n 0, 1) := by decide +kernel
theorem dX7_tick_33 : decode cX7_tick 33 = .ok (.getfield 76, 3) := by decide +kernel
theorem dX7_tick_36 : decode cX7_tick 36 = .ok (.ifCond .eq 229, 3) := by decide +kernel
theorem dX7_tick_39 : decode cX7_tick 39 = .ok (.aload_n 0, 1) := by decide +kernel
theorem dX7_tick_40 : decode cX7_tick 40 = .ok (.getfield 54, 3) := by decide +kernel
theorem dX7_tick_43 : decode cX7_tick 43 = .ok (.aload_n 0, 1) := by decide +kernel
theorem dX7_tick_44 : decode cX7_tick 44 = .ok (.getfield 168, 3) := by decide +kernel
theorem dX7_tick_47 : decode cX7_tick 47 = .ok (.iaload, 1) := by decide +kernel
theorem dX7_tick_48 : decode cX7_tick 48 = .ok (.istore_n 3, 1) := by decide +kernel
theorem dX7_tick_49 : decode cX7_tick 49 = .ok (.aload_n 0, 1) := by decide +kernel
theorem dX7_tick_50 : decode cX7_tick 50 = .ok (.dup, 1) := by decide +kernel
theorem dX7_tick_51 : decode cX7_tick 51 = .ok (.getfield 150, 3) := by decide +kernel
theorem dX7_tick_54 : decode cX7_tick 54 = .ok (.iload_n 3, 1) := by decide +kernel
theorem dX7_tick_55 : decode cX7_tick 55 = .ok (.iadd, 1) := by decide +kernel
theorem dX7_tick_56 : decode cX7_tick 56 = .ok (.putfield 150, 3) := by decide +kernel
theorem dX7_tick_59 : decode cX7_tick 59 = .ok (.aload_n 0, 1) := by decide +kernel
theorem dX7_tick_60 : decode cX7_tick 60 = .ok (.iload_n 3, 1) := by decide +kernel
theorem dX7_tick_61 : decode cX7_tick 61 = .ok (.putfield 153, 3) := by decide +kernel
theorem dX7_tick_64 : decode cX7_tick 64 = .ok (.aload_n 0, 1) := by decide +kernel
theorem dX7_tick_65 : decode cX7_tick 65 = .ok (.aload_n 0, 1) := by decide +kernel
theorem dX7_tick_66 : decode cX7_tick 66 = .ok (.getfield 150, 3) := by decide +kernel
theorem dX7_tick_69 : decode cX7_tick 69 = .ok (.iload_n 3, 1) := by decide +kernel
theorem dX7_tick_70 : decode cX7_tick 70 = .ok (.invokevirtual 102, 3) := by decide +kernel
theorem dX7_tick_73 : decode cX7_tick 73 = .ok (.istore 4, 2) := by decide +kernel
theorem dX7_tick_75 : decode cX7_tick 75 = .ok (.iload 4, 2) := by decide +kernel
theorem dX7_tick_77 : decode cX7_tick 77 = .ok (.ifCond .ne 39, 3) := by decide +kernel
theorem dX7_tick_80 : decode cX7_tick 80 = .ok (.aload_n 0, 1) := by decide +kernel
theorem dX7_tick_81 : decode cX7_tick 81 = .ok (.dup, 1) := by decide +kernel
theorem dX7_tick_82 : decode cX7_tick 82 = .ok (.getfield 159, 3) := by decide +kernel
theorem dX7_tick_85 : decode cX7_tick 85 = .ok (.aload_n 0, 1) := by decide +kernel
theorem dX7_tick_86 : decode cX7_tick 86 = .ok (.getfield 150, 3) := by decide +kernel
theorem dX7_tick_89 : decode cX7_tick 89 = .ok (.iadd, 1) := by decide +kernel
theorem dX7_tick_90 : decode cX7_tick 90 = .ok (.putfield 159, 3) := by decide +kernel
theorem dX7_tick_93 : decode cX7_tick 93 = .ok (.aload_n 0, 1) := by decide +kernel
theorem dX7_tick_94 : decode cX7_tick 94 = .ok (.getfield 150, 3) := by decide +kernel
theorem dX7_tick_97 : decode cX7_tick 97 = .ok (.ifCond .le 19, 3) := by decide +kernel
theorem dX7_tick_100 : decode cX7_tick 100 = .ok (.aload_n 0, 1) := by decide +kernel
theorem dX7_tick_101 : decode cX7_tick 101 = .ok (.getfield 57, 3) := by decide +kernel
theorem dX7_tick_104 : decode cX7_tick 104 = .ok (.iconst (-1), 1) := by decide +kernel
theorem dX7_tick_105 : decode cX7_tick 105 = .ok (.if_icmp .ne 11, 3) := by decide +kernel
theorem dX7_tick_108 : decode cX7_tick 108 = .ok (.aload_n 0, 1) := by decide +kernel
theorem dX7_tick_109 : decode cX7_tick 109 = .ok (.aload_n 0, 1) := by decide +kernel
theorem dX7_tick_110 : decode cX7_tick 110 = .ok (.getfield 156, 3) := by decide +kernel
theorem dX7_tick_113 : decode cX7_tick 113 = .ok (.putfield 57, 3) := by decide +kernel
theorem dX7_tick_116 : decode cX7_tick 116 = .ok (.iconst 0, 1) := by decide +kernel
theorem dX7_tick_117 : decode cX7_tick 117 = .ok (.istore 5, 2) := by decide +kernel
theorem dX7_tick_119 : decode cX7_tick 119 = .ok (.iload 5, 2) := by decide +kernel
theorem dX7_tick_121 : decode cX7_tick 121 = .ok (.iconst 3, 1) := by decide +kernel
theorem dX7_tick_122 : decode cX7_tick 122 = .ok (.if_icmp .ge 84, 3) := by decide +kernel
theorem dX7_tick_125 : decode cX7_tick 125 = .ok (.aload_n 0, 1) := by decide +kernel
theorem dX7_tick_126 : decode cX7_tick 126 = .ok (.iload 5, 2) := by decide +kernel
theorem dX7_tick_128 : decode cX7_tick 128 = .ok (.aload_n 0, 1) := by decide +kernel
theorem dX7_tick_129 : decode cX7_tick 129 = .ok (.getfield 147, 3) := by decide +kernel
theorem dX7_tick_132 : decode cX7_tick 132 = .ok (.aload_n 0, 1) := by decide +kernel
theorem dX7_tick_133 : decode cX7_tick 133 = .ok (.getfield 150, 3) := by decide +kernel
theorem dX7_tick_136 : decode cX7_tick 136 = .ok (.iadd, 1) := by decide +kernel
theorem dX7_tick_137 : decode cX7_tick 137 = .ok (.invokevirtual 171, 3) := by decide +kernel
theorem dX7_tick_140 : decode cX7_tick 140 = .ok (.aload_n 0, 1) := by decide +kernel
theorem dX7_tick_141 : decode cX7_tick 141 = .ok (.iload 5, 2) := by decide +kernel
theorem dX7_tick_143 : decode cX7_tick 143 = .ok (.aload_n 0, 1) := by decide +kernel
theorem dX7_tick_144 : decode cX7_tick 144 = .ok (.getfield 147, 3) := by decide +kernel
theorem dX7_tick_147 : decode cX7_tick 147 = .ok (.invokevirtual 171, 3) := by decide +kernel
theorem dX7_tick_150 : decode cX7_tick 150 = .ok (.isub, 1) := by decide +kernel
theorem dX7_tick_151 : decode cX7_tick 151 = .ok (.istore 6, 2) := by decide +kernel
theorem dX7_tick_153 : decode cX7_tick 153 = .ok (.aload_n 0, 1) := by decide +kernel
theorem dX7_tick_154 : decode cX7_tick 154 = .ok (.getfield 48, 3) := by decide +kernel
theorem dX7_tick_157 : decode cX7_tick 157 = .ok (.iload 5, 2) := by decide +kernel
theorem dX7_tick_159 : decode cX7_tick 159 = .ok (.aload_n 0, 1) := by decide +kernel
theorem dX7_tick_160 : decode cX7_tick 160 = .ok (.getfield 42, 3) := by decide +kernel
theorem dX7_tick_163 : decode cX7_tick 163 = .ok (.iload 5, 2) := by decide +kernel
theorem dX7_tick_165 : decode cX7_tick 165 = .ok (.iaload, 1) := by decide +kernel
theorem dX7_tick_166 : decode cX7_tick 166 = .ok (.aload_n 0, 1) := by decide +kernel
theorem dX7_tick_167 : decode cX7_tick 167 = .ok (.iload 5, 2) := by decide +kernel
theorem dX7_tick_169 : decode cX7_tick 169 = .ok (.aload_n 0, 1) := by decide +kernel
theorem dX7_tick_170 : decode cX7_tick 170 = .ok (.getfield 147, 3) := by decide +kernel
theorem dX7_tick_173 : decode cX7_tick 173 = .ok (.aload_n 0, 1) := by decide +kernel
theorem dX7_tick_174 : decode cX7_tick 174 = .ok (.getfield 150, 3) := by decide +kernel
theorem dX7_tick_177 : decode cX7_tick 177 = .ok (.iadd, 1) := by decide +kernel
theorem dX7_tick_178 : decode cX7_tick 178 = .ok (.invokevirtual 171, 3) := by decide +kernel
theorem dX7_tick_181 : decode cX7_tick 181 = .ok (.iadd, 1) := by decide +kernel
theorem dX7_tick_182 : decode cX7_tick 182 = .ok (.iastore, 1) := by decide +kernel
theorem dX7_tick_183 : decode cX7_tick 183 = .ok (.iload 4, 2) := by decide +kernel
theorem dX7_tick_185 : decode cX7_tick 185 = .ok (.ifCond .eq 15, 3) := by decide +kernel
theorem dX7_tick_188 : decode cX7_tick 188 = .ok (.aload_n 0, 1) := by decide +kernel
theorem dX7_tick_189 : decode cX7_tick 189 = .ok (.getfield 51, 3) := by decide +kernel
theorem dX7_tick_192 : decode cX7_tick 192 = .ok (.iload 5, 2) := by decide +kernel
theorem dX7_tick_194 : decode cX7_tick 194 = .ok (.dup2, 1) := by decide +kernel
theorem dX7_tick_195 : decode cX7_tick 195 = .ok (.iaload, 1) := by decide +kernel
theorem dX7_tick_196 : decode cX7_tick 196 = .ok (.iload 6, 2) := by decide +kernel
theorem dX7_tick_198 : decode cX7_tick 198 = .ok (.iadd, 1) := by decide +kernel
theorem dX7_tick_199 : decode cX7_tick 199 = .ok (.iastore, 1) := by decide +kernel
theorem dX7_tick_200 : decode cX7_tick 200 = .ok (.iinc 5 1, 3) := by decide +kernel
theorem dX7_tick_203 : decode cX7_tick 203 = .ok (.goto (-84), 3) := by decide +kernel
theorem dX7_tick_206 : decode cX7_tick 206 = .ok (.aload_n 0, 1) := by decide +kernel
theorem dX7_tick_207 : decode cX7_tick 207 = .ok (.dup, 1) := by decide +kernel
theorem dX7_tick_208 : decode cX7_tick 208 = .ok (.getfield 147, 3) := by decide +kernel
theorem dX7_tick_211 : decode cX7_tick 211 = .ok (.aload_n 0, 1) := by decide +kernel
theorem dX7_tick_212 : decode cX7_tick 212 = .ok (.getfield 150, 3) := by decide +kernel
theorem dX7_tick_215 : decode cX7_tick 215 = .ok (.iadd, 1) := by decide +kernel
theorem dX7_tick_216 : decode cX7_tick 216 = .ok (.putfield 147, 3) := by decide +kernel
theorem dX7_tick_219 : decode cX7_tick 219 = .ok (.aload_n 0, 1) := by decide +kernel
theorem dX7_tick_220 : decode cX7_tick 220 = .ok (.dup, 1) := by decide +kernel
theorem dX7_tick_221 : decode cX7_tick 221 = .ok (.getfield 156, 3) := by decide +kernel
theorem dX7_tick_224 : decode cX7_tick 224 = .ok (.iconst 1, 1) := by decide +kernel
theorem dX7_tick_225 : decode cX7_tick 225 = .ok (.iadd, 1) := by decide +kernel
theorem dX7_tick_226 : decode cX7_tick 226 = .ok (.putfield 156, 3) := by decide +kernel
theorem dX7_tick_229 : decode cX7_tick 229 = .ok (.aload_n 0, 1) := by decide +kernel
theorem dX7_tick_230 : decode cX7_tick 230 = .ok (.dup, 1) := by decide +kernel
theorem dX7_tick_231 : decode cX7_tick 231 = .ok (.getfield 168, 3) := by decide +kernel
theorem dX7_tick_234 : decode cX7_tick 234 = .ok (.iconst 1, 1) := by decide +kernel
theorem dX7_tick_235 : decode cX7_tick 235 = .ok (.iadd, 1) := by decide +kernel
theorem dX7_tick_236 : decode cX7_tick 236 = .ok (.putfield 168, 3) := by decide +kernel
theorem dX7_tick_239 : decode cX7_tick 239 = .ok (.iinc 2 1, 3) := by decide +kernel
theorem dX7_tick_242 : decode cX7_tick 242 = .ok (.aload_n 0, 1) := by decide +kernel
theorem dX7_tick_243 : decode cX7_tick 243 = .ok (.aload_n 0, 1) := by decide +kernel
theorem dX7_tick_244 : decode cX7_tick 244 = .ok (.getfield 168, 3) := by decide +kernel
theorem dX7_tick_247 : decode cX7_tick 247 = .ok (.aload_n 0, 1) := by decide +kernel
theorem dX7_tick_248 : decode cX7_tick 248 = .ok (.getfield 165, 3) := by decide +kernel
theorem dX7_tick_251 : decode cX7_tick 251 = .ok (.if_icmp .ge 7, 3) := by decide +kernel
theorem dX7_tick_254 : decode cX7_tick 254 = .ok (.iconst 1, 1) := by decide +kernel
theorem dX7_tick_255 : decode cX7_tick 255 = .ok (.goto 4, 3) := by decide +kernel
theorem dX7_tick_258 : decode cX7_tick 258 = .ok (.iconst 0, 1) := by decide +kernel
theorem dX7_tick_259 : decode cX7_tick 259 = .ok (.putfield 76, 3) := by decide +kernel
theorem dX7_tick_262 : decode cX7_tick 262 = .ok (.goto (-235), 3) := by decide +kernel
theorem dX7_tick_265 : decode cX7_tick 265 = .ok (.iload_n 2, 1) := by decide +kernel
theorem dX7_tick_266 : decode cX7_tick 266 = .ok (.ireturn, 1) := by decide +kernel
theorem dX7_stop_0 : decode cX7_stop 0 = .ok (.aload_n 0, 1) := by decide +kernel
theorem dX7_stop_1 : decode cX7_stop 1 = .ok (.iconst 0, 1) := by decide +kernel
theorem dX7_stop_2 : decode cX7_stop 2 = .ok (.putfield 73, 3) := by decide +kernel
theorem dX7_stop_5 : decode cX7_stop 5 = .ok (.aload_n 0, 1) := by decide +kernel
theorem dX7_stop_6 : decode cX7_stop 6 = .ok (.getfield 76, 3) := by decide +kernel
theorem dX7_stop_9 : decode cX7_stop 9 = .ok (.ifCond .eq 25, 3) := by decide +kernel
theorem dX7_stop_12 : decode cX7_stop 12 = .ok (.aload_n 0, 1) := by decide +kernel
theorem dX7_stop_13 : decode cX7_stop 13 = .ok (.getfield 162, 3) := by decide +kernel
theorem dX7_stop_16 : decode cX7_stop 16 = .ok (.ifCond .ne 18, 3) := by decide +kernel
theorem dX7_stop_19 : decode cX7_stop 19 = .ok (.aload_n 0, 1) := by decide +kernel
theorem dX7_stop_20 : decode cX7_stop 20 = .ok (.aload_n 0, 1) := by decide +kernel
theorem dX7_stop_21 : decode cX7_stop 21 = .ok (.getfield 150, 3) := by decide +kernel
theorem dX7_stop_24 : decode cX7_stop 24 = .ok (.aload_n 0, 1) := by decide +kernel
theorem dX7_stop_25 : decode cX7_stop 25 = .ok (.getfield 153, 3) := by decide +kernel
theorem dX7_stop_28 : decode cX7_stop 28 = .ok (.invokevirtual 135, 3) := by decide +kernel
theorem dX7_stop_31 : decode cX7_stop 31 = .ok (.ifCond .ne 5, 3) := by decide +kernel
theorem dX7_stop_34 : decode cX7_stop 34 = .ok (.iconst (-1), 1) := by decide +kernel
theorem dX7_stop_35 : decode cX7_stop 35 = .ok (.ireturn, 1) := by decide +kernel
theorem dX7_stop_36 : decode cX7_stop 36 = .ok (.aload_n 0, 1) := by decide +kernel
theorem dX7_stop_37 : decode cX7_stop 37 = .ok (.invokevirtual 141, 3) := by decide +kernel
theorem dX7_stop_40 : decode cX7_stop 40 = .ok (.aload_n 0, 1) := by decide +kernel
theorem dX7_stop_41 : decode cX7_stop 41 = .ok (.iconst 1, 1) := by decide +kernel
theorem dX7_stop_42 : decode cX7_stop 42 = .ok (.putfield 162, 3) := by decide +kernel
theorem dX7_stop_45 : decode cX7_stop 45 = .ok (.aload_n 0, 1) := by decide +kernel
theorem dX7_stop_46 : decode cX7_stop 46 = .ok (.getfield 165, 3) := by decide +kernel
theorem dX7_stop_49 : decode cX7_stop 49 = .ok (.ireturn, 1) := by decide +kernel
theorem dX7_place_0 : decode cX7_place 0 = .ok (.aload_n 0, 1) := by decide +kernel
theorem dX7_place_1 : decode cX7_place 1 = .ok (.iload_n 1, 1) := by decide +kernel
theorem dX7_place_2 : decode cX7_place 2 = .ok (.iconst 0, 1) := by decide +kernel
theorem dX7_place_3 : decode cX7_place 3 = .ok (.iconst 2, 1) := by decide +kernel
theorem dX7_place_4 : decode cX7_place 4 = .ok (.invokestatic 80, 3) := by decide +kernel
theorem dX7_place_7 : decode cX7_place 7 = .ok (.ifCond .eq 7, 3) := by decide +kernel
theorem dX7_place_10 : decode cX7_place 10 = .ok (.iconst 0, 1) := by decide +kernel
theorem dX7_place_11 : decode cX7_place 11 = .ok (.goto 4, 3) := by decide +kernel
theorem dX7_place_14 : decode cX7_place 14 = .ok (.iconst 1, 1) := by decide +kernel
theorem dX7_place_15 : decode cX7_place 15 = .ok (.putfield 73, 3) := by decide +kernel
theorem dX7_place_18 : decode cX7_place 18 = .ok (.aload_n 0, 1) := by decide +kernel
theorem dX7_place_19 : decode cX7_place 19 = .ok (.getfield 73, 3) := by decide +kernel
theorem dX7_place_22 : decode cX7_place 22 = .ok (.ifCond .le 7, 3) := by decide +kernel
theorem dX7_place_25 : decode cX7_place 25 = .ok (.iconst 0, 1) := by decide +kernel
theorem dX7_place_26 : decode cX7_place 26 = .ok (.goto 22, 3) := by decide +kernel
theorem dX7_place_29 : decode cX7_place 29 = .ok (.iload_n 2, 1) := by decide +kernel
theorem dX7_place_30 : decode cX7_place 30 = .ok (.ifCond .eq 12, 3) := by decide +kernel
theorem dX7_place_33 : decode cX7_place 33 = .ok (.aload_n 0, 1) := by decide +kernel
theorem dX7_place_34 : decode cX7_place 34 = .ok (.getfield 51, 3) := by decide +kernel
theorem dX7_place_37 : decode cX7_place 37 = .ok (.iload_n 1, 1) := by decide +kernel
theorem dX7_place_38 : decode cX7_place 38 = .ok (.iaload, 1) := by decide +kernel
theorem dX7_place_39 : decode cX7_place 39 = .ok (.goto 9, 3) := by decide +kernel
theorem dX7_place_42 : decode cX7_place 42 = .ok (.aload_n 0, 1) := by decide +kernel
theorem dX7_place_43 : decode cX7_place 43 = .ok (.getfield 48, 3) := by decide +kernel
theorem dX7_place_46 : decode cX7_place 46 = .ok (.iload_n 1, 1) := by decide +kernel
theorem dX7_place_47 : decode cX7_place 47 = .ok (.iaload, 1) := by decide +kernel
theorem dX7_place_48 : decode cX7_place 48 = .ok (.ireturn, 1) := by decide +kernel
theorem dX7_state_0 : decode cX7_state 0 = .ok (.aload_n 0, 1) := by decide +kernel
theorem dX7_state_1 : decode cX7_state 1 = .ok (.iconst 0, 1) := by decide +kernel
theorem dX7_state_2 : decode cX7_state 2 = .ok (.putfield 73, 3) := by decide +kernel
theorem dX7_state_5 : decode cX7_state 5 = .ok (.iload_n 1, 1) := by decide +kernel
theorem dX7_state_6 : decode cX7_state 6 = .ok (.tableswitch 111 0 8 #[50, 63, 68, 73, 78, 83, 88, 93, 98], 50) := by decide +kernel
theorem dX7_state_56 : decode cX7_state 56 = .ok (.aload_n 0, 1) := by decide +kernel
theorem dX7_state_57 : decode cX7_state 57 = .ok (.getfield 76, 3) := by decide +kernel
theorem dX7_state_60 : decode cX7_state 60 = .ok (.ifCond .eq 7, 3) := by decide +kernel
theorem dX7_state_63 : decode cX7_state 63 = .ok (.iconst 1, 1) := by decide +kernel
theorem dX7_state_64 : decode cX7_state 64 = .ok (.goto 4, 3) := by decide +kernel
theorem dX7_state_67 : decode cX7_state 67 = .ok (.iconst 0, 1) := by decide +kernel
theorem dX7_state_68 : decode cX7_state 68 = .ok (.ireturn, 1) := by decide +kernel
theorem dX7_state_69 : decode cX7_state 69 = .ok (.aload_n 0, 1) := by decide +kernel
theorem dX7_state_70 : decode cX7_state 70 = .ok (.getfield 150, 3) := by decide +kernel
theorem dX7_state_73 : decode cX7_state 73 = .ok (.ireturn, 1) := by decide +kernel
theorem dX7_state_74 : decode cX7_state 74 = .ok (.aload_n 0, 1) := by decide +kernel
theorem dX7_state_75 : decode cX7_state 75 = .ok (.getfield 153, 3) := by decide +kernel
theorem dX7_state_78 : decode cX7_state 78 = .ok (.ireturn, 1) := by decide +kernel
theorem dX7_state_79 : decode cX7_state 79 = .ok (.aload_n 0, 1) := by decide +kernel
theorem dX7_state_80 : decode cX7_state 80 = .ok (.getfield 147, 3) := by decide +kernel
theorem dX7_state_83 : decode cX7_state 83 = .ok (.ireturn, 1) := by decide +kernel
theorem dX7_state_84 : decode cX7_state 84 = .ok (.aload_n 0, 1) := by decide +kernel
theorem dX7_state_85 : decode cX7_state 85 = .ok (.getfield 144, 3) := by decide +kernel
theorem dX7_state_88 : decode cX7_state 88 = .ok (.ireturn, 1) := by decide +kernel
theorem dX7_state_89 : decode cX7_state 89 = .ok (.aload_n 0, 1) := by decide +kernel
theorem dX7_state_90 : decode cX7_state 90 = .ok (.getfield 156, 3) := by decide +kernel
theorem dX7_state_93 : decode cX7_state 93 = .ok (.ireturn, 1) := by decide +kernel
theorem dX7_state_94 : decode cX7_state 94 = .ok (.aload_n 0, 1) := by decide +kernel
theorem dX7_state_95 : decode cX7_state 95 = .ok (.getfield 159, 3) := by decide +kernel
theorem dX7_state_98 : decode cX7_state 98 = .ok (.ireturn, 1) := by decide +kernel
theorem dX7_state_99 : decode cX7_state 99 = .ok (.aload_n 0, 1) := by decide +kernel
theorem dX7_state_100 : decode cX7_state 100 = .ok (.getfield 57, 3) := by decide +kernel
theorem dX7_state_103 : decode cX7_state 103 = .ok (.ireturn, 1) := by decide +kernel
theorem dX7_state_104 : decode cX7_state 104 = .ok (.aload_n 0, 1) := by decide +kernel
theorem dX7_state_105 : decode cX7_state 105 = .ok (.getfield 162, 3) := by decide +kernel
theorem dX7_state_108 : decode cX7_state 108 = .ok (.ifCond .eq 7, 3) := by decide +kernel
theorem dX7_state_111 : decode cX7_state 111 = .ok (.iconst 1, 1) := by decide +kernel
theorem dX7_state_112 : decode cX7_state 112 = .ok (.goto 4, 3) := by decide +kernel
theorem dX7_state_115 : decode cX7_state 115 = .ok (.iconst 0, 1) := by decide +kernel
theorem dX7_state_116 : decode cX7_state 116 = .ok (.ireturn, 1) := by decide +kernel
theorem dX7_state_117 : decode cX7_state 117 = .ok (.iconst (-1), 1) := by decide +kernel
theorem dX7_state_118 : decode cX7_state 118 = .ok (.ireturn, 1) := by decide +kernel
theorem dX7_at_0 : decode cX7_at 0 = .ok (.aload_n 0, 1) := by decide +kernel
theorem dX7_at_1 : decode cX7_at 1 = .ok (.iconst 0, 1) := by decide +kernel
theorem dX7_at_2 : decode cX7_at 2 = .ok (.putfield 73, 3) := by decide +kernel
theorem dX7_at_5 : decode cX7_at 5 = .ok (.iload_n 1, 1) := by decide +kernel
theorem dX7_at_6 : decode cX7_at 6 = .ok (.iconst 0, 1) := by decide +kernel
theorem dX7_at_7 : decode cX7_at 7 = .ok (.iconst 2, 1) := by decide +kernel
theorem dX7_at_8 : decode cX7_at 8 = .ok (.invokestatic 80, 3) := by decide +kernel
theorem dX7_at_11 : decode cX7_at 11 = .ok (.ifCond .eq 16, 3) := by decide +kernel
theorem dX7_at_14 : decode cX7_at 14 = .ok (.iload_n 2, 1) := by decide +kernel
theorem dX7_at_15 : decode cX7_at 15 = .ok (.sipush (-2000), 3) := by decide +kernel
theorem dX7_at_18 : decode cX7_at 18 = .ok (.sipush 2000, 3) := by decide +kernel
theorem dX7_at_21 : decode cX7_at 21 = .ok (.invokestatic 80, 3) := by decide +kernel
theorem dX7_at_24 : decode cX7_at 24 = .ok (.ifCond .ne 5, 3) := by decide +kernel
theorem dX7_at_27 : decode cX7_at 27 = .ok (.iconst 0, 1) := by decide +kernel
theorem dX7_at_28 : decode cX7_at 28 = .ok (.ireturn, 1) := by decide +kernel
theorem dX7_at_29 : decode cX7_at 29 = .ok (.aload_n 0, 1) := by decide +kernel
theorem dX7_at_30 : decode cX7_at 30 = .ok (.getfield 60, 3) := by decide +kernel
theorem dX7_at_33 : decode cX7_at 33 = .ok (.iload_n 1, 1) := by decide +kernel
theorem dX7_at_34 : decode cX7_at 34 = .ok (.iload_n 2, 1) := by decide +kernel
theorem dX7_at_35 : decode cX7_at 35 = .ok (.iastore, 1) := by decide +kernel
theorem dX7_at_36 : decode cX7_at 36 = .ok (.aload_n 0, 1) := by decide +kernel
theorem dX7_at_37 : decode cX7_at 37 = .ok (.getfield 63, 3) := by decide +kernel
theorem dX7_at_40 : decode cX7_at 40 = .ok (.iload_n 1, 1) := by decide +kernel
theorem dX7_at_41 : decode cX7_at 41 = .ok (.iconst 1, 1) := by decide +kernel
theorem dX7_at_42 : decode cX7_at 42 = .ok (.bastore, 1) := by decide +kernel
theorem dX7_at_43 : decode cX7_at 43 = .ok (.iconst 1, 1) := by decide +kernel
theorem dX7_at_44 : decode cX7_at 44 = .ok (.ireturn, 1) := by decide +kernel
theorem dX7_on_0 : decode cX7_on 0 = .ok (.aload_n 0, 1) := by decide +kernel
theorem dX7_on_1 : decode cX7_on 1 = .ok (.iconst 0, 1) := by decide +kernel
theorem dX7_on_2 : decode cX7_on 2 = .ok (.putfield 73, 3) := by decide +kernel
theorem dX7_on_5 : decode cX7_on 5 = .ok (.iload_n 1, 1) := by decide +kernel
theorem dX7_on_6 : decode cX7_on 6 = .ok (.iconst 0, 1) := by decide +kernel
theorem dX7_on_7 : decode cX7_on 7 = .ok (.iconst 2, 1) := by decide +kernel
theorem dX7_on_8 : decode cX7_on 8 = .ok (.invokestatic 80, 3) := by decide +kernel
theorem dX7_on_11 : decode cX7_on 11 = .ok (.ifCond .eq 12, 3) := by decide +kernel
theorem dX7_on_14 : decode cX7_on 14 = .ok (.aload_n 0, 1) := by decide +kernel
theorem dX7_on_15 : decode cX7_on 15 = .ok (.getfield 63, 3) := by decide +kernel
theorem dX7_on_18 : decode cX7_on 18 = .ok (.iload_n 1, 1) := by decide +kernel
theorem dX7_on_19 : decode cX7_on 19 = .ok (.baload, 1) := by decide +kernel
theorem dX7_on_20 : decode cX7_on 20 = .ok (.ifCond .ne 5, 3) := by decide +kernel
theorem dX7_on_23 : decode cX7_on 23 = .ok (.iconst (-1), 1) := by decide +kernel
theorem dX7_on_24 : decode cX7_on 24 = .ok (.ireturn, 1) := by decide +kernel
theorem dX7_on_25 : decode cX7_on 25 = .ok (.aload_n 0, 1) := by decide +kernel
theorem dX7_on_26 : decode cX7_on 26 = .ok (.getfield 51, 3) := by decide +kernel
theorem dX7_on_29 : decode cX7_on 29 = .ok (.iload_n 1, 1) := by decide +kernel
theorem dX7_on_30 : decode cX7_on 30 = .ok (.iaload, 1) := by decide +kernel
theorem dX7_on_31 : decode cX7_on 31 = .ok (.aload_n 0, 1) := by decide +kernel
theorem dX7_on_32 : decode cX7_on 32 = .ok (.getfield 60, 3) := by decide +kernel
theorem dX7_on_35 : decode cX7_on 35 = .ok (.iload_n 1, 1) := by decide +kernel
theorem dX7_on_36 : decode cX7_on 36 = .ok (.iaload, 1) := by decide +kernel
theorem dX7_on_37 : decode cX7_on 37 = .ok (.if_icmp .lt 7, 3) := by decide +kernel
theorem dX7_on_40 : decode cX7_on 40 = .ok (.iconst 1, 1) := by decide +kernel
theorem dX7_on_41 : decode cX7_on 41 = .ok (.goto 4, 3) := by decide +kernel
theorem dX7_on_44 : decode cX7_on 44 = .ok (.iconst 0, 1) := by decide +kernel
theorem dX7_on_45 : decode cX7_on 45 = .ok (.ireturn, 1) := by decide +kernel
theorem dX7_home_0 : decode cX7_home 0 = .ok (.aload_n 0, 1) := by decide +kernel
theorem dX7_home_1 : decode cX7_home 1 = .ok (.iconst 0, 1) := by decide +kernel
theorem dX7_home_2 : decode cX7_home 2 = .ok (.putfield 73, 3) := by decide +kernel
theorem dX7_home_5 : decode cX7_home 5 = .ok (.aload_n 0, 1) := by decide +kernel
theorem dX7_home_6 : decode cX7_home 6 = .ok (.getfield 76, 3) := by decide +kernel
theorem dX7_home_9 : decode cX7_home 9 = .ok (.ifCond .ne 21, 3) := by decide +kernel
theorem dX7_home_12 : decode cX7_home 12 = .ok (.iload_n 1, 1) := by decide +kernel
theorem dX7_home_13 : decode cX7_home 13 = .ok (.iconst 0, 1) := by decide +kernel
theorem dX7_home_14 : decode cX7_home 14 = .ok (.iconst 2, 1) := by decide +kernel
theorem dX7_home_15 : decode cX7_home 15 = .ok (.invokestatic 80, 3) := by decide +kernel
theorem dX7_home_18 : decode cX7_home 18 = .ok (.ifCond .eq 12, 3) := by decide +kernel
theorem dX7_home_21 : decode cX7_home 21 = .ok (.aload_n 0, 1) := by decide +kernel
theorem dX7_home_22 : decode cX7_home 22 = .ok (.getfield 63, 3) := by decide +kernel
theorem dX7_home_25 : decode cX7_home 25 = .ok (.iload_n 1, 1) := by decide +kernel
theorem dX7_home_26 : decode cX7_home 26 = .ok (.baload, 1) := by decide +kernel
theorem dX7_home_27 : decode cX7_home 27 = .ok (.ifCond .ne 5, 3) := by decide +kernel
theorem dX7_home_30 : decode cX7_home 30 = .ok (.iconst (-1), 1) := by decide +kernel
theorem dX7_home_31 : decode cX7_home 31 = .ok (.ireturn, 1) := by decide +kernel
theorem dX7_home_32 : decode cX7_home 32 = .ok (.iconst 0, 1) := by decide +kernel
theorem dX7_home_33 : decode cX7_home 33 = .ok (.istore_n 2, 1) := by decide +kernel
theorem dX7_home_34 : decode cX7_home 34 = .ok (.aload_n 0, 1) := by decide +kernel
theorem dX7_home_35 : decode cX7_home 35 = .ok (.getfield 51, 3) := by decide +kernel
theorem dX7_home_38 : decode cX7_home 38 = .ok (.iload_n 1, 1) := by decide +kernel
theorem dX7_home_39 : decode cX7_home 39 = .ok (.iaload, 1) := by decide +kernel
theorem dX7_home_40 : decode cX7_home 40 = .ok (.aload_n 0, 1) := by decide +kernel
theorem dX7_home_41 : decode cX7_home 41 = .ok (.getfield 60, 3) := by decide +kernel
theorem dX7_home_44 : decode cX7_home 44 = .ok (.iload_n 1, 1) := by decide +kernel
theorem dX7_home_45 : decode cX7_home 45 = .ok (.iaload, 1) := by decide +kernel
theorem dX7_home_46 : decode cX7_home 46 = .ok (.if_icmp .lt 34, 3) := by decide +kernel
theorem dX7_home_49 : decode cX7_home 49 = .ok (.aload_n 0, 1) := by decide +kernel
theorem dX7_home_50 : decode cX7_home 50 = .ok (.getfield 51, 3) := by decide +kernel
theorem dX7_home_53 : decode cX7_home 53 = .ok (.iload_n 1, 1) := by decide +kernel
theorem dX7_home_54 : decode cX7_home 54 = .ok (.iaload, 1) := by decide +kernel
theorem dX7_home_55 : decode cX7_home 55 = .ok (.aload_n 0, 1) := by decide +kernel
theorem dX7_home_56 : decode cX7_home 56 = .ok (.getfield 60, 3) := by decide +kernel
theorem dX7_home_59 : decode cX7_home 59 = .ok (.iload_n 1, 1) := by decide +kernel
theorem dX7_home_60 : decode cX7_home 60 = .ok (.iaload, 1) := by decide +kernel
theorem dX7_home_61 : decode cX7_home 61 = .ok (.if_icmp .lt 19, 3) := by decide +kernel
theorem dX7_home_64 : decode cX7_home 64 = .ok (.aload_n 0, 1) := by decide +kernel
theorem dX7_home_65 : decode cX7_home 65 = .ok (.getfield 51, 3) := by decide +kernel
theorem dX7_home_68 : decode cX7_home 68 = .ok (.iload_n 1, 1) := by decide +kernel
theorem dX7_home_69 : decode cX7_home 69 = .ok (.dup2, 1) := by decide +kernel
theorem dX7_home_70 : decode cX7_home 70 = .ok (.iaload, 1) := by decide +kernel
theorem dX7_home_71 : decode cX7_home 71 = .ok (.iconst 1, 1) := by decide +kernel
theorem dX7_home_72 : decode cX7_home 72 = .ok (.isub, 1) := by decide +kernel
theorem dX7_home_73 : decode cX7_home 73 = .ok (.iastore, 1) := by decide +kernel
theorem dX7_home_74 : decode cX7_home 74 = .ok (.iinc 2 1, 3) := by decide +kernel
theorem dX7_home_77 : decode cX7_home 77 = .ok (.goto (-28), 3) := by decide +kernel
theorem dX7_home_80 : decode cX7_home 80 = .ok (.aload_n 0, 1) := by decide +kernel
theorem dX7_home_81 : decode cX7_home 81 = .ok (.getfield 51, 3) := by decide +kernel
theorem dX7_home_84 : decode cX7_home 84 = .ok (.iload_n 1, 1) := by decide +kernel
theorem dX7_home_85 : decode cX7_home 85 = .ok (.iaload, 1) := by decide +kernel
theorem dX7_home_86 : decode cX7_home 86 = .ok (.aload_n 0, 1) := by decide +kernel
theorem dX7_home_87 : decode cX7_home 87 = .ok (.getfield 60, 3) := by decide +kernel
theorem dX7_home_90 : decode cX7_home 90 = .ok (.iload_n 1, 1) := by decide +kernel
theorem dX7_home_91 : decode cX7_home 91 = .ok (.iaload, 1) := by decide +kernel
theorem dX7_home_92 : decode cX7_home 92 = .ok (.if_icmp .ge 19, 3) := by decide +kernel
theorem dX7_home_95 : decode cX7_home 95 = .ok (.aload_n 0, 1) := by decide +kernel
theorem dX7_home_96 : decode cX7_home 96 = .ok (.getfield 51, 3) := by decide +kernel
theorem dX7_home_99 : decode cX7_home 99 = .ok (.iload_n 1, 1) := by decide +kernel
theorem dX7_home_100 : decode cX7_home 100 = .ok (.dup2, 1) := by decide +kernel
theorem dX7_home_101 : decode cX7_home 101 = .ok (.iaload, 1) := by decide +kernel
theorem dX7_home_102 : decode cX7_home 102 = .ok (.iconst 1, 1) := by decide +kernel
theorem dX7_home_103 : decode cX7_home 103 = .ok (.iadd, 1) := by decide +kernel
theorem dX7_home_104 : decode cX7_home 104 = .ok (.iastore, 1) := by decide +kernel
theorem dX7_home_105 : decode cX7_home 105 = .ok (.iinc 2 1, 3) := by decide +kernel
theorem dX7_home_108 : decode cX7_home 108 = .ok (.goto (-28), 3) := by decide +kernel
theorem dX7_home_111 : decode cX7_home 111 = .ok (.aload_n 0, 1) := by decide +kernel
theorem dX7_home_112 : decode cX7_home 112 = .ok (.getfield 48, 3) := by decide +kernel
theorem dX7_home_115 : decode cX7_home 115 = .ok (.iload_n 1, 1) := by decide +kernel
theorem dX7_home_116 : decode cX7_home 116 = .ok (.iconst 0, 1) := by decide +kernel
theorem dX7_home_117 : decode cX7_home 117 = .ok (.iastore, 1) := by decide +kernel
theorem dX7_home_118 : decode cX7_home 118 = .ok (.iload_n 2, 1) := by decide +kernel
theorem dX7_home_119 : decode cX7_home 119 = .ok (.ireturn, 1) := by decide +kernel
theorem dX7_table_0 : decode cX7_table 0 = .ok (.aload_n 0, 1) := by decide +kernel
theorem dX7_table_1 : decode cX7_table 1 = .ok (.iconst 0, 1) := by decide +kernel
theorem dX7_table_2 : decode cX7_table 2 = .ok (.putfield 73, 3) := by decide +kernel
theorem dX7_table_5 : decode cX7_table 5 = .ok (.iload_n 1, 1) := by decide +kernel
theorem dX7_table_6 : decode cX7_table 6 = .ok (.iconst 1, 1) := by decide +kernel
theorem dX7_table_7 : decode cX7_table 7 = .ok (.if_icmp .eq 19, 3) := by decide +kernel
theorem dX7_table_10 : decode cX7_table 10 = .ok (.iload_n 1, 1) := by decide +kernel
theorem dX7_table_11 : decode cX7_table 11 = .ok (.iconst 2, 1) := by decide +kernel
theorem dX7_table_12 : decode cX7_table 12 = .ok (.if_icmp .eq 14, 3) := by decide +kernel
theorem dX7_table_15 : decode cX7_table 15 = .ok (.iload_n 1, 1) := by decide +kernel
theorem dX7_table_16 : decode cX7_table 16 = .ok (.iconst 4, 1) := by decide +kernel
theorem dX7_table_17 : decode cX7_table 17 = .ok (.if_icmp .eq 9, 3) := by decide +kernel
theorem dX7_table_20 : decode cX7_table 20 = .ok (.iload_n 1, 1) := by decide +kernel
theorem dX7_table_21 : decode cX7_table 21 = .ok (.bipush 8, 2) := by decide +kernel
theorem dX7_table_23 : decode cX7_table 23 = .ok (.if_icmp .ne 13, 3) := by decide +kernel
theorem dX7_table_26 : decode cX7_table 26 = .ok (.iload_n 2, 1) := by decide +kernel
theorem dX7_table_27 : decode cX7_table 27 = .ok (.iconst 1, 1) := by decide +kernel
theorem dX7_table_28 : decode cX7_table 28 = .ok (.bipush 100, 2) := by decide +kernel
theorem dX7_table_30 : decode cX7_table 30 = .ok (.invokestatic 80, 3) := by decide +kernel
theorem dX7_table_33 : decode cX7_table 33 = .ok (.ifCond .ne 5, 3) := by decide +kernel
theorem dX7_table_36 : decode cX7_table 36 = .ok (.iconst 0, 1) := by decide +kernel
theorem dX7_table_37 : decode cX7_table 37 = .ok (.ireturn, 1) := by decide +kernel
theorem dX7_table_38 : decode cX7_table 38 = .ok (.aload_n 0, 1) := by decide +kernel
theorem dX7_table_39 : decode cX7_table 39 = .ok (.iload_n 1, 1) := by decide +kernel
theorem dX7_table_40 : decode cX7_table 40 = .ok (.putfield 174, 3) := by decide +kernel
theorem dX7_table_43 : decode cX7_table 43 = .ok (.aload_n 0, 1) := by decide +kernel
theorem dX7_table_44 : decode cX7_table 44 = .ok (.iload_n 2, 1) := by decide +kernel
theorem dX7_table_45 : decode cX7_table 45 = .ok (.putfield 177, 3) := by decide +kernel
theorem dX7_table_48 : decode cX7_table 48 = .ok (.iconst 0, 1) := by decide +kernel
theorem dX7_table_49 : decode cX7_table 49 = .ok (.istore_n 3, 1) := by decide +kernel
theorem dX7_table_50 : decode cX7_table 50 = .ok (.iload_n 3, 1) := by decide +kernel
theorem dX7_table_51 : decode cX7_table 51 = .ok (.aload_n 0, 1) := by decide +kernel
theorem dX7_table_52 : decode cX7_table 52 = .ok (.getfield 174, 3) := by decide +kernel
theorem dX7_table_55 : decode cX7_table 55 = .ok (.if_icmp .gt 31, 3) := by decide +kernel
theorem dX7_table_58 : decode cX7_table 58 = .ok (.aload_n 0, 1) := by decide +kernel
theorem dX7_table_59 : decode cX7_table 59 = .ok (.getfield 66, 3) := by decide +kernel
theorem dX7_table_62 : decode cX7_table 62 = .ok (.iload_n 3, 1) := by decide +kernel
theorem dX7_table_63 : decode cX7_table 63 = .ok (.aload_n 0, 1) := by decide +kernel
theorem dX7_table_64 : decode cX7_table 64 = .ok (.getfield 177, 3) := by decide +kernel
theorem dX7_table_67 : decode cX7_table 67 = .ok (.aload_n 0, 1) := by decide +kernel
theorem dX7_table_68 : decode cX7_table 68 = .ok (.getfield 174, 3) := by decide +kernel
theorem dX7_table_71 : decode cX7_table 71 = .ok (.iload_n 3, 1) := by decide +kernel
theorem dX7_table_72 : decode cX7_table 72 = .ok (.isub, 1) := by decide +kernel
theorem dX7_table_73 : decode cX7_table 73 = .ok (.imul, 1) := by decide +kernel
theorem dX7_table_74 : decode cX7_table 74 = .ok (.aload_n 0, 1) := by decide +kernel
theorem dX7_table_75 : decode cX7_table 75 = .ok (.getfield 174, 3) := by decide +kernel
theorem dX7_table_78 : decode cX7_table 78 = .ok (.idiv, 1) := by decide +kernel
theorem dX7_table_79 : decode cX7_table 79 = .ok (.iastore, 1) := by decide +kernel
theorem dX7_table_80 : decode cX7_table 80 = .ok (.iinc 3 1, 3) := by decide +kernel
theorem dX7_table_83 : decode cX7_table 83 = .ok (.goto (-33), 3) := by decide +kernel
theorem dX7_table_86 : decode cX7_table 86 = .ok (.iconst 1, 1) := by decide +kernel
theorem dX7_table_87 : decode cX7_table 87 = .ok (.ireturn, 1) := by decide +kernel
theorem dX7_set_0 : decode cX7_set 0 = .ok (.aload_n 0, 1) := by decide +kernel
theorem dX7_set_1 : decode cX7_set 1 = .ok (.iconst 0, 1) := by decide +kernel
theorem dX7_set_2 : decode cX7_set 2 = .ok (.putfield 73, 3) := by decide +kernel
theorem dX7_set_5 : decode cX7_set 5 = .ok (.iload_n 1, 1) := by decide +kernel
theorem dX7_set_6 : decode cX7_set 6 = .ok (.iconst 0, 1) := by decide +kernel
theorem dX7_set_7 : decode cX7_set 7 = .ok (.aload_n 0, 1) := by decide +kernel
theorem dX7_set_8 : decode cX7_set 8 = .ok (.getfield 174, 3) := by decide +kernel
theorem dX7_set_11 : decode cX7_set 11 = .ok (.invokestatic 80, 3) := by decide +kernel
theorem dX7_set_14 : decode cX7_set 14 = .ok (.ifCond .eq 15, 3) := by decide +kernel
theorem dX7_set_17 : decode cX7_set 17 = .ok (.iload_n 2, 1) := by decide +kernel
theorem dX7_set_18 : decode cX7_set 18 = .ok (.iconst 0, 1) := by decide +kernel
theorem dX7_set_19 : decode cX7_set 19 = .ok (.aload_n 0, 1) := by decide +kernel
theorem dX7_set_20 : decode cX7_set 20 = .ok (.getfield 177, 3) := by decide +kernel
theorem dX7_set_23 : decode cX7_set 23 = .ok (.invokestatic 80, 3) := by decide +kernel
theorem dX7_set_26 : decode cX7_set 26 = .ok (.ifCond .ne 5, 3) := by decide +kernel
theorem dX7_set_29 : decode cX7_set 29 = .ok (.iconst 0, 1) := by decide +kernel
theorem dX7_set_30 : decode cX7_set 30 = .ok (.ireturn, 1) := by decide +kernel
theorem dX7_set_31 : decode cX7_set 31 = .ok (.aload_n 0, 1) := by decide +kernel
theorem dX7_set_32 : decode cX7_set 32 = .ok (.getfield 66, 3) := by decide +kernel
theorem dX7_set_35 : decode cX7_set 35 = .ok (.iload_n 1, 1) := by decide +kernel
theorem dX7_set_36 : decode cX7_set 36 = .ok (.iload_n 2, 1) := by decide +kernel
theorem dX7_set_37 : decode cX7_set 37 = .ok (.iastore, 1) := by decide +kernel
theorem dX7_set_38 : decode cX7_set 38 = .ok (.iconst 1, 1) := by decide +kernel
theorem dX7_set_39 : decode cX7_set 39 = .ok (.ireturn, 1) := by decide +kernel
theorem dX7_current_0 : decode cX7_current 0 = .ok (.aload_n 0, 1) := by decide +kernel
theorem dX7_current_1 : decode cX7_current 1 = .ok (.iload_n 1, 1) := by decide +kernel
theorem dX7_current_2 : decode cX7_current 2 = .ok (.iconst 0, 1) := by decide +kernel
theorem dX7_current_3 : decode cX7_current 3 = .ok (.sipush 1000, 3) := by decide +kernel
theorem dX7_current_6 : decode cX7_current 6 = .ok (.invokestatic 80, 3) := by decide +kernel
theorem dX7_current_9 : decode cX7_current 9 = .ok (.ifCond .eq 12, 3) := by decide +kernel
theorem dX7_current_12 : decode cX7_current 12 = .ok (.iload_n 2, 1) := by decide +kernel
theorem dX7_current_13 : decode cX7_current 13 = .ok (.iconst 0, 1) := by decide +kernel
theorem dX7_current_14 : decode cX7_current 14 = .ok (.iconst 1, 1) := by decide +kernel
theorem dX7_current_15 : decode cX7_current 15 = .ok (.invokestatic 80, 3) := by decide +kernel
theorem dX7_current_18 : decode cX7_current 18 = .ok (.ifCond .ne 7, 3) := by decide +kernel
theorem dX7_current_21 : decode cX7_current 21 = .ok (.iconst 1, 1) := by decide +kernel
theorem dX7_current_22 : decode cX7_current 22 = .ok (.goto 4, 3) := by decide +kernel
theorem dX7_current_25 : decode cX7_current 25 = .ok (.iconst 0, 1) := by decide +kernel
theorem dX7_current_26 : decode cX7_current 26 = .ok (.putfield 73, 3) := by decide +kernel
theorem dX7_current_29 : decode cX7_current 29 = .ok (.aload_n 0, 1) := by decide +kernel
theorem dX7_current_30 : decode cX7_current 30 = .ok (.getfield 73, 3) := by decide +kernel
theorem dX7_current_33 : decode cX7_current 33 = .ok (.ifCond .le 5, 3) := by decide +kernel
theorem dX7_current_36 : decode cX7_current 36 = .ok (.iconst 0, 1) := by decide +kernel
theorem dX7_current_37 : decode cX7_current 37 = .ok (.ireturn, 1) := by decide +kernel
theorem dX7_current_38 : decode cX7_current 38 = .ok (.iload_n 1, 1) := by decide +kernel
theorem dX7_current_39 : decode cX7_current 39 = .ok (.aload_n 0, 1) := by decide +kernel
theorem dX7_current_40 : decode cX7_current 40 = .ok (.getfield 174, 3) := by decide +kernel
theorem dX7_current_43 : decode cX7_current 43 = .ok (.irem, 1) := by decide +kernel
theorem dX7_current_44 : decode cX7_current 44 = .ok (.istore_n 3, 1) := by decide +kernel
theorem dX7_current_45 : decode cX7_current 45 = .ok (.aload_n 0, 1) := by decide +kernel
theorem dX7_current_46 : decode cX7_current 46 = .ok (.getfield 66, 3) := by decide +kernel
theorem dX7_current_49 : decode cX7_current 49 = .ok (.iload_n 3, 1) := by decide +kernel
theorem dX7_current_50 : decode cX7_current 50 = .ok (.iaload, 1) := by decide +kernel
theorem dX7_current_51 : decode cX7_current 51 = .ok (.istore 4, 2) := by decide +kernel
theorem dX7_current_53 : decode cX7_current 53 = .ok (.aload_n 0, 1) := by decide +kernel
theorem dX7_current_54 : decode cX7_current 54 = .ok (.getfield 66, 3) := by decide +kernel
theorem dX7_current_57 : decode cX7_current 57 = .ok (.aload_n 0, 1) := by decide +kernel
theorem dX7_current_58 : decode cX7_current 58 = .ok (.getfield 174, 3) := by decide +kernel
theorem dX7_current_61 : decode cX7_current 61 = .ok (.iload_n 3, 1) := by decide +kernel
theorem dX7_current_62 : decode cX7_current 62 = .ok (.isub, 1) := by decide +kernel
theorem dX7_current_63 : decode cX7_current 63 = .ok (.iaload, 1) := by decide +kernel
theorem dX7_current_64 : decode cX7_current 64 = .ok (.istore 5, 2) := by decide +kernel
theorem dX7_current_66 : decode cX7_current 66 = .ok (.iload_n 1, 1) := by decide +kernel
theorem dX7_current_67 : decode cX7_current 67 = .ok (.aload_n 0, 1) := by decide +kernel
theorem dX7_current_68 : decode cX7_current 68 = .ok (.getfield 174, 3) := by decide +kernel
theorem dX7_current_71 : decode cX7_current 71 = .ok (.idiv, 1) := by decide +kernel
theorem dX7_current_72 : decode cX7_current 72 = .ok (.iconst 4, 1) := by decide +kernel
theorem dX7_current_73 : decode cX7_current 73 = .ok (.irem, 1) := by decide +kernel
theorem dX7_current_74 : decode cX7_current 74 = .ok (.tableswitch 65 0 2 #[26, 38, 51], 26) := by decide +kernel
theorem dX7_current_100 : decode cX7_current 100 = .ok (.iload_n 2, 1) := by decide +kernel
theorem dX7_current_101 : decode cX7_current 101 = .ok (.ifCond .ne 8, 3) := by decide +kernel
theorem dX7_current_104 : decode cX7_current 104 = .ok (.iload 4, 2) := by decide +kernel
theorem dX7_current_106 : decode cX7_current 106 = .ok (.goto 5, 3) := by decide +kernel
theorem dX7_current_109 : decode cX7_current 109 = .ok (.iload 5, 2) := by decide +kernel
theorem dX7_current_111 : decode cX7_current 111 = .ok (.ireturn, 1) := by decide +kernel
theorem dX7_current_112 : decode cX7_current 112 = .ok (.iload_n 2, 1) := by decide +kernel
theorem dX7_current_113 : decode cX7_current 113 = .ok (.ifCond .ne 9, 3) := by decide +kernel
theorem dX7_current_116 : decode cX7_current 116 = .ok (.iload 5, 2) := by decide +kernel
theorem dX7_current_118 : decode cX7_current 118 = .ok (.ineg, 1) := by decide +kernel
theorem dX7_current_119 : decode cX7_current 119 = .ok (.goto 5, 3) := by decide +kernel
theorem dX7_current_122 : decode cX7_current 122 = .ok (.iload 4, 2) := by decide +kernel
theorem dX7_current_124 : decode cX7_current 124 = .ok (.ireturn, 1) := by decide +kernel
theorem dX7_current_125 : decode cX7_current 125 = .ok (.iload_n 2, 1) := by decide +kernel
theorem dX7_current_126 : decode cX7_current 126 = .ok (.ifCond .ne 9, 3) := by decide +kernel
theorem dX7_current_129 : decode cX7_current 129 = .ok (.iload 4, 2) := by decide +kernel
theorem dX7_current_131 : decode cX7_current 131 = .ok (.ineg, 1) := by decide +kernel
theorem dX7_current_132 : decode cX7_current 132 = .ok (.goto 6, 3) := by decide +kernel
theorem dX7_current_135 : decode cX7_current 135 = .ok (.iload 5, 2) := by decide +kernel
theorem dX7_current_137 : decode cX7_current 137 = .ok (.ineg, 1) := by decide +kernel
theorem dX7_current_138 : decode cX7_current 138 = .ok (.ireturn, 1) := by decide +kernel
theorem dX7_current_139 : decode cX7_current 139 = .ok (.iload_n 2, 1) := by decide +kernel
theorem dX7_current_140 : decode cX7_current 140 = .ok (.ifCond .ne 8, 3) := by decide +kernel
theorem dX7_current_143 : decode cX7_current 143 = .ok (.iload 5, 2) := by decide +kernel
theorem dX7_current_145 : decode cX7_current 145 = .ok (.goto 6, 3) := by decide +kernel
theorem dX7_current_148 : decode cX7_current 148 = .ok (.iload 4, 2) := by decide +kernel
theorem dX7_current_150 : decode cX7_current 150 = .ok (.ineg, 1) := by decide +kernel
theorem dX7_current_151 : decode cX7_current 151 = .ok (.ireturn, 1) := by decide +kernel
theorem dX7_missOf_0 : decode cX7_missOf 0 = .ok (.aload_n 0, 1) := by decide +kernel
theorem dX7_missOf_1 : decode cX7_missOf 1 = .ok (.getfield 66, 3) := by decide +kernel
theorem dX7_missOf_4 : decode cX7_missOf 4 = .ok (.iload_n 1, 1) := by decide +kernel
theorem dX7_missOf_5 : decode cX7_missOf 5 = .ok (.iaload, 1) := by decide +kernel
theorem dX7_missOf_6 : decode cX7_missOf 6 = .ok (.aload_n 0, 1) := by decide +kernel
theorem dX7_missOf_7 : decode cX7_missOf 7 = .ok (.getfield 66, 3) := by decide +kernel
theorem dX7_missOf_10 : decode cX7_missOf 10 = .ok (.iload_n 1, 1) := by decide +kernel
theorem dX7_missOf_11 : decode cX7_missOf 11 = .ok (.iaload, 1) := by decide +kernel
theorem dX7_missOf_12 : decode cX7_missOf 12 = .ok (.imul, 1) := by decide +kernel
theorem dX7_missOf_13 : decode cX7_missOf 13 = .ok (.aload_n 0, 1) := by decide +kernel
theorem dX7_missOf_14 : decode cX7_missOf 14 = .ok (.getfield 66, 3) := by decide +kernel
theorem dX7_missOf_17 : decode cX7_missOf 17 = .ok (.aload_n 0, 1) := by decide +kernel
theorem dX7_missOf_18 : decode cX7_missOf 18 = .ok (.getfield 174, 3) := by decide +kernel
theorem dX7_missOf_21 : decode cX7_missOf 21 = .ok (.iload_n 1, 1) := by decide +kernel
theorem dX7_missOf_22 : decode cX7_missOf 22 = .ok (.isub, 1) := by decide +kernel
theorem dX7_missOf_23 : decode cX7_missOf 23 = .ok (.iaload, 1) := by decide +kernel
theorem dX7_missOf_24 : decode cX7_missOf 24 = .ok (.aload_n 0, 1) := by decide +kernel
theorem dX7_missOf_25 : decode cX7_missOf 25 = .ok (.getfield 66, 3) := by decide +kernel
theorem dX7_missOf_28 : decode cX7_missOf 28 = .ok (.aload_n 0, 1) := by decide +kernel
theorem dX7_missOf_29 : decode cX7_missOf 29 = .ok (.getfield 174, 3) := by decide +kernel
theorem dX7_missOf_32 : decode cX7_missOf 32 = .ok (.iload_n 1, 1) := by decide +kernel
theorem dX7_missOf_33 : decode cX7_missOf 33 = .ok (.isub, 1) := by decide +kernel
theorem dX7_missOf_34 : decode cX7_missOf 34 = .ok (.iaload, 1) := by decide +kernel
theorem dX7_missOf_35 : decode cX7_missOf 35 = .ok (.imul, 1) := by decide +kernel
theorem dX7_missOf_36 : decode cX7_missOf 36 = .ok (.iadd, 1) := by decide +kernel
theorem dX7_missOf_37 : decode cX7_missOf 37 = .ok (.aload_n 0, 1) := by decide +kernel
theorem dX7_missOf_38 : decode cX7_missOf 38 = .ok (.getfield 177, 3) := by decide +kernel
theorem dX7_missOf_41 : decode cX7_missOf 41 = .ok (.aload_n 0, 1) := by decide +kernel
theorem dX7_missOf_42 : decode cX7_missOf 42 = .ok (.getfield 177, 3) := by decide +kernel
theorem dX7_missOf_45 : decode cX7_missOf 45 = .ok (.imul, 1) := by decide +kernel
theorem dX7_missOf_46 : decode cX7_missOf 46 = .ok (.isub, 1) := by decide +kernel
theorem dX7_missOf_47 : decode cX7_missOf 47 = .ok (.invokestatic 93, 3) := by decide +kernel
theorem dX7_missOf_50 : decode cX7_missOf 50 = .ok (.ireturn, 1) := by decide +kernel
theorem dX7_miss_0 : decode cX7_miss 0 = .ok (.aload_n 0, 1) := by decide +kernel
theorem dX7_miss_1 : decode cX7_miss 1 = .ok (.iconst 0, 1) := by decide +kernel
theorem dX7_miss_2 : decode cX7_miss 2 = .ok (.putfield 73, 3) := by decide +kernel
theorem dX7_miss_5 : decode cX7_miss 5 = .ok (.iload_n 1, 1) := by decide +kernel
theorem dX7_miss_6 : decode cX7_miss 6 = .ok (.iconst 0, 1) := by decide +kernel
theorem dX7_miss_7 : decode cX7_miss 7 = .ok (.aload_n 0, 1) := by decide +kernel
theorem dX7_miss_8 : decode cX7_miss 8 = .ok (.getfield 174, 3) := by decide +kernel
theorem dX7_miss_11 : decode cX7_miss 11 = .ok (.invokestatic 80, 3) := by decide +kernel
theorem dX7_miss_14 : decode cX7_miss 14 = .ok (.ifCond .eq 11, 3) := by decide +kernel
theorem dX7_miss_17 : decode cX7_miss 17 = .ok (.aload_n 0, 1) := by decide +kernel
theorem dX7_miss_18 : decode cX7_miss 18 = .ok (.iload_n 1, 1) := by decide +kernel
theorem dX7_miss_19 : decode cX7_miss 19 = .ok (.invokevirtual 180, 3) := by decide +kernel
theorem dX7_miss_22 : decode cX7_miss 22 = .ok (.goto 4, 3) := by decide +kernel
theorem dX7_miss_25 : decode cX7_miss 25 = .ok (.iconst (-1), 1) := by decide +kernel
theorem dX7_miss_26 : decode cX7_miss 26 = .ok (.ireturn, 1) := by decide +kernel
theorem dX7_evenness_0 : decode cX7_evenness 0 = .ok (.aload_n 0, 1) := by decide +kernel
theorem dX7_evenness_1 : decode cX7_evenness 1 = .ok (.iconst 0, 1) := by decide +kernel
theorem dX7_evenness_2 : decode cX7_evenness 2 = .ok (.putfield 73, 3) := by decide +kernel
theorem dX7_evenness_5 : decode cX7_evenness 5 = .ok (.iconst 0, 1) := by decide +kernel
theorem dX7_evenness_6 : decode cX7_evenness 6 = .ok (.istore_n 1, 1) := by decide +kernel
theorem dX7_evenness_7 : decode cX7_evenness 7 = .ok (.iconst 0, 1) := by decide +kernel
theorem dX7_evenness_8 : decode cX7_evenness 8 = .ok (.istore_n 2, 1) := by decide +kernel
theorem dX7_evenness_9 : decode cX7_evenness 9 = .ok (.iload_n 2, 1) := by decide +kernel
theorem dX7_evenness_10 : decode cX7_evenness 10 = .ok (.aload_n 0, 1) := by decide +kernel
theorem dX7_evenness_11 : decode cX7_evenness 11 = .ok (.getfield 174, 3) := by decide +kernel
theorem dX7_evenness_14 : decode cX7_evenness 14 = .ok (.if_icmp .gt 19, 3) := by decide +kernel
theorem dX7_evenness_17 : decode cX7_evenness 17 = .ok (.iload_n 1, 1) := by decide +kernel
theorem dX7_evenness_18 : decode cX7_evenness 18 = .ok (.aload_n 0, 1) := by decide +kernel
theorem dX7_evenness_19 : decode cX7_evenness 19 = .ok (.iload_n 2, 1) := by decide +kernel
theorem dX7_evenness_20 : decode cX7_evenness 20 = .ok (.invokevirtual 180, 3) := by decide +kernel
theorem dX7_evenness_23 : decode cX7_evenness 23 = .ok (.invokestatic 138, 3) := by decide +kernel
theorem dX7_evenness_26 : decode cX7_evenness 26 = .ok (.istore_n 1, 1) := by decide +kernel
theorem dX7_evenness_27 : decode cX7_evenness 27 = .ok (.iinc 2 1, 3) := by decide +kernel
theorem dX7_evenness_30 : decode cX7_evenness 30 = .ok (.goto (-21), 3) := by decide +kernel
theorem dX7_evenness_33 : decode cX7_evenness 33 = .ok (.iload_n 1, 1) := by decide +kernel
theorem dX7_evenness_34 : decode cX7_evenness 34 = .ok (.ireturn, 1) := by decide +kernel
theorem dX7_smooth_0 : decode cX7_smooth 0 = .ok (.aload_n 0, 1) := by decide +kernel
theorem dX7_smooth_1 : decode cX7_smooth 1 = .ok (.iconst 0, 1) := by decide +kernel
theorem dX7_smooth_2 : decode cX7_smooth 2 = .ok (.putfield 73, 3) := by decide +kernel
theorem dX7_smooth_5 : decode cX7_smooth 5 = .ok (.iconst 0, 1) := by decide +kernel
theorem dX7_smooth_6 : decode cX7_smooth 6 = .ok (.istore_n 1, 1) := by decide +kernel
theorem dX7_smooth_7 : decode cX7_smooth 7 = .ok (.iconst 2, 1) := by decide +kernel
theorem dX7_smooth_8 : decode cX7_smooth 8 = .ok (.iload_n 1, 1) := by decide +kernel
theorem dX7_smooth_9 : decode cX7_smooth 9 = .ok (.imul, 1) := by decide +kernel
theorem dX7_smooth_10 : decode cX7_smooth 10 = .ok (.aload_n 0, 1) := by decide +kernel
theorem dX7_smooth_11 : decode cX7_smooth 11 = .ok (.getfield 174, 3) := by decide +kernel
theorem dX7_smooth_14 : decode cX7_smooth 14 = .ok (.if_icmp .gt 161, 3) := by decide +kernel
theorem dX7_smooth_17 : decode cX7_smooth 17 = .ok (.ldc 105, 2) := by decide +kernel
theorem dX7_smooth_19 : decode cX7_smooth 19 = .ok (.istore_n 2, 1) := by decide +kernel
theorem dX7_smooth_20 : decode cX7_smooth 20 = .ok (.ldc 105, 2) := by decide +kernel
theorem dX7_smooth_22 : decode cX7_smooth 22 = .ok (.istore_n 3, 1) := by decide +kernel
theorem dX7_smooth_23 : decode cX7_smooth 23 = .ok (.aload_n 0, 1) := by decide +kernel
theorem dX7_smooth_24 : decode cX7_smooth 24 = .ok (.getfield 177, 3) := by decide +kernel
theorem dX7_smooth_27 : decode cX7_smooth 27 = .ok (.istore 4, 2) := by decide +kernel
theorem dX7_smooth_29 : decode cX7_smooth 29 = .ok (.iload 4, 2) := by decide +kernel
theorem dX7_smooth_31 : decode cX7_smooth 31 = .ok (.ifCond .lt 138, 3) := by decide +kernel
theorem dX7_smooth_34 : decode cX7_smooth 34 = .ok (.iconst 0, 1) := by decide +kernel
theorem dX7_smooth_35 : decode cX7_smooth 35 = .ok (.istore 5, 2) := by decide +kernel
theorem dX7_smooth_37 : decode cX7_smooth 37 = .ok (.iload 5, 2) := by decide +kernel
theorem dX7_smooth_39 : decode cX7_smooth 39 = .ok (.iload 4, 2) := by decide +kernel
theorem dX7_smooth_41 : decode cX7_smooth 41 = .ok (.if_icmp .gt 122, 3) := by decide +kernel
theorem dX7_smooth_44 : decode cX7_smooth 44 = .ok (.iconst 2, 1) := by decide +kernel
theorem dX7_smooth_45 : decode cX7_smooth 45 = .ok (.iload_n 1, 1) := by decide +kernel
theorem dX7_smooth_46 : decode cX7_smooth 46 = .ok (.imul, 1) := by decide +kernel
theorem dX7_smooth_47 : decode cX7_smooth 47 = .ok (.aload_n 0, 1) := by decide +kernel
theorem dX7_smooth_48 : decode cX7_smooth 48 = .ok (.getfield 174, 3) := by decide +kernel
theorem dX7_smooth_51 : decode cX7_smooth 51 = .ok (.if_icmp .ne 13, 3) := by decide +kernel
theorem dX7_smooth_54 : decode cX7_smooth 54 = .ok (.iload 4, 2) := by decide +kernel
theorem dX7_smooth_56 : decode cX7_smooth 56 = .ok (.iload 5, 2) := by decide +kernel
theorem dX7_smooth_58 : decode cX7_smooth 58 = .ok (.if_icmp .eq 6, 3) := by decide +kernel
theorem dX7_smooth_61 : decode cX7_smooth 61 = .ok (.goto 96, 3) := by decide +kernel
theorem dX7_smooth_64 : decode cX7_smooth 64 = .ok (.iload 4, 2) := by decide +kernel
theorem dX7_smooth_66 : decode cX7_smooth 66 = .ok (.iload 4, 2) := by decide +kernel
theorem dX7_smooth_68 : decode cX7_smooth 68 = .ok (.imul, 1) := by decide +kernel
theorem dX7_smooth_69 : decode cX7_smooth 69 = .ok (.iload 5, 2) := by decide +kernel
theorem dX7_smooth_71 : decode cX7_smooth 71 = .ok (.iload 5, 2) := by decide +kernel
theorem dX7_smooth_73 : decode cX7_smooth 73 = .ok (.imul, 1) := by decide +kernel
theorem dX7_smooth_74 : decode cX7_smooth 74 = .ok (.iadd, 1) := by decide +kernel
theorem dX7_smooth_75 : decode cX7_smooth 75 = .ok (.aload_n 0, 1) := by decide +kernel
theorem dX7_smooth_76 : decode cX7_smooth 76 = .ok (.getfield 177, 3) := by decide +kernel
theorem dX7_smooth_79 : decode cX7_smooth 79 = .ok (.aload_n 0, 1) := by decide +kernel
theorem dX7_smooth_80 : decode cX7_smooth 80 = .ok (.getfield 177, 3) := by decide +kernel
theorem dX7_smooth_83 : decode cX7_smooth 83 = .ok (.imul, 1) := by decide +kernel
theorem dX7_smooth_84 : decode cX7_smooth 84 = .ok (.isub, 1) := by decide +kernel
theorem dX7_smooth_85 : decode cX7_smooth 85 = .ok (.invokestatic 93, 3) := by decide +kernel
theorem dX7_smooth_88 : decode cX7_smooth 88 = .ok (.istore 6, 2) := by decide +kernel
theorem dX7_smooth_90 : decode cX7_smooth 90 = .ok (.iload 4, 2) := by decide +kernel
theorem dX7_smooth_92 : decode cX7_smooth 92 = .ok (.iload_n 1, 1) := by decide +kernel
theorem dX7_smooth_93 : decode cX7_smooth 93 = .ok (.imul, 1) := by decide +kernel
theorem dX7_smooth_94 : decode cX7_smooth 94 = .ok (.iload 5, 2) := by decide +kernel
theorem dX7_smooth_96 : decode cX7_smooth 96 = .ok (.aload_n 0, 1) := by decide +kernel
theorem dX7_smooth_97 : decode cX7_smooth 97 = .ok (.getfield 174, 3) := by decide +kernel
theorem dX7_smooth_100 : decode cX7_smooth 100 = .ok (.iload_n 1, 1) := by decide +kernel
theorem dX7_smooth_101 : decode cX7_smooth 101 = .ok (.isub, 1) := by decide +kernel
theorem dX7_smooth_102 : decode cX7_smooth 102 = .ok (.imul, 1) := by decide +kernel
theorem dX7_smooth_103 : decode cX7_smooth 103 = .ok (.isub, 1) := by decide +kernel
theorem dX7_smooth_104 : decode cX7_smooth 104 = .ok (.invokestatic 93, 3) := by decide +kernel
theorem dX7_smooth_107 : decode cX7_smooth 107 = .ok (.istore 7, 2) := by decide +kernel
theorem dX7_smooth_109 : decode cX7_smooth 109 = .ok (.iload 6, 2) := by decide +kernel
theorem dX7_smooth_111 : decode cX7_smooth 111 = .ok (.iload_n 2, 1) := by decide +kernel
theorem dX7_smooth_112 : decode cX7_smooth 112 = .ok (.if_icmp .gt 45, 3) := by decide +kernel
theorem dX7_smooth_115 : decode cX7_smooth 115 = .ok (.iload 6, 2) := by decide +kernel
theorem dX7_smooth_117 : decode cX7_smooth 117 = .ok (.iload_n 2, 1) := by decide +kernel
theorem dX7_smooth_118 : decode cX7_smooth 118 = .ok (.if_icmp .ne 12, 3) := by decide +kernel
theorem dX7_smooth_121 : decode cX7_smooth 121 = .ok (.iload 7, 2) := by decide +kernel
theorem dX7_smooth_123 : decode cX7_smooth 123 = .ok (.iload_n 3, 1) := by decide +kernel
theorem dX7_smooth_124 : decode cX7_smooth 124 = .ok (.if_icmp .lt 6, 3) := by decide +kernel
theorem dX7_smooth_127 : decode cX7_smooth 127 = .ok (.goto 30, 3) := by decide +kernel
theorem dX7_smooth_130 : decode cX7_smooth 130 = .ok (.iload 6, 2) := by decide +kernel
theorem dX7_smooth_132 : decode cX7_smooth 132 = .ok (.istore_n 2, 1) := by decide +kernel
theorem dX7_smooth_133 : decode cX7_smooth 133 = .ok (.iload 7, 2) := by decide +kernel
theorem dX7_smooth_135 : decode cX7_smooth 135 = .ok (.istore_n 3, 1) := by decide +kernel
theorem dX7_smooth_136 : decode cX7_smooth 136 = .ok (.aload_n 0, 1) := by decide +kernel
theorem dX7_smooth_137 : decode cX7_smooth 137 = .ok (.getfield 66, 3) := by decide +kernel
theorem dX7_smooth_140 : decode cX7_smooth 140 = .ok (.iload_n 1, 1) := by decide +kernel
theorem dX7_smooth_141 : decode cX7_smooth 141 = .ok (.iload 4, 2) := by decide +kernel
theorem dX7_smooth_143 : decode cX7_smooth 143 = .ok (.iastore, 1) := by decide +kernel
theorem dX7_smooth_144 : decode cX7_smooth 144 = .ok (.aload_n 0, 1) := by decide +kernel
theorem dX7_smooth_145 : decode cX7_smooth 145 = .ok (.getfield 66, 3) := by decide +kernel
theorem dX7_smooth_148 : decode cX7_smooth 148 = .ok (.aload_n 0, 1) := by decide +kernel
theorem dX7_smooth_149 : decode cX7_smooth 149 = .ok (.getfield 174, 3) := by decide +kernel
theorem dX7_smooth_152 : decode cX7_smooth 152 = .ok (.iload_n 1, 1) := by decide +kernel
theorem dX7_smooth_153 : decode cX7_smooth 153 = .ok (.isub, 1) := by decide +kernel
theorem dX7_smooth_154 : decode cX7_smooth 154 = .ok (.iload 5, 2) := by decide +kernel
theorem dX7_smooth_156 : decode cX7_smooth 156 = .ok (.iastore, 1) := by decide +kernel
theorem dX7_smooth_157 : decode cX7_smooth 157 = .ok (.iinc 5 1, 3) := by decide +kernel
theorem dX7_smooth_160 : decode cX7_smooth 160 = .ok (.goto (-123), 3) := by decide +kernel
theorem dX7_smooth_163 : decode cX7_smooth 163 = .ok (.iinc 4 (-1), 3) := by decide +kernel
theorem dX7_smooth_166 : decode cX7_smooth 166 = .ok (.goto (-137), 3) := by decide +kernel
theorem dX7_smooth_169 : decode cX7_smooth 169 = .ok (.iinc 1 1, 3) := by decide +kernel
theorem dX7_smooth_172 : decode cX7_smooth 172 = .ok (.goto (-165), 3) := by decide +kernel
theorem dX7_smooth_175 : decode cX7_smooth 175 = .ok (.aload_n 0, 1) := by decide +kernel
theorem dX7_smooth_176 : decode cX7_smooth 176 = .ok (.invokevirtual 183, 3) := by decide +kernel
theorem dX7_smooth_179 : decode cX7_smooth 179 = .ok (.ireturn, 1) := by decide +kernel
