theorem dX12_judge_69 : decode cX12_judge 69 = .ok (.iload_n 2, 1) := by decide +kernel
theorem dX12_judge_70 : decode cX12_judge 70 = .ok (.iaload, 1) := by decide +kernel
theorem dX12_judge_71 : decode cX12_judge 71 = .ok (.iconst 1, 1) := by decide +kernel
theorem dX12_judge_72 : decode cX12_judge 72 = .ok (.if_icmp .ne 9, 3) := by decide +kernel
theorem dX12_judge_75 : decode cX12_judge 75 = .ok (.sipush (-32768), 3) := by decide +kernel
theorem dX12_judge_78 : decode cX12_judge 78 = .ok (.goto 5, 3) := by decide +kernel
theorem dX12_judge_81 : decode cX12_judge 81 = .ok (.ldc 190, 2) := by decide +kernel
theorem dX12_judge_83 : decode cX12_judge 83 = .ok (.istore_n 3, 1) := by decide +kernel
theorem dX12_judge_84 : decode cX12_judge 84 = .ok (.iconst 0, 1) := by decide +kernel
theorem dX12_judge_85 : decode cX12_judge 85 = .ok (.istore 4, 2) := by decide +kernel
theorem dX12_judge_87 : decode cX12_judge 87 = .ok (.iload 4, 2) := by decide +kernel
theorem dX12_judge_89 : decode cX12_judge 89 = .ok (.aload_n 0, 1) := by decide +kernel
theorem dX12_judge_90 : decode cX12_judge 90 = .ok (.getfield 82, 3) := by decide +kernel
theorem dX12_judge_93 : decode cX12_judge 93 = .ok (.iload_n 2, 1) := by decide +kernel
theorem dX12_judge_94 : decode cX12_judge 94 = .ok (.iaload, 1) := by decide +kernel
theorem dX12_judge_95 : decode cX12_judge 95 = .ok (.if_icmp .ge 58, 3) := by decide +kernel
theorem dX12_judge_98 : decode cX12_judge 98 = .ok (.iload 4, 2) := by decide +kernel
theorem dX12_judge_100 : decode cX12_judge 100 = .ok (.aload_n 0, 1) := by decide +kernel
theorem dX12_judge_101 : decode cX12_judge 101 = .ok (.getfield 146, 3) := by decide +kernel
theorem dX12_judge_104 : decode cX12_judge 104 = .ok (.if_icmp .ne 8, 3) := by decide +kernel
theorem dX12_judge_107 : decode cX12_judge 107 = .ok (.aload_n 0, 1) := by decide +kernel
theorem dX12_judge_108 : decode cX12_judge 108 = .ok (.getfield 146, 3) := by decide +kernel
theorem dX12_judge_111 : decode cX12_judge 111 = .ok (.ireturn, 1) := by decide +kernel
theorem dX12_judge_112 : decode cX12_judge 112 = .ok (.aload_n 0, 1) := by decide +kernel
theorem dX12_judge_113 : decode cX12_judge 113 = .ok (.getfield 85, 3) := by decide +kernel
theorem dX12_judge_116 : decode cX12_judge 116 = .ok (.bipush 100, 2) := by decide +kernel
theorem dX12_judge_118 : decode cX12_judge 118 = .ok (.iload_n 2, 1) := by decide +kernel
theorem dX12_judge_119 : decode cX12_judge 119 = .ok (.imul, 1) := by decide +kernel
theorem dX12_judge_120 : decode cX12_judge 120 = .ok (.iload 4, 2) := by decide +kernel
theorem dX12_judge_122 : decode cX12_judge 122 = .ok (.iadd, 1) := by decide +kernel
theorem dX12_judge_123 : decode cX12_judge 123 = .ok (.iaload, 1) := by decide +kernel
theorem dX12_judge_124 : decode cX12_judge 124 = .ok (.istore 5, 2) := by decide +kernel
theorem dX12_judge_126 : decode cX12_judge 126 = .ok (.iload 5, 2) := by decide +kernel
theorem dX12_judge_128 : decode cX12_judge 128 = .ok (.iload_n 3, 1) := by decide +kernel
theorem dX12_judge_129 : decode cX12_judge 129 = .ok (.if_icmp .eq 18, 3) := by decide +kernel
theorem dX12_judge_132 : decode cX12_judge 132 = .ok (.iload 5, 2) := by decide +kernel
theorem dX12_judge_134 : decode cX12_judge 134 = .ok (.aload_n 0, 1) := by decide +kernel
theorem dX12_judge_135 : decode cX12_judge 135 = .ok (.getfield 64, 3) := by decide +kernel
theorem dX12_judge_138 : decode cX12_judge 138 = .ok (.iload 4, 2) := by decide +kernel
theorem dX12_judge_140 : decode cX12_judge 140 = .ok (.iaload, 1) := by decide +kernel
theorem dX12_judge_141 : decode cX12_judge 141 = .ok (.if_icmp .eq 6, 3) := by decide +kernel
theorem dX12_judge_144 : decode cX12_judge 144 = .ok (.iload 4, 2) := by decide +kernel
theorem dX12_judge_146 : decode cX12_judge 146 = .ok (.ireturn, 1) := by decide +kernel
theorem dX12_judge_147 : decode cX12_judge 147 = .ok (.iinc 4 1, 3) := by decide +kernel
theorem dX12_judge_150 : decode cX12_judge 150 = .ok (.goto (-63), 3) := by decide +kernel
theorem dX12_judge_153 : decode cX12_judge 153 = .ok (.aload_n 0, 1) := by decide +kernel
theorem dX12_judge_154 : decode cX12_judge 154 = .ok (.getfield 82, 3) := by decide +kernel
theorem dX12_judge_157 : decode cX12_judge 157 = .ok (.iload_n 2, 1) := by decide +kernel
theorem dX12_judge_158 : decode cX12_judge 158 = .ok (.iaload, 1) := by decide +kernel
theorem dX12_judge_159 : decode cX12_judge 159 = .ok (.aload_n 0, 1) := by decide +kernel
theorem dX12_judge_160 : decode cX12_judge 160 = .ok (.getfield 146, 3) := by decide +kernel
theorem dX12_judge_163 : decode cX12_judge 163 = .ok (.if_icmp .ge 12, 3) := by decide +kernel
theorem dX12_judge_166 : decode cX12_judge 166 = .ok (.aload_n 0, 1) := by decide +kernel
theorem dX12_judge_167 : decode cX12_judge 167 = .ok (.getfield 82, 3) := by decide +kernel
theorem dX12_judge_170 : decode cX12_judge 170 = .ok (.iload_n 2, 1) := by decide +kernel
theorem dX12_judge_171 : decode cX12_judge 171 = .ok (.iaload, 1) := by decide +kernel
theorem dX12_judge_172 : decode cX12_judge 172 = .ok (.goto 5, 3) := by decide +kernel
theorem dX12_judge_175 : decode cX12_judge 175 = .ok (.bipush (-4), 2) := by decide +kernel
theorem dX12_judge_177 : decode cX12_judge 177 = .ok (.ireturn, 1) := by decide +kernel
theorem dX12_count_0 : decode cX12_count 0 = .ok (.iload_n 1, 1) := by decide +kernel
theorem dX12_count_1 : decode cX12_count 1 = .ok (.tableswitch 94 0 4 #[35, 42, 49, 56, 87], 35) := by decide +kernel
theorem dX12_count_36 : decode cX12_count 36 = .ok (.aload_n 0, 1) := by decide +kernel
theorem dX12_count_37 : decode cX12_count 37 = .ok (.getfield 7, 3) := by decide +kernel
theorem dX12_count_40 : decode cX12_count 40 = .ok (.iconst 0, 1) := by decide +kernel
theorem dX12_count_41 : decode cX12_count 41 = .ok (.iaload, 1) := by decide +kernel
theorem dX12_count_42 : decode cX12_count 42 = .ok (.ireturn, 1) := by decide +kernel
theorem dX12_count_43 : decode cX12_count 43 = .ok (.aload_n 0, 1) := by decide +kernel
theorem dX12_count_44 : decode cX12_count 44 = .ok (.getfield 7, 3) := by decide +kernel
theorem dX12_count_47 : decode cX12_count 47 = .ok (.iconst 1, 1) := by decide +kernel
theorem dX12_count_48 : decode cX12_count 48 = .ok (.iaload, 1) := by decide +kernel
theorem dX12_count_49 : decode cX12_count 49 = .ok (.ireturn, 1) := by decide +kernel
theorem dX12_count_50 : decode cX12_count 50 = .ok (.aload_n 0, 1) := by decide +kernel
theorem dX12_count_51 : decode cX12_count 51 = .ok (.getfield 7, 3) := by decide +kernel
theorem dX12_count_54 : decode cX12_count 54 = .ok (.iconst 2, 1) := by decide +kernel
theorem dX12_count_55 : decode cX12_count 55 = .ok (.iaload, 1) := by decide +kernel
theorem dX12_count_56 : decode cX12_count 56 = .ok (.ireturn, 1) := by decide +kernel
theorem dX12_count_57 : decode cX12_count 57 = .ok (.iconst 0, 1) := by decide +kernel
theorem dX12_count_58 : decode cX12_count 58 = .ok (.istore_n 2, 1) := by decide +kernel
theorem dX12_count_59 : decode cX12_count 59 = .ok (.iconst 0, 1) := by decide +kernel
theorem dX12_count_60 : decode cX12_count 60 = .ok (.istore_n 3, 1) := by decide +kernel
theorem dX12_count_61 : decode cX12_count 61 = .ok (.iload_n 3, 1) := by decide +kernel
theorem dX12_count_62 : decode cX12_count 62 = .ok (.aload_n 0, 1) := by decide +kernel
theorem dX12_count_63 : decode cX12_count 63 = .ok (.getfield 7, 3) := by decide +kernel
theorem dX12_count_66 : decode cX12_count 66 = .ok (.iconst 0, 1) := by decide +kernel
theorem dX12_count_67 : decode cX12_count 67 = .ok (.iaload, 1) := by decide +kernel
theorem dX12_count_68 : decode cX12_count 68 = .ok (.if_icmp .ge 18, 3) := by decide +kernel
theorem dX12_count_71 : decode cX12_count 71 = .ok (.iload_n 2, 1) := by decide +kernel
theorem dX12_count_72 : decode cX12_count 72 = .ok (.aload_n 0, 1) := by decide +kernel
theorem dX12_count_73 : decode cX12_count 73 = .ok (.getfield 16, 3) := by decide +kernel
theorem dX12_count_76 : decode cX12_count 76 = .ok (.iload_n 3, 1) := by decide +kernel
theorem dX12_count_77 : decode cX12_count 77 = .ok (.iaload, 1) := by decide +kernel
theorem dX12_count_78 : decode cX12_count 78 = .ok (.iadd, 1) := by decide +kernel
theorem dX12_count_79 : decode cX12_count 79 = .ok (.istore_n 2, 1) := by decide +kernel
theorem dX12_count_80 : decode cX12_count 80 = .ok (.iinc 3 1, 3) := by decide +kernel
theorem dX12_count_83 : decode cX12_count 83 = .ok (.goto (-22), 3) := by decide +kernel
theorem dX12_count_86 : decode cX12_count 86 = .ok (.iload_n 2, 1) := by decide +kernel
theorem dX12_count_87 : decode cX12_count 87 = .ok (.ireturn, 1) := by decide +kernel
theorem dX12_count_88 : decode cX12_count 88 = .ok (.aload_n 0, 1) := by decide +kernel
theorem dX12_count_89 : decode cX12_count 89 = .ok (.getfield 7, 3) := by decide +kernel
theorem dX12_count_92 : decode cX12_count 92 = .ok (.iconst 3, 1) := by decide +kernel
theorem dX12_count_93 : decode cX12_count 93 = .ok (.iaload, 1) := by decide +kernel
theorem dX12_count_94 : decode cX12_count 94 = .ok (.ireturn, 1) := by decide +kernel
theorem dX12_count_95 : decode cX12_count 95 = .ok (.iconst (-1), 1) := by decide +kernel
theorem dX12_count_96 : decode cX12_count 96 = .ok (.ireturn, 1) := by decide +kernel
theorem dX12_comes__0 : decode cX12_comes_ 0 = .ok (.aload_n 0, 1) := by decide +kernel
theorem dX12_comes__1 : decode cX12_comes_ 1 = .ok (.getfield 191, 3) := by decide +kernel
theorem dX12_comes__4 : decode cX12_comes_ 4 = .ok (.aload_n 0, 1) := by decide +kernel
theorem dX12_comes__5 : decode cX12_comes_ 5 = .ok (.getfield 194, 3) := by decide +kernel
theorem dX12_comes__8 : decode cX12_comes_ 8 = .ok (.if_icmp .ge 25, 3) := by decide +kernel
theorem dX12_comes__11 : decode cX12_comes_ 11 = .ok (.aload_n 0, 1) := by decide +kernel
theorem dX12_comes__12 : decode cX12_comes_ 12 = .ok (.getfield 85, 3) := by decide +kernel
theorem dX12_comes__15 : decode cX12_comes_ 15 = .ok (.aload_n 0, 1) := by decide +kernel
theorem dX12_comes__16 : decode cX12_comes_ 16 = .ok (.getfield 197, 3) := by decide +kernel
theorem dX12_comes__19 : decode cX12_comes_ 19 = .ok (.aload_n 0, 1) := by decide +kernel
theorem dX12_comes__20 : decode cX12_comes_ 20 = .ok (.getfield 191, 3) := by decide +kernel
theorem dX12_comes__23 : decode cX12_comes_ 23 = .ok (.iadd, 1) := by decide +kernel
theorem dX12_comes__24 : decode cX12_comes_ 24 = .ok (.iaload, 1) := by decide +kernel
theorem dX12_comes__25 : decode cX12_comes_ 25 = .ok (.iload_n 1, 1) := by decide +kernel
theorem dX12_comes__26 : decode cX12_comes_ 26 = .ok (.if_icmp .ne 7, 3) := by decide +kernel
theorem dX12_comes__29 : decode cX12_comes_ 29 = .ok (.iconst 1, 1) := by decide +kernel
theorem dX12_comes__30 : decode cX12_comes_ 30 = .ok (.goto 4, 3) := by decide +kernel
theorem dX12_comes__33 : decode cX12_comes_ 33 = .ok (.iconst 0, 1) := by decide +kernel
theorem dX12_comes__34 : decode cX12_comes_ 34 = .ok (.ireturn, 1) := by decide +kernel
theorem dX12_expect_0 : decode cX12_expect 0 = .ok (.aload_n 0, 1) := by decide +kernel
theorem dX12_expect_1 : decode cX12_expect 1 = .ok (.getfield 200, 3) := by decide +kernel
theorem dX12_expect_4 : decode cX12_expect 4 = .ok (.ifCond .eq 24, 3) := by decide +kernel
theorem dX12_expect_7 : decode cX12_expect 7 = .ok (.aload_n 0, 1) := by decide +kernel
theorem dX12_expect_8 : decode cX12_expect 8 = .ok (.iload_n 1, 1) := by decide +kernel
theorem dX12_expect_9 : decode cX12_expect 9 = .ok (.invokevirtual 203, 3) := by decide +kernel
theorem dX12_expect_12 : decode cX12_expect 12 = .ok (.ifCond .eq 16, 3) := by decide +kernel
theorem dX12_expect_15 : decode cX12_expect 15 = .ok (.aload_n 0, 1) := by decide +kernel
theorem dX12_expect_16 : decode cX12_expect 16 = .ok (.dup, 1) := by decide +kernel
theorem dX12_expect_17 : decode cX12_expect 17 = .ok (.getfield 191, 3) := by decide +kernel
theorem dX12_expect_20 : decode cX12_expect 20 = .ok (.iconst 1, 1) := by decide +kernel
theorem dX12_expect_21 : decode cX12_expect 21 = .ok (.iadd, 1) := by decide +kernel
theorem dX12_expect_22 : decode cX12_expect 22 = .ok (.putfield 191, 3) := by decide +kernel
theorem dX12_expect_25 : decode cX12_expect 25 = .ok (.goto 8, 3) := by decide +kernel
theorem dX12_expect_28 : decode cX12_expect 28 = .ok (.aload_n 0, 1) := by decide +kernel
theorem dX12_expect_29 : decode cX12_expect 29 = .ok (.iconst 0, 1) := by decide +kernel
theorem dX12_expect_30 : decode cX12_expect 30 = .ok (.putfield 200, 3) := by decide +kernel
theorem dX12_expect_33 : decode cX12_expect 33 = .ok (.return_, 1) := by decide +kernel
theorem dX12_isDigit_0 : decode cX12_isDigit 0 = .ok (.aload_n 0, 1) := by decide +kernel
theorem dX12_isDigit_1 : decode cX12_isDigit 1 = .ok (.getfield 191, 3) := by decide +kernel
theorem dX12_isDigit_4 : decode cX12_isDigit 4 = .ok (.aload_n 0, 1) := by decide +kernel
theorem dX12_isDigit_5 : decode cX12_isDigit 5 = .ok (.getfield 194, 3) := by decide +kernel
theorem dX12_isDigit_8 : decode cX12_isDigit 8 = .ok (.if_icmp .ge 45, 3) := by decide +kernel
theorem dX12_isDigit_11 : decode cX12_isDigit 11 = .ok (.aload_n 0, 1) := by decide +kernel
theorem dX12_isDigit_12 : decode cX12_isDigit 12 = .ok (.getfield 85, 3) := by decide +kernel
theorem dX12_isDigit_15 : decode cX12_isDigit 15 = .ok (.aload_n 0, 1) := by decide +kernel
theorem dX12_isDigit_16 : decode cX12_isDigit 16 = .ok (.getfield 197, 3) := by decide +kernel
theorem dX12_isDigit_19 : decode cX12_isDigit 19 = .ok (.aload_n 0, 1) := by decide +kernel
theorem dX12_isDigit_20 : decode cX12_isDigit 20 = .ok (.getfield 191, 3) := by decide +kernel
theorem dX12_isDigit_23 : decode cX12_isDigit 23 = .ok (.iadd, 1) := by decide +kernel
theorem dX12_isDigit_24 : decode cX12_isDigit 24 = .ok (.iaload, 1) := by decide +kernel
theorem dX12_isDigit_25 : decode cX12_isDigit 25 = .ok (.bipush 48, 2) := by decide +kernel
theorem dX12_isDigit_27 : decode cX12_isDigit 27 = .ok (.if_icmp .lt 26, 3) := by decide +kernel
theorem dX12_isDigit_30 : decode cX12_isDigit 30 = .ok (.aload_n 0, 1) := by decide +kernel
theorem dX12_isDigit_31 : decode cX12_isDigit 31 = .ok (.getfield 85, 3) := by decide +kernel
theorem dX12_isDigit_34 : decode cX12_isDigit 34 = .ok (.aload_n 0, 1) := by decide +kernel
theorem dX12_isDigit_35 : decode cX12_isDigit 35 = .ok (.getfield 197, 3) := by decide +kernel
theorem dX12_isDigit_38 : decode cX12_isDigit 38 = .ok (.aload_n 0, 1) := by decide +kernel
theorem dX12_isDigit_39 : decode cX12_isDigit 39 = .ok (.getfield 191, 3) := by decide +kernel
theorem dX12_isDigit_42 : decode cX12_isDigit 42 = .ok (.iadd, 1) := by decide +kernel
theorem dX12_isDigit_43 : decode cX12_isDigit 43 = .ok (.iaload, 1) := by decide +kernel
theorem dX12_isDigit_44 : decode cX12_isDigit 44 = .ok (.bipush 57, 2) := by decide +kernel
theorem dX12_isDigit_46 : decode cX12_isDigit 46 = .ok (.if_icmp .gt 7, 3) := by decide +kernel
theorem dX12_isDigit_49 : decode cX12_isDigit 49 = .ok (.iconst 1, 1) := by decide +kernel
theorem dX12_isDigit_50 : decode cX12_isDigit 50 = .ok (.goto 4, 3) := by decide +kernel
theorem dX12_isDigit_53 : decode cX12_isDigit 53 = .ok (.iconst 0, 1) := by decide +kernel
theorem dX12_isDigit_54 : decode cX12_isDigit 54 = .ok (.ireturn, 1) := by decide +kernel
theorem dX12_figures_0 : decode cX12_figures 0 = .ok (.aload_n 0, 1) := by decide +kernel
theorem dX12_figures_1 : decode cX12_figures 1 = .ok (.getfield 200, 3) := by decide +kernel
theorem dX12_figures_4 : decode cX12_figures 4 = .ok (.ifCond .eq 10, 3) := by decide +kernel
theorem dX12_figures_7 : decode cX12_figures 7 = .ok (.aload_n 0, 1) := by decide +kernel
theorem dX12_figures_8 : decode cX12_figures 8 = .ok (.invokevirtual 206, 3) := by decide +kernel
theorem dX12_figures_11 : decode cX12_figures 11 = .ok (.ifCond .ne 10, 3) := by decide +kernel
theorem dX12_figures_14 : decode cX12_figures 14 = .ok (.aload_n 0, 1) := by decide +kernel
theorem dX12_figures_15 : decode cX12_figures 15 = .ok (.iconst 0, 1) := by decide +kernel
theorem dX12_figures_16 : decode cX12_figures 16 = .ok (.putfield 200, 3) := by decide +kernel
theorem dX12_figures_19 : decode cX12_figures 19 = .ok (.iconst 0, 1) := by decide +kernel
theorem dX12_figures_20 : decode cX12_figures 20 = .ok (.ireturn, 1) := by decide +kernel
theorem dX12_figures_21 : decode cX12_figures 21 = .ok (.aload_n 0, 1) := by decide +kernel
theorem dX12_figures_22 : decode cX12_figures 22 = .ok (.getfield 85, 3) := by decide +kernel
theorem dX12_figures_25 : decode cX12_figures 25 = .ok (.aload_n 0, 1) := by decide +kernel
theorem dX12_figures_26 : decode cX12_figures 26 = .ok (.getfield 197, 3) := by decide +kernel
theorem dX12_figures_29 : decode cX12_figures 29 = .ok (.aload_n 0, 1) := by decide +kernel
theorem dX12_figures_30 : decode cX12_figures 30 = .ok (.getfield 191, 3) := by decide +kernel
theorem dX12_figures_33 : decode cX12_figures 33 = .ok (.iadd, 1) := by decide +kernel
theorem dX12_figures_34 : decode cX12_figures 34 = .ok (.iaload, 1) := by decide +kernel
theorem dX12_figures_35 : decode cX12_figures 35 = .ok (.bipush 48, 2) := by decide +kernel
theorem dX12_figures_37 : decode cX12_figures 37 = .ok (.isub, 1) := by decide +kernel
theorem dX12_figures_38 : decode cX12_figures 38 = .ok (.istore_n 2, 1) := by decide +kernel
theorem dX12_figures_39 : decode cX12_figures 39 = .ok (.aload_n 0, 1) := by decide +kernel
theorem dX12_figures_40 : decode cX12_figures 40 = .ok (.dup, 1) := by decide +kernel
theorem dX12_figures_41 : decode cX12_figures 41 = .ok (.getfield 191, 3) := by decide +kernel
theorem dX12_figures_44 : decode cX12_figures 44 = .ok (.iconst 1, 1) := by decide +kernel
theorem dX12_figures_45 : decode cX12_figures 45 = .ok (.iadd, 1) := by decide +kernel
theorem dX12_figures_46 : decode cX12_figures 46 = .ok (.putfield 191, 3) := by decide +kernel
theorem dX12_figures_49 : decode cX12_figures 49 = .ok (.iconst 1, 1) := by decide +kernel
theorem dX12_figures_50 : decode cX12_figures 50 = .ok (.istore_n 3, 1) := by decide +kernel
theorem dX12_figures_51 : decode cX12_figures 51 = .ok (.iload_n 3, 1) := by decide +kernel
theorem dX12_figures_52 : decode cX12_figures 52 = .ok (.iload_n 1, 1) := by decide +kernel
theorem dX12_figures_53 : decode cX12_figures 53 = .ok (.if_icmp .ge 53, 3) := by decide +kernel
theorem dX12_figures_56 : decode cX12_figures 56 = .ok (.iload_n 2, 1) := by decide +kernel
theorem dX12_figures_57 : decode cX12_figures 57 = .ok (.ifCond .le 49, 3) := by decide +kernel
theorem dX12_figures_60 : decode cX12_figures 60 = .ok (.aload_n 0, 1) := by decide +kernel
theorem dX12_figures_61 : decode cX12_figures 61 = .ok (.invokevirtual 206, 3) := by decide +kernel
theorem dX12_figures_64 : decode cX12_figures 64 = .ok (.ifCond .eq 42, 3) := by decide +kernel
theorem dX12_figures_67 : decode cX12_figures 67 = .ok (.bipush 10, 2) := by decide +kernel
theorem dX12_figures_69 : decode cX12_figures 69 = .ok (.iload_n 2, 1) := by decide +kernel
theorem dX12_figures_70 : decode cX12_figures 70 = .ok (.imul, 1) := by decide +kernel
theorem dX12_figures_71 : decode cX12_figures 71 = .ok (.aload_n 0, 1) := by decide +kernel
theorem dX12_figures_72 : decode cX12_figures 72 = .ok (.getfield 85, 3) := by decide +kernel
theorem dX12_figures_75 : decode cX12_figures 75 = .ok (.aload_n 0, 1) := by decide +kernel
theorem dX12_figures_76 : decode cX12_figures 76 = .ok (.getfield 197, 3) := by decide +kernel
theorem dX12_figures_79 : decode cX12_figures 79 = .ok (.aload_n 0, 1) := by decide +kernel
theorem dX12_figures_80 : decode cX12_figures 80 = .ok (.getfield 191, 3) := by decide +kernel
theorem dX12_figures_83 : decode cX12_figures 83 = .ok (.iadd, 1) := by decide +kernel
theorem dX12_figures_84 : decode cX12_figures 84 = .ok (.iaload, 1) := by decide +kernel
theorem dX12_figures_85 : decode cX12_figures 85 = .ok (.iadd, 1) := by decide +kernel
theorem dX12_figures_86 : decode cX12_figures 86 = .ok (.bipush 48, 2) := by decide +kernel
theorem dX12_figures_88 : decode cX12_figures 88 = .ok (.isub, 1) := by decide +kernel
theorem dX12_figures_89 : decode cX12_figures 89 = .ok (.istore_n 2, 1) := by decide +kernel
theorem dX12_figures_90 : decode cX12_figures 90 = .ok (.aload_n 0, 1) := by decide +kernel
theorem dX12_figures_91 : decode cX12_figures 91 = .ok (.dup, 1) := by decide +kernel
theorem dX12_figures_92 : decode cX12_figures 92 = .ok (.getfield 191, 3) := by decide +kernel
theorem dX12_figures_95 : decode cX12_figures 95 = .ok (.iconst 1, 1) := by decide +kernel
theorem dX12_figures_96 : decode cX12_figures 96 = .ok (.iadd, 1) := by decide +kernel
theorem dX12_figures_97 : decode cX12_figures 97 = .ok (.putfield 191, 3) := by decide +kernel
theorem dX12_figures_100 : decode cX12_figures 100 = .ok (.iinc 3 1, 3) := by decide +kernel
theorem dX12_figures_103 : decode cX12_figures 103 = .ok (.goto (-52), 3) := by decide +kernel
theorem dX12_figures_106 : decode cX12_figures 106 = .ok (.iload_n 2, 1) := by decide +kernel
theorem dX12_figures_107 : decode cX12_figures 107 = .ok (.ireturn, 1) := by decide +kernel
theorem dX12_statement_0 : decode cX12_statement 0 = .ok (.aload_n 0, 1) := by decide +kernel
theorem dX12_statement_1 : decode cX12_statement 1 = .ok (.getfield 191, 3) := by decide +kernel
theorem dX12_statement_4 : decode cX12_statement 4 = .ok (.aload_n 0, 1) := by decide +kernel
theorem dX12_statement_5 : decode cX12_statement 5 = .ok (.getfield 194, 3) := by decide +kernel
theorem dX12_statement_8 : decode cX12_statement 8 = .ok (.if_icmp .ge 20, 3) := by decide +kernel
theorem dX12_statement_11 : decode cX12_statement 11 = .ok (.aload_n 0, 1) := by decide +kernel
theorem dX12_statement_12 : decode cX12_statement 12 = .ok (.getfield 85, 3) := by decide +kernel
theorem dX12_statement_15 : decode cX12_statement 15 = .ok (.aload_n 0, 1) := by decide +kernel
theorem dX12_statement_16 : decode cX12_statement 16 = .ok (.getfield 197, 3) := by decide +kernel
theorem dX12_statement_19 : decode cX12_statement 19 = .ok (.aload_n 0, 1) := by decide +kernel
theorem dX12_statement_20 : decode cX12_statement 20 = .ok (.getfield 191, 3) := by decide +kernel
theorem dX12_statement_23 : decode cX12_statement 23 = .ok (.iadd, 1) := by decide +kernel
theorem dX12_statement_24 : decode cX12_statement 24 = .ok (.iaload, 1) := by decide +kernel
theorem dX12_statement_25 : decode cX12_statement 25 = .ok (.goto 4, 3) := by decide +kernel
theorem dX12_statement_28 : decode cX12_statement 28 = .ok (.iconst 0, 1) := by decide +kernel
theorem dX12_statement_29 : decode cX12_statement 29 = .ok (.istore_n 1, 1) := by decide +kernel
theorem dX12_statement_30 : decode cX12_statement 30 = .ok (.aload_n 0, 1) := by decide +kernel
theorem dX12_statement_31 : decode cX12_statement 31 = .ok (.dup, 1) := by decide +kernel
theorem dX12_statement_32 : decode cX12_statement 32 = .ok (.getfield 191, 3) := by decide +kernel
theorem dX12_statement_35 : decode cX12_statement 35 = .ok (.iconst 1, 1) := by decide +kernel
theorem dX12_statement_36 : decode cX12_statement 36 = .ok (.iadd, 1) := by decide +kernel
theorem dX12_statement_37 : decode cX12_statement 37 = .ok (.putfield 191, 3) := by decide +kernel
theorem dX12_statement_40 : decode cX12_statement 40 = .ok (.iload_n 1, 1) := by decide +kernel
theorem dX12_statement_41 : decode cX12_statement 41 = .ok (.bipush 119, 2) := by decide +kernel
theorem dX12_statement_43 : decode cX12_statement 43 = .ok (.if_icmp .ne 51, 3) := by decide +kernel
theorem dX12_statement_46 : decode cX12_statement 46 = .ok (.aload_n 0, 1) := by decide +kernel
theorem dX12_statement_47 : decode cX12_statement 47 = .ok (.getfield 73, 3) := by decide +kernel
theorem dX12_statement_50 : decode cX12_statement 50 = .ok (.iconst 0, 1) := by decide +kernel
theorem dX12_statement_51 : decode cX12_statement 51 = .ok (.aload_n 0, 1) := by decide +kernel
theorem dX12_statement_52 : decode cX12_statement 52 = .ok (.iconst 3, 1) := by decide +kernel
theorem dX12_statement_53 : decode cX12_statement 53 = .ok (.invokevirtual 210, 3) := by decide +kernel
theorem dX12_statement_56 : decode cX12_statement 56 = .ok (.iastore, 1) := by decide +kernel
theorem dX12_statement_57 : decode cX12_statement 57 = .ok (.aload_n 0, 1) := by decide +kernel
theorem dX12_statement_58 : decode cX12_statement 58 = .ok (.bipush 32, 2) := by decide +kernel
theorem dX12_statement_60 : decode cX12_statement 60 = .ok (.invokevirtual 213, 3) := by decide +kernel
theorem dX12_statement_63 : decode cX12_statement 63 = .ok (.aload_n 0, 1) := by decide +kernel
theorem dX12_statement_64 : decode cX12_statement 64 = .ok (.getfield 73, 3) := by decide +kernel
theorem dX12_statement_67 : decode cX12_statement 67 = .ok (.iconst 1, 1) := by decide +kernel
theorem dX12_statement_68 : decode cX12_statement 68 = .ok (.aload_n 0, 1) := by decide +kernel
theorem dX12_statement_69 : decode cX12_statement 69 = .ok (.iconst 2, 1) := by decide +kernel
theorem dX12_statement_70 : decode cX12_statement 70 = .ok (.invokevirtual 210, 3) := by decide +kernel
theorem dX12_statement_73 : decode cX12_statement 73 = .ok (.iastore, 1) := by decide +kernel
theorem dX12_statement_74 : decode cX12_statement 74 = .ok (.aload_n 0, 1) := by decide +kernel
theorem dX12_statement_75 : decode cX12_statement 75 = .ok (.bipush 32, 2) := by decide +kernel
theorem dX12_statement_77 : decode cX12_statement 77 = .ok (.invokevirtual 213, 3) := by decide +kernel
theorem dX12_statement_80 : decode cX12_statement 80 = .ok (.aload_n 0, 1) := by decide +kernel
theorem dX12_statement_81 : decode cX12_statement 81 = .ok (.getfield 73, 3) := by decide +kernel
theorem dX12_statement_84 : decode cX12_statement 84 = .ok (.iconst 2, 1) := by decide +kernel
theorem dX12_statement_85 : decode cX12_statement 85 = .ok (.aload_n 0, 1) := by decide +kernel
theorem dX12_statement_86 : decode cX12_statement 86 = .ok (.iconst 1, 1) := by decide +kernel
theorem dX12_statement_87 : decode cX12_statement 87 = .ok (.invokevirtual 210, 3) := by decide +kernel
theorem dX12_statement_90 : decode cX12_statement 90 = .ok (.iastore, 1) := by decide +kernel
theorem dX12_statement_91 : decode cX12_statement 91 = .ok (.goto 165, 3) := by decide +kernel
theorem dX12_statement_94 : decode cX12_statement 94 = .ok (.iload_n 1, 1) := by decide +kernel
theorem dX12_statement_95 : decode cX12_statement 95 = .ok (.bipush 107, 2) := by decide +kernel
theorem dX12_statement_97 : decode cX12_statement 97 = .ok (.if_icmp .ne 104, 3) := by decide +kernel
theorem dX12_statement_100 : decode cX12_statement 100 = .ok (.aload_n 0, 1) := by decide +kernel
theorem dX12_statement_101 : decode cX12_statement 101 = .ok (.getfield 73, 3) := by decide +kernel
theorem dX12_statement_104 : decode cX12_statement 104 = .ok (.iconst 0, 1) := by decide +kernel
theorem dX12_statement_105 : decode cX12_statement 105 = .ok (.aload_n 0, 1) := by decide +kernel
theorem dX12_statement_106 : decode cX12_statement 106 = .ok (.iconst 1, 1) := by decide +kernel
theorem dX12_statement_107 : decode cX12_statement 107 = .ok (.invokevirtual 210, 3) := by decide +kernel
theorem dX12_statement_110 : decode cX12_statement 110 = .ok (.iastore, 1) := by decide +kernel
theorem dX12_statement_111 : decode cX12_statement 111 = .ok (.aload_n 0, 1) := by decide +kernel
theorem dX12_statement_112 : decode cX12_statement 112 = .ok (.getfield 73, 3) := by decide +kernel
theorem dX12_statement_115 : decode cX12_statement 115 = .ok (.iconst 1, 1) := by decide +kernel
theorem dX12_statement_116 : decode cX12_statement 116 = .ok (.aload_n 0, 1) := by decide +kernel
theorem dX12_statement_117 : decode cX12_statement 117 = .ok (.iconst 1, 1) := by decide +kernel
theorem dX12_statement_118 : decode cX12_statement 118 = .ok (.invokevirtual 210, 3) := by decide +kernel
theorem dX12_statement_121 : decode cX12_statement 121 = .ok (.iastore, 1) := by decide +kernel
theorem dX12_statement_122 : decode cX12_statement 122 = .ok (.aload_n 0, 1) := by decide +kernel
theorem dX12_statement_123 : decode cX12_statement 123 = .ok (.getfield 200, 3) := by decide +kernel
theorem dX12_statement_126 : decode cX12_statement 126 = .ok (.ifCond .eq 16, 3) := by decide +kernel
theorem dX12_statement_129 : decode cX12_statement 129 = .ok (.aload_n 0, 1) := by decide +kernel
theorem dX12_statement_130 : decode cX12_statement 130 = .ok (.bipush 45, 2) := by decide +kernel
theorem dX12_statement_132 : decode cX12_statement 132 = .ok (.invokevirtual 203, 3) := by decide +kernel
theorem dX12_statement_135 : decode cX12_statement 135 = .ok (.ifCond .eq 7, 3) := by decide +kernel
theorem dX12_statement_138 : decode cX12_statement 138 = .ok (.iconst 1, 1) := by decide +kernel
theorem dX12_statement_139 : decode cX12_statement 139 = .ok (.goto 4, 3) := by decide +kernel
theorem dX12_statement_142 : decode cX12_statement 142 = .ok (.iconst 0, 1) := by decide +kernel
theorem dX12_statement_143 : decode cX12_statement 143 = .ok (.istore_n 2, 1) := by decide +kernel
theorem dX12_statement_144 : decode cX12_statement 144 = .ok (.aload_n 0, 1) := by decide +kernel
theorem dX12_statement_145 : decode cX12_statement 145 = .ok (.iload_n 2, 1) := by decide +kernel
theorem dX12_statement_146 : decode cX12_statement 146 = .ok (.ifCond .eq 8, 3) := by decide +kernel
theorem dX12_statement_149 : decode cX12_statement 149 = .ok (.bipush 45, 2) := by decide +kernel
theorem dX12_statement_151 : decode cX12_statement 151 = .ok (.goto 5, 3) := by decide +kernel
theorem dX12_statement_154 : decode cX12_statement 154 = .ok (.bipush 43, 2) := by decide +kernel
theorem dX12_statement_156 : decode cX12_statement 156 = .ok (.invokevirtual 213, 3) := by decide +kernel
theorem dX12_statement_159 : decode cX12_statement 159 = .ok (.aload_n 0, 1) := by decide +kernel
theorem dX12_statement_160 : decode cX12_statement 160 = .ok (.iconst 2, 1) := by decide +kernel
theorem dX12_statement_161 : decode cX12_statement 161 = .ok (.invokevirtual 210, 3) := by decide +kernel
theorem dX12_statement_164 : decode cX12_statement 164 = .ok (.istore_n 3, 1) := by decide +kernel
theorem dX12_statement_165 : decode cX12_statement 165 = .ok (.aload_n 0, 1) := by decide +kernel
theorem dX12_statement_166 : decode cX12_statement 166 = .ok (.getfield 73, 3) := by decide +kernel
theorem dX12_statement_169 : decode cX12_statement 169 = .ok (.iconst 2, 1) := by decide +kernel
theorem dX12_statement_170 : decode cX12_statement 170 = .ok (.iload_n 2, 1) := by decide +kernel
theorem dX12_statement_171 : decode cX12_statement 171 = .ok (.ifCond .eq 8, 3) := by decide +kernel
theorem dX12_statement_174 : decode cX12_statement 174 = .ok (.iload_n 3, 1) := by decide +kernel
theorem dX12_statement_175 : decode cX12_statement 175 = .ok (.ineg, 1) := by decide +kernel
theorem dX12_statement_176 : decode cX12_statement 176 = .ok (.goto 4, 3) := by decide +kernel
theorem dX12_statement_179 : decode cX12_statement 179 = .ok (.iload_n 3, 1) := by decide +kernel
theorem dX12_statement_180 : decode cX12_statement 180 = .ok (.iastore, 1) := by decide +kernel
theorem dX12_statement_181 : decode cX12_statement 181 = .ok (.aload_n 0, 1) := by decide +kernel
theorem dX12_statement_182 : decode cX12_statement 182 = .ok (.bipush 32, 2) := by decide +kernel
theorem dX12_statement_184 : decode cX12_statement 184 = .ok (.invokevirtual 213, 3) := by decide +kernel
theorem dX12_statement_187 : decode cX12_statement 187 = .ok (.aload_n 0, 1) := by decide +kernel
theorem dX12_statement_188 : decode cX12_statement 188 = .ok (.getfield 73, 3) := by decide +kernel
theorem dX12_statement_191 : decode cX12_statement 191 = .ok (.iconst 3, 1) := by decide +kernel
theorem dX12_statement_192 : decode cX12_statement 192 = .ok (.aload_n 0, 1) := by decide +kernel
theorem dX12_statement_193 : decode cX12_statement 193 = .ok (.iconst 3, 1) := by decide +kernel
theorem dX12_statement_194 : decode cX12_statement 194 = .ok (.invokevirtual 210, 3) := by decide +kernel
theorem dX12_statement_197 : decode cX12_statement 197 = .ok (.iastore, 1) := by decide +kernel
theorem dX12_statement_198 : decode cX12_statement 198 = .ok (.goto 58, 3) := by decide +kernel
theorem dX12_statement_201 : decode cX12_statement 201 = .ok (.iload_n 1, 1) := by decide +kernel
theorem dX12_statement_202 : decode cX12_statement 202 = .ok (.bipush 108, 2) := by decide +kernel
theorem dX12_statement_204 : decode cX12_statement 204 = .ok (.if_icmp .ne 17, 3) := by decide +kernel
theorem dX12_statement_207 : decode cX12_statement 207 = .ok (.aload_n 0, 1) := by decide +kernel
theorem dX12_statement_208 : decode cX12_statement 208 = .ok (.getfield 73, 3) := by decide +kernel
theorem dX12_statement_211 : decode cX12_statement 211 = .ok (.iconst 0, 1) := by decide +kernel
theorem dX12_statement_212 : decode cX12_statement 212 = .ok (.aload_n 0, 1) := by decide +kernel
theorem dX12_statement_213 : decode cX12_statement 213 = .ok (.iconst 1, 1) := by decide +kernel
theorem dX12_statement_214 : decode cX12_statement 214 = .ok (.invokevirtual 210, 3) := by decide +kernel
theorem dX12_statement_217 : decode cX12_statement 217 = .ok (.iastore, 1) := by decide +kernel
theorem dX12_statement_218 : decode cX12_statement 218 = .ok (.goto 38, 3) := by decide +kernel
theorem dX12_statement_221 : decode cX12_statement 221 = .ok (.iload_n 1, 1) := by decide +kernel
theorem dX12_statement_222 : decode cX12_statement 222 = .ok (.bipush 112, 2) := by decide +kernel
theorem dX12_statement_224 : decode cX12_statement 224 = .ok (.if_icmp .ne 17, 3) := by decide +kernel
theorem dX12_statement_227 : decode cX12_statement 227 = .ok (.aload_n 0, 1) := by decide +kernel
theorem dX12_statement_228 : decode cX12_statement 228 = .ok (.getfield 73, 3) := by decide +kernel
theorem dX12_statement_231 : decode cX12_statement 231 = .ok (.iconst 0, 1) := by decide +kernel
theorem dX12_statement_232 : decode cX12_statement 232 = .ok (.aload_n 0, 1) := by decide +kernel
theorem dX12_statement_233 : decode cX12_statement 233 = .ok (.iconst 3, 1) := by decide +kernel
theorem dX12_statement_234 : decode cX12_statement 234 = .ok (.invokevirtual 210, 3) := by decide +kernel
theorem dX12_statement_237 : decode cX12_statement 237 = .ok (.iastore, 1) := by decide +kernel
theorem dX12_statement_238 : decode cX12_statement 238 = .ok (.goto 18, 3) := by decide +kernel
theorem dX12_statement_241 : decode cX12_statement 241 = .ok (.aload_n 0, 1) := by decide +kernel
theorem dX12_statement_242 : decode cX12_statement 242 = .ok (.dup, 1) := by decide +kernel
theorem dX12_statement_243 : decode cX12_statement 243 = .ok (.getfield 191, 3) := by decide +kernel
theorem dX12_statement_246 : decode cX12_statement 246 = .ok (.iconst 1, 1) := by decide +kernel
theorem dX12_statement_247 : decode cX12_statement 247 = .ok (.isub, 1) := by decide +kernel
theorem dX12_statement_248 : decode cX12_statement 248 = .ok (.putfield 191, 3) := by decide +kernel
theorem dX12_statement_251 : decode cX12_statement 251 = .ok (.aload_n 0, 1) := by decide +kernel
theorem dX12_statement_252 : decode cX12_statement 252 = .ok (.iconst 0, 1) := by decide +kernel
theorem dX12_statement_253 : decode cX12_statement 253 = .ok (.putfield 200, 3) := by decide +kernel
theorem dX12_statement_256 : decode cX12_statement 256 = .ok (.aload_n 0, 1) := by decide +kernel
theorem dX12_statement_257 : decode cX12_statement 257 = .ok (.bipush 59, 2) := by decide +kernel
theorem dX12_statement_259 : decode cX12_statement 259 = .ok (.invokevirtual 213, 3) := by decide +kernel
theorem dX12_statement_262 : decode cX12_statement 262 = .ok (.iload_n 1, 1) := by decide +kernel
theorem dX12_statement_263 : decode cX12_statement 263 = .ok (.ireturn, 1) := by decide +kernel
theorem dX12_isAsTold_0 : decode cX12_isAsTold 0 = .ok (.iload_n 1, 1) := by decide +kernel
theorem dX12_isAsTold_1 : decode cX12_isAsTold 1 = .ok (.lookupswitch 147 #[(107, 80), (108, 131), (119, 35)], 35) := by decide +kernel
theorem dX12_isAsTold_36 : decode cX12_isAsTold 36 = .ok (.iload_n 2, 1) := by decide +kernel
theorem dX12_isAsTold_37 : decode cX12_isAsTold 37 = .ok (.iconst 5, 1) := by decide +kernel
theorem dX12_isAsTold_38 : decode cX12_isAsTold 38 = .ok (.if_icmp .ge 41, 3) := by decide +kernel
theorem dX12_isAsTold_41 : decode cX12_isAsTold 41 = .ok (.aload_n 0, 1) := by decide +kernel
theorem dX12_isAsTold_42 : decode cX12_isAsTold 42 = .ok (.getfield 73, 3) := by decide +kernel
theorem dX12_isAsTold_45 : decode cX12_isAsTold 45 = .ok (.iconst 0, 1) := by decide +kernel
theorem dX12_isAsTold_46 : decode cX12_isAsTold 46 = .ok (.iaload, 1) := by decide +kernel
theorem dX12_isAsTold_47 : decode cX12_isAsTold 47 = .ok (.sipush 719, 3) := by decide +kernel
theorem dX12_isAsTold_50 : decode cX12_isAsTold 50 = .ok (.if_icmp .gt 29, 3) := by decide +kernel
theorem dX12_isAsTold_53 : decode cX12_isAsTold 53 = .ok (.aload_n 0, 1) := by decide +kernel
theorem dX12_isAsTold_54 : decode cX12_isAsTold 54 = .ok (.getfield 73, 3) := by decide +kernel
theorem dX12_isAsTold_57 : decode cX12_isAsTold 57 = .ok (.iconst 0, 1) := by decide +kernel
theorem dX12_isAsTold_58 : decode cX12_isAsTold 58 = .ok (.iaload, 1) := by decide +kernel
theorem dX12_isAsTold_59 : decode cX12_isAsTold 59 = .ok (.iload 5, 2) := by decide +kernel
theorem dX12_isAsTold_61 : decode cX12_isAsTold 61 = .ok (.if_icmp .le 18, 3) := by decide +kernel
theorem dX12_isAsTold_64 : decode cX12_isAsTold 64 = .ok (.aload_n 0, 1) := by decide +kernel
theorem dX12_isAsTold_65 : decode cX12_isAsTold 65 = .ok (.getfield 73, 3) := by decide +kernel
theorem dX12_isAsTold_68 : decode cX12_isAsTold 68 = .ok (.iconst 1, 1) := by decide +kernel
theorem dX12_isAsTold_69 : decode cX12_isAsTold 69 = .ok (.iaload, 1) := by decide +kernel
theorem dX12_isAsTold_70 : decode cX12_isAsTold 70 = .ok (.bipush 59, 2) := by decide +kernel
theorem dX12_isAsTold_72 : decode cX12_isAsTold 72 = .ok (.if_icmp .gt 7, 3) := by decide +kernel
theorem dX12_isAsTold_75 : decode cX12_isAsTold 75 = .ok (.iconst 1, 1) := by decide +kernel
theorem dX12_isAsTold_76 : decode cX12_isAsTold 76 = .ok (.goto 4, 3) := by decide +kernel
theorem dX12_isAsTold_79 : decode cX12_isAsTold 79 = .ok (.iconst 0, 1) := by decide +kernel
theorem dX12_isAsTold_80 : decode cX12_isAsTold 80 = .ok (.ireturn, 1) := by decide +kernel
theorem dX12_isAsTold_81 : decode cX12_isAsTold 81 = .ok (.iload_n 3, 1) := by decide +kernel
theorem dX12_isAsTold_82 : decode cX12_isAsTold 82 = .ok (.bipush 6, 2) := by decide +kernel
theorem dX12_isAsTold_84 : decode cX12_isAsTold 84 = .ok (.if_icmp .ge 46, 3) := by decide +kernel
theorem dX12_isAsTold_87 : decode cX12_isAsTold 87 = .ok (.aload_n 0, 1) := by decide +kernel
theorem dX12_isAsTold_88 : decode cX12_isAsTold 88 = .ok (.getfield 73, 3) := by decide +kernel
theorem dX12_isAsTold_91 : decode cX12_isAsTold 91 = .ok (.iconst 0, 1) := by decide +kernel
theorem dX12_isAsTold_92 : decode cX12_isAsTold 92 = .ok (.iaload, 1) := by decide +kernel
theorem dX12_isAsTold_93 : decode cX12_isAsTold 93 = .ok (.bipush 7, 2) := by decide +kernel
theorem dX12_isAsTold_95 : decode cX12_isAsTold 95 = .ok (.if_icmp .gt 35, 3) := by decide +kernel
theorem dX12_isAsTold_98 : decode cX12_isAsTold 98 = .ok (.aload_n 0, 1) := by decide +kernel
theorem dX12_isAsTold_99 : decode cX12_isAsTold 99 = .ok (.getfield 73, 3) := by decide +kernel
theorem dX12_isAsTold_102 : decode cX12_isAsTold 102 = .ok (.iconst 2, 1) := by decide +kernel
theorem dX12_isAsTold_103 : decode cX12_isAsTold 103 = .ok (.iaload, 1) := by decide +kernel
theorem dX12_isAsTold_104 : decode cX12_isAsTold 104 = .ok (.bipush (-20), 2) := by decide +kernel
theorem dX12_isAsTold_106 : decode cX12_isAsTold 106 = .ok (.bipush 20, 2) := by decide +kernel
theorem dX12_isAsTold_108 : decode cX12_isAsTold 108 = .ok (.invokestatic 100, 3) := by decide +kernel
theorem dX12_isAsTold_111 : decode cX12_isAsTold 111 = .ok (.ifCond .eq 19, 3) := by decide +kernel
theorem dX12_isAsTold_114 : decode cX12_isAsTold 114 = .ok (.aload_n 0, 1) := by decide +kernel
theorem dX12_isAsTold_115 : decode cX12_isAsTold 115 = .ok (.getfield 73, 3) := by decide +kernel
theorem dX12_isAsTold_118 : decode cX12_isAsTold 118 = .ok (.iconst 3, 1) := by decide +kernel
theorem dX12_isAsTold_119 : decode cX12_isAsTold 119 = .ok (.iaload, 1) := by decide +kernel
theorem dX12_isAsTold_120 : decode cX12_isAsTold 120 = .ok (.sipush 719, 3) := by decide +kernel
theorem dX12_isAsTold_123 : decode cX12_isAsTold 123 = .ok (.if_icmp .gt 7, 3) := by decide +kernel
theorem dX12_isAsTold_126 : decode cX12_isAsTold 126 = .ok (.iconst 1, 1) := by decide +kernel
theorem dX12_isAsTold_127 : decode cX12_isAsTold 127 = .ok (.goto 4, 3) := by decide +kernel
theorem dX12_isAsTold_130 : decode cX12_isAsTold 130 = .ok (.iconst 0, 1) := by decide +kernel
theorem dX12_isAsTold_131 : decode cX12_isAsTold 131 = .ok (.ireturn, 1) := by decide +kernel
theorem dX12_isAsTold_132 : decode cX12_isAsTold 132 = .ok (.aload_n 0, 1) := by decide +kernel
theorem dX12_isAsTold_133 : decode cX12_isAsTold 133 = .ok (.getfield 73, 3) := by decide +kernel
theorem dX12_isAsTold_136 : decode cX12_isAsTold 136 = .ok (.iconst 0, 1) := by decide +kernel
theorem dX12_isAsTold_137 : decode cX12_isAsTold 137 = .ok (.iaload, 1) := by decide +kernel
theorem dX12_isAsTold_138 : decode cX12_isAsTold 138 = .ok (.iconst 2, 1) := by decide +kernel
theorem dX12_isAsTold_139 : decode cX12_isAsTold 139 = .ok (.if_icmp .gt 7, 3) := by decide +kernel
theorem dX12_isAsTold_142 : decode cX12_isAsTold 142 = .ok (.iconst 1, 1) := by decide +kernel
theorem dX12_isAsTold_143 : decode cX12_isAsTold 143 = .ok (.goto 4, 3) := by decide +kernel
theorem dX12_isAsTold_146 : decode cX12_isAsTold 146 = .ok (.iconst 0, 1) := by decide +kernel
theorem dX12_isAsTold_147 : decode cX12_isAsTold 147 = .ok (.ireturn, 1) := by decide +kernel
theorem dX12_isAsTold_148 : decode cX12_isAsTold 148 = .ok (.iload 4, 2) := by decide +kernel
theorem dX12_isAsTold_150 : decode cX12_isAsTold 150 = .ok (.bipush 8, 2) := by decide +kernel
theorem dX12_isAsTold_152 : decode cX12_isAsTold 152 = .ok (.if_icmp .ge 30, 3) := by decide +kernel
theorem dX12_isAsTold_155 : decode cX12_isAsTold 155 = .ok (.aload_n 0, 1) := by decide +kernel
theorem dX12_isAsTold_156 : decode cX12_isAsTold 156 = .ok (.getfield 73, 3) := by decide +kernel
theorem dX12_isAsTold_159 : decode cX12_isAsTold 159 = .ok (.iconst 0, 1) := by decide +kernel
theorem dX12_isAsTold_160 : decode cX12_isAsTold 160 = .ok (.iaload, 1) := by decide +kernel
theorem dX12_isAsTold_161 : decode cX12_isAsTold 161 = .ok (.sipush 719, 3) := by decide +kernel
theorem dX12_isAsTold_164 : decode cX12_isAsTold 164 = .ok (.if_icmp .gt 18, 3) := by decide +kernel
theorem dX12_isAsTold_167 : decode cX12_isAsTold 167 = .ok (.aload_n 0, 1) := by decide +kernel
theorem dX12_isAsTold_168 : decode cX12_isAsTold 168 = .ok (.getfield 73, 3) := by decide +kernel
theorem dX12_isAsTold_171 : decode cX12_isAsTold 171 = .ok (.iconst 0, 1) := by decide +kernel
theorem dX12_isAsTold_172 : decode cX12_isAsTold 172 = .ok (.iaload, 1) := by decide +kernel
theorem dX12_isAsTold_173 : decode cX12_isAsTold 173 = .ok (.iload 6, 2) := by decide +kernel
theorem dX12_isAsTold_175 : decode cX12_isAsTold 175 = .ok (.if_icmp .le 7, 3) := by decide +kernel
theorem dX12_isAsTold_178 : decode cX12_isAsTold 178 = .ok (.iconst 1, 1) := by decide +kernel
theorem dX12_isAsTold_179 : decode cX12_isAsTold 179 = .ok (.goto 4, 3) := by decide +kernel
theorem dX12_isAsTold_182 : decode cX12_isAsTold 182 = .ok (.iconst 0, 1) := by decide +kernel
theorem dX12_isAsTold_183 : decode cX12_isAsTold 183 = .ok (.ireturn, 1) := by decide +kernel
theorem dX12_come_0 : decode cX12_come 0 = .ok (.iload_n 1, 1) := by decide +kernel
theorem dX12_come_1 : decode cX12_come 1 = .ok (.lookupswitch 195 #[(107, 99), (108, 180), (119, 35)], 35) := by decide +kernel
theorem dX12_come_36 : decode cX12_come 36 = .ok (.aload_n 0, 1) := by decide +kernel
theorem dX12_come_37 : decode cX12_come 37 = .ok (.getfield 13, 3) := by decide +kernel
theorem dX12_come_40 : decode cX12_come 40 = .ok (.aload_n 0, 1) := by decide +kernel
theorem dX12_come_41 : decode cX12_come 41 = .ok (.getfield 7, 3) := by decide +kernel
theorem dX12_come_44 : decode cX12_come 44 = .ok (.iconst 0, 1) := by decide +kernel
theorem dX12_come_45 : decode cX12_come 45 = .ok (.iaload, 1) := by decide +kernel
theorem dX12_come_46 : decode cX12_come 46 = .ok (.aload_n 0, 1) := by decide +kernel
theorem dX12_come_47 : decode cX12_come 47 = .ok (.getfield 73, 3) := by decide +kernel
theorem dX12_come_50 : decode cX12_come 50 = .ok (.iconst 0, 1) := by decide +kernel
theorem dX12_come_51 : decode cX12_come 51 = .ok (.iaload, 1) := by decide +kernel
theorem dX12_come_52 : decode cX12_come 52 = .ok (.iastore, 1) := by decide +kernel
theorem dX12_come_53 : decode cX12_come 53 = .ok (.aload_n 0, 1) := by decide +kernel
theorem dX12_come_54 : decode cX12_come 54 = .ok (.getfield 16, 3) := by decide +kernel
theorem dX12_come_57 : decode cX12_come 57 = .ok (.aload_n 0, 1) := by decide +kernel
theorem dX12_come_58 : decode cX12_come 58 = .ok (.getfield 7, 3) := by decide +kernel
theorem dX12_come_61 : decode cX12_come 61 = .ok (.iconst 0, 1) := by decide +kernel
theorem dX12_come_62 : decode cX12_come 62 = .ok (.iaload, 1) := by decide +kernel
theorem dX12_come_63 : decode cX12_come 63 = .ok (.aload_n 0, 1) := by decide +kernel
theorem dX12_come_64 : decode cX12_come 64 = .ok (.getfield 73, 3) := by decide +kernel
theorem dX12_come_67 : decode cX12_come 67 = .ok (.iconst 1, 1) := by decide +kernel
theorem dX12_come_68 : decode cX12_come 68 = .ok (.iaload, 1) := by decide +kernel
theorem dX12_come_69 : decode cX12_come 69 = .ok (.iastore, 1) := by decide +kernel
theorem dX12_come_70 : decode cX12_come 70 = .ok (.aload_n 0, 1) := by decide +kernel
theorem dX12_come_71 : decode cX12_come 71 = .ok (.getfield 19, 3) := by decide +kernel
theorem dX12_come_74 : decode cX12_come 74 = .ok (.aload_n 0, 1) := by decide +kernel
theorem dX12_come_75 : decode cX12_come 75 = .ok (.getfield 7, 3) := by decide +kernel
theorem dX12_come_78 : decode cX12_come 78 = .ok (.iconst 0, 1) := by decide +kernel
theorem dX12_come_79 : decode cX12_come 79 = .ok (.iaload, 1) := by decide +kernel
theorem dX12_come_80 : decode cX12_come 80 = .ok (.aload_n 0, 1) := by decide +kernel
theorem dX12_come_81 : decode cX12_come 81 = .ok (.getfield 73, 3) := by decide +kernel
theorem dX12_come_84 : decode cX12_come 84 = .ok (.iconst 2, 1) := by decide +kernel
theorem dX12_come_85 : decode cX12_come 85 = .ok (.iaload, 1) := by decide +kernel
theorem dX12_come_86 : decode cX12_come 86 = .ok (.iastore, 1) := by decide +kernel
theorem dX12_come_87 : decode cX12_come 87 = .ok (.aload_n 0, 1) := by decide +kernel
theorem dX12_come_88 : decode cX12_come 88 = .ok (.getfield 7, 3) := by decide +kernel
theorem dX12_come_91 : decode cX12_come 91 = .ok (.iconst 0, 1) := by decide +kernel
theorem dX12_come_92 : decode cX12_come 92 = .ok (.dup2, 1) := by decide +kernel
theorem dX12_come_93 : decode cX12_come 93 = .ok (.iaload, 1) := by decide +kernel
theorem dX12_come_94 : decode cX12_come 94 = .ok (.iconst 1, 1) := by decide +kernel
theorem dX12_come_95 : decode cX12_come 95 = .ok (.iadd, 1) := by decide +kernel
theorem dX12_come_96 : decode cX12_come 96 = .ok (.iastore, 1) := by decide +kernel
theorem dX12_come_97 : decode cX12_come 97 = .ok (.goto 126, 3) := by decide +kernel
theorem dX12_come_100 : decode cX12_come 100 = .ok (.aload_n 0, 1) := by decide +kernel
theorem dX12_come_101 : decode cX12_come 101 = .ok (.getfield 22, 3) := by decide +kernel
theorem dX12_come_104 : decode cX12_come 104 = .ok (.aload_n 0, 1) := by decide +kernel
theorem dX12_come_105 : decode cX12_come 105 = .ok (.getfield 7, 3) := by decide +kernel
theorem dX12_come_108 : decode cX12_come 108 = .ok (.iconst 1, 1) := by decide +kernel
theorem dX12_come_109 : decode cX12_come 109 = .ok (.iaload, 1) := by decide +kernel
theorem dX12_come_110 : decode cX12_come 110 = .ok (.aload_n 0, 1) := by decide +kernel
theorem dX12_come_111 : decode cX12_come 111 = .ok (.getfield 73, 3) := by decide +kernel
theorem dX12_come_114 : decode cX12_come 114 = .ok (.iconst 0, 1) := by decide +kernel
theorem dX12_come_115 : decode cX12_come 115 = .ok (.iaload, 1) := by decide +kernel
theorem dX12_come_116 : decode cX12_come 116 = .ok (.iastore, 1) := by decide +kernel
theorem dX12_come_117 : decode cX12_come 117 = .ok (.aload_n 0, 1) := by decide +kernel
theorem dX12_come_118 : decode cX12_come 118 = .ok (.getfield 25, 3) := by decide +kernel
theorem dX12_come_121 : decode cX12_come 121 = .ok (.aload_n 0, 1) := by decide +kernel
theorem dX12_come_122 : decode cX12_come 122 = .ok (.getfield 7, 3) := by decide +kernel
theorem dX12_come_125 : decode cX12_come 125 = .ok (.iconst 1, 1) := by decide +kernel
theorem dX12_come_126 : decode cX12_come 126 = .ok (.iaload, 1) := by decide +kernel
theorem dX12_come_127 : decode cX12_come 127 = .ok (.aload_n 0, 1) := by decide +kernel
theorem dX12_come_128 : decode cX12_come 128 = .ok (.getfield 73, 3) := by decide +kernel
theorem dX12_come_131 : decode cX12_come 131 = .ok (.iconst 1, 1) := by decide +kernel
theorem dX12_come_132 : decode cX12_come 132 = .ok (.iaload, 1) := by decide +kernel
theorem dX12_come_133 : decode cX12_come 133 = .ok (.iastore, 1) := by decide +kernel
theorem dX12_come_134 : decode cX12_come 134 = .ok (.aload_n 0, 1) := by decide +kernel
theorem dX12_come_135 : decode cX12_come 135 = .ok (.getfield 28, 3) := by decide +kernel
theorem dX12_come_138 : decode cX12_come 138 = .ok (.aload_n 0, 1) := by decide +kernel
theorem dX12_come_139 : decode cX12_come 139 = .ok (.getfield 7, 3) := by decide +kernel
theorem dX12_come_142 : decode cX12_come 142 = .ok (.iconst 1, 1) := by decide +kernel
theorem dX12_come_143 : decode cX12_come 143 = .ok (.iaload, 1) := by decide +kernel
theorem dX12_come_144 : decode cX12_come 144 = .ok (.aload_n 0, 1) := by decide +kernel
theorem dX12_come_145 : decode cX12_come 145 = .ok (.getfield 73, 3) := by decide +kernel
theorem dX12_come_148 : decode cX12_come 148 = .ok (.iconst 2, 1) := by decide +kernel
theorem dX12_come_149 : decode cX12_come 149 = .ok (.iaload, 1) := by decide +kernel
theorem dX12_come_150 : decode cX12_come 150 = .ok (.iastore, 1) := by decide +kernel
theorem dX12_come_151 : decode cX12_come 151 = .ok (.aload_n 0, 1) := by decide +kernel
theorem dX12_come_152 : decode cX12_come 152 = .ok (.getfield 31, 3) := by decide +kernel
theorem dX12_come_155 : decode cX12_come 155 = .ok (.aload_n 0, 1) := by decide +kernel
theorem dX12_come_156 : decode cX12_come 156 = .ok (.getfield 7, 3) := by decide +kernel
theorem dX12_come_159 : decode cX12_come 159 = .ok (.iconst 1, 1) := by decide +kernel
theorem dX12_come_160 : decode cX12_come 160 = .ok (.iaload, 1) := by decide +kernel
theorem dX12_come_161 : decode cX12_come 161 = .ok (.aload_n 0, 1) := by decide +kernel
theorem dX12_come_162 : decode cX12_come 162 = .ok (.getfield 73, 3) := by decide +kernel
theorem dX12_come_165 : decode cX12_come 165 = .ok (.iconst 3, 1) := by decide +kernel
theorem dX12_come_166 : decode cX12_come 166 = .ok (.iaload, 1) := by decide +kernel
theorem dX12_come_167 : decode cX12_come 167 = .ok (.iastore, 1) := by decide +kernel
theorem dX12_come_168 : decode cX12_come 168 = .ok (.aload_n 0, 1) := by decide +kernel
theorem dX12_come_169 : decode cX12_come 169 = .ok (.getfield 7, 3) := by decide +kernel
theorem dX12_come_172 : decode cX12_come 172 = .ok (.iconst 1, 1) := by decide +kernel
theorem dX12_come_173 : decode cX12_come 173 = .ok (.dup2, 1) := by decide +kernel
theorem dX12_come_174 : decode cX12_come 174 = .ok (.iaload, 1) := by decide +kernel
theorem dX12_come_175 : decode cX12_come 175 = .ok (.iconst 1, 1) := by decide +kernel
theorem dX12_come_176 : decode cX12_come 176 = .ok (.iadd, 1) := by decide +kernel
theorem dX12_come_177 : decode cX12_come 177 = .ok (.iastore, 1) := by decide +kernel
theorem dX12_come_178 : decode cX12_come 178 = .ok (.goto 45, 3) := by decide +kernel
theorem dX12_come_181 : decode cX12_come 181 = .ok (.aload_n 0, 1) := by decide +kernel
theorem dX12_come_182 : decode cX12_come 182 = .ok (.getfield 7, 3) := by decide +kernel
theorem dX12_come_185 : decode cX12_come 185 = .ok (.iconst 3, 1) := by decide +kernel
theorem dX12_come_186 : decode cX12_come 186 = .ok (.aload_n 0, 1) := by decide +kernel
theorem dX12_come_187 : decode cX12_come 187 = .ok (.getfield 73, 3) := by decide +kernel
theorem dX12_come_190 : decode cX12_come 190 = .ok (.iconst 0, 1) := by decide +kernel
theorem dX12_come_191 : decode cX12_come 191 = .ok (.iaload, 1) := by decide +kernel
theorem dX12_come_192 : decode cX12_come 192 = .ok (.iastore, 1) := by decide +kernel
theorem dX12_come_193 : decode cX12_come 193 = .ok (.goto 30, 3) := by decide +kernel
theorem dX12_come_196 : decode cX12_come 196 = .ok (.aload_n 0, 1) := by decide +kernel
theorem dX12_come_197 : decode cX12_come 197 = .ok (.getfield 34, 3) := by decide +kernel
theorem dX12_come_200 : decode cX12_come 200 = .ok (.aload_n 0, 1) := by decide +kernel
theorem dX12_come_201 : decode cX12_come 201 = .ok (.getfield 7, 3) := by decide +kernel
theorem dX12_come_204 : decode cX12_come 204 = .ok (.iconst 2, 1) := by decide +kernel
theorem dX12_come_205 : decode cX12_come 205 = .ok (.iaload, 1) := by decide +kernel
theorem dX12_come_206 : decode cX12_come 206 = .ok (.aload_n 0, 1) := by decide +kernel
theorem dX12_come_207 : decode cX12_come 207 = .ok (.getfield 73, 3) := by decide +kernel
theorem dX12_come_210 : decode cX12_come 210 = .ok (.iconst 0, 1) := by decide +kernel
theorem dX12_come_211 : decode cX12_come 211 = .ok (.iaload, 1) := by decide +kernel
theorem dX12_come_212 : decode cX12_come 212 = .ok (.iastore, 1) := by decide +kernel
theorem dX12_come_213 : decode cX12_come 213 = .ok (.aload_n 0, 1) := by decide +kernel
theorem dX12_come_214 : decode cX12_come 214 = .ok (.getfield 7, 3) := by decide +kernel
theorem dX12_come_217 : decode cX12_come 217 = .ok (.iconst 2, 1) := by decide +kernel
theorem dX12_come_218 : decode cX12_come 218 = .ok (.dup2, 1) := by decide +kernel
theorem dX12_come_219 : decode cX12_come 219 = .ok (.iaload, 1) := by decide +kernel
theorem dX12_come_220 : decode cX12_come 220 = .ok (.iconst 1, 1) := by decide +kernel
theorem dX12_come_221 : decode cX12_come 221 = .ok (.iadd, 1) := by decide +kernel
theorem dX12_come_222 : decode cX12_come 222 = .ok (.iastore, 1) := by decide +kernel
theorem dX12_come_223 : decode cX12_come 223 = .ok (.return_, 1) := by decide +kernel
theorem dX12_read_0 : decode cX12_read 0 = .ok (.iconst 0, 1) := by decide +kernel
theorem dX12_read_1 : decode cX12_read 1 = .ok (.istore_n 1, 1) := by decide +kernel
theorem dX12_read_2 : decode cX12_read 2 = .ok (.aload_n 0, 1) := by decide +kernel
theorem dX12_read_3 : decode cX12_read 3 = .ok (.iconst 0, 1) := by decide +kernel
theorem dX12_read_4 : decode cX12_read 4 = .ok (.putfield 191, 3) := by decide +kernel
theorem dX12_read_7 : decode cX12_read 7 = .ok (.aload_n 0, 1) := by decide +kernel
theorem dX12_read_8 : decode cX12_read 8 = .ok (.iconst 1, 1) := by decide +kernel
theorem dX12_read_9 : decode cX12_read 9 = .ok (.putfield 200, 3) := by decide +kernel
theorem dX12_read_12 : decode cX12_read 12 = .ok (.aload_n 0, 1) := by decide +kernel
theorem dX12_read_13 : decode cX12_read 13 = .ok (.invokevirtual 217, 3) := by decide +kernel
theorem dX12_read_16 : decode cX12_read 16 = .ok (.pop, 1) := by decide +kernel
theorem dX12_read_17 : decode cX12_read 17 = .ok (.iinc 1 1, 3) := by decide +kernel
theorem dX12_read_20 : decode cX12_read 20 = .ok (.aload_n 0, 1) := by decide +kernel
theorem dX12_read_21 : decode cX12_read 21 = .ok (.getfield 200, 3) := by decide +kernel
theorem dX12_read_24 : decode cX12_read 24 = .ok (.ifCond .eq 14, 3) := by decide +kernel
theorem dX12_read_27 : decode cX12_read 27 = .ok (.aload_n 0, 1) := by decide +kernel
theorem dX12_read_28 : decode cX12_read 28 = .ok (.getfield 191, 3) := by decide +kernel
theorem dX12_read_31 : decode cX12_read 31 = .ok (.aload_n 0, 1) := by decide +kernel
theorem dX12_read_32 : decode cX12_read 32 = .ok (.getfield 194, 3) := by decide +kernel
theorem dX12_read_35 : decode cX12_read 35 = .ok (.if_icmp .lt (-23), 3) := by decide +kernel
theorem dX12_read_38 : decode cX12_read 38 = .ok (.aload_n 0, 1) := by decide +kernel
theorem dX12_read_39 : decode cX12_read 39 = .ok (.getfield 200, 3) := by decide +kernel
theorem dX12_read_42 : decode cX12_read 42 = .ok (.ifCond .ne 12, 3) := by decide +kernel
theorem dX12_read_45 : decode cX12_read 45 = .ok (.sipush (-1000), 3) := by decide +kernel
theorem dX12_read_48 : decode cX12_read 48 = .ok (.aload_n 0, 1) := by decide +kernel
theorem dX12_read_49 : decode cX12_read 49 = .ok (.getfield 191, 3) := by decide +kernel
theorem dX12_read_52 : decode cX12_read 52 = .ok (.isub, 1) := by decide +kernel
theorem dX12_read_53 : decode cX12_read 53 = .ok (.ireturn, 1) := by decide +kernel
theorem dX12_read_54 : decode cX12_read 54 = .ok (.aload_n 0, 1) := by decide +kernel
theorem dX12_read_55 : decode cX12_read 55 = .ok (.getfield 7, 3) := by decide +kernel
theorem dX12_read_58 : decode cX12_read 58 = .ok (.iconst 0, 1) := by decide +kernel
theorem dX12_read_59 : decode cX12_read 59 = .ok (.iaload, 1) := by decide +kernel
theorem dX12_read_60 : decode cX12_read 60 = .ok (.istore_n 2, 1) := by decide +kernel
theorem dX12_read_61 : decode cX12_read 61 = .ok (.aload_n 0, 1) := by decide +kernel
theorem dX12_read_62 : decode cX12_read 62 = .ok (.getfield 7, 3) := by decide +kernel
theorem dX12_read_65 : decode cX12_read 65 = .ok (.iconst 1, 1) := by decide +kernel
theorem dX12_read_66 : decode cX12_read 66 = .ok (.iaload, 1) := by decide +kernel
theorem dX12_read_67 : decode cX12_read 67 = .ok (.istore_n 3, 1) := by decide +kernel
theorem dX12_read_68 : decode cX12_read 68 = .ok (.aload_n 0, 1) := by decide +kernel
theorem dX12_read_69 : decode cX12_read 69 = .ok (.getfield 7, 3) := by decide +kernel
theorem dX12_read_72 : decode cX12_read 72 = .ok (.iconst 2, 1) := by decide +kernel
theorem dX12_read_73 : decode cX12_read 73 = .ok (.iaload, 1) := by decide +kernel
theorem dX12_read_74 : decode cX12_read 74 = .ok (.istore 4, 2) := by decide +kernel
theorem dX12_read_76 : decode cX12_read 76 = .ok (.iload_n 2, 1) := by decide +kernel
theorem dX12_read_77 : decode cX12_read 77 = .ok (.ifCond .ne 7, 3) := by decide +kernel
theorem dX12_read_80 : decode cX12_read 80 = .ok (.iconst (-1), 1) := by decide +kernel
theorem dX12_read_81 : decode cX12_read 81 = .ok (.goto 11, 3) := by decide +kernel
theorem dX12_read_84 : decode cX12_read 84 = .ok (.aload_n 0, 1) := by decide +kernel
theorem dX12_read_85 : decode cX12_read 85 = .ok (.getfield 13, 3) := by decide +kernel
theorem dX12_read_88 : decode cX12_read 88 = .ok (.iload_n 2, 1) := by decide +kernel
theorem dX12_read_89 : decode cX12_read 89 = .ok (.iconst 1, 1) := by decide +kernel
theorem dX12_read_90 : decode cX12_read 90 = .ok (.isub, 1) := by decide +kernel
theorem dX12_read_91 : decode cX12_read 91 = .ok (.iaload, 1) := by decide +kernel
theorem dX12_read_92 : decode cX12_read 92 = .ok (.istore 5, 2) := by decide +kernel
theorem dX12_read_94 : decode cX12_read 94 = .ok (.iload 4, 2) := by decide +kernel
theorem dX12_read_96 : decode cX12_read 96 = .ok (.ifCond .ne 7, 3) := by decide +kernel
theorem dX12_read_99 : decode cX12_read 99 = .ok (.iconst (-1), 1) := by decide +kernel
theorem dX12_read_100 : decode cX12_read 100 = .ok (.goto 12, 3) := by decide +kernel
theorem dX12_read_103 : decode cX12_read 103 = .ok (.aload_n 0, 1) := by decide +kernel
theorem dX12_read_104 : decode cX12_read 104 = .ok (.getfield 34, 3) := by decide +kernel
theorem dX12_read_107 : decode cX12_read 107 = .ok (.iload 4, 2) := by decide +kernel
theorem dX12_read_109 : decode cX12_read 109 = .ok (.iconst 1, 1) := by decide +kernel
theorem dX12_read_110 : decode cX12_read 110 = .ok (.isub, 1) := by decide +kernel
theorem dX12_read_111 : decode cX12_read 111 = .ok (.iaload, 1) := by decide +kernel
theorem dX12_read_112 : decode cX12_read 112 = .ok (.istore 6, 2) := by decide +kernel
theorem dX12_read_114 : decode cX12_read 114 = .ok (.aload_n 0, 1) := by decide +kernel
theorem dX12_read_115 : decode cX12_read 115 = .ok (.iconst 0, 1) := by decide +kernel
theorem dX12_read_116 : decode cX12_read 116 = .ok (.putfield 191, 3) := by decide +kernel
theorem dX12_read_119 : decode cX12_read 119 = .ok (.aload_n 0, 1) := by decide +kernel
theorem dX12_read_120 : decode cX12_read 120 = .ok (.getfield 191, 3) := by decide +kernel
theorem dX12_read_123 : decode cX12_read 123 = .ok (.aload_n 0, 1) := by decide +kernel
theorem dX12_read_124 : decode cX12_read 124 = .ok (.getfield 194, 3) := by decide +kernel
theorem dX12_read_127 : decode cX12_read 127 = .ok (.if_icmp .ge 94, 3) := by decide +kernel
theorem dX12_read_130 : decode cX12_read 130 = .ok (.aload_n 0, 1) := by decide +kernel
theorem dX12_read_131 : decode cX12_read 131 = .ok (.getfield 191, 3) := by decide +kernel
theorem dX12_read_134 : decode cX12_read 134 = .ok (.istore 7, 2) := by decide +kernel
theorem dX12_read_136 : decode cX12_read 136 = .ok (.aload_n 0, 1) := by decide +kernel
theorem dX12_read_137 : decode cX12_read 137 = .ok (.invokevirtual 217, 3) := by decide +kernel
theorem dX12_read_140 : decode cX12_read 140 = .ok (.istore 8, 2) := by decide +kernel
theorem dX12_read_142 : decode cX12_read 142 = .ok (.aload_n 0, 1) := by decide +kernel
theorem dX12_read_143 : decode cX12_read 143 = .ok (.iload 8, 2) := by decide +kernel
theorem dX12_read_145 : decode cX12_read 145 = .ok (.iload_n 2, 1) := by decide +kernel
theorem dX12_read_146 : decode cX12_read 146 = .ok (.iload_n 3, 1) := by decide +kernel
theorem dX12_read_147 : decode cX12_read 147 = .ok (.iload 4, 2) := by decide +kernel
theorem dX12_read_149 : decode cX12_read 149 = .ok (.iload 5, 2) := by decide +kernel
theorem dX12_read_151 : decode cX12_read 151 = .ok (.iload 6, 2) := by decide +kernel
theorem dX12_read_153 : decode cX12_read 153 = .ok (.invokevirtual 221, 3) := by decide +kernel
theorem dX12_read_156 : decode cX12_read 156 = .ok (.ifCond .ne 10, 3) := by decide +kernel
theorem dX12_read_159 : decode cX12_read 159 = .ok (.sipush (-2000), 3) := by decide +kernel
theorem dX12_read_162 : decode cX12_read 162 = .ok (.iload 7, 2) := by decide +kernel
theorem dX12_read_164 : decode cX12_read 164 = .ok (.isub, 1) := by decide +kernel
theorem dX12_read_165 : decode cX12_read 165 = .ok (.ireturn, 1) := by decide +kernel
theorem dX12_read_166 : decode cX12_read 166 = .ok (.iload 8, 2) := by decide +kernel
theorem dX12_read_168 : decode cX12_read 168 = .ok (.bipush 119, 2) := by decide +kernel
theorem dX12_read_170 : decode cX12_read 170 = .ok (.if_icmp .ne 17, 3) := by decide +kernel
theorem dX12_read_173 : decode cX12_read 173 = .ok (.iinc 2 1, 3) := by decide +kernel
theorem dX12_read_176 : decode cX12_read 176 = .ok (.aload_n 0, 1) := by decide +kernel
theorem dX12_read_177 : decode cX12_read 177 = .ok (.getfield 73, 3) := by decide +kernel
theorem dX12_read_180 : decode cX12_read 180 = .ok (.iconst 0, 1) := by decide +kernel
theorem dX12_read_181 : decode cX12_read 181 = .ok (.iaload, 1) := by decide +kernel
theorem dX12_read_182 : decode cX12_read 182 = .ok (.istore 5, 2) := by decide +kernel
theorem dX12_read_184 : decode cX12_read 184 = .ok (.goto 34, 3) := by decide +kernel
theorem dX12_read_187 : decode cX12_read 187 = .ok (.iload 8, 2) := by decide +kernel
theorem dX12_read_189 : decode cX12_read 189 = .ok (.bipush 107, 2) := by decide +kernel
theorem dX12_read_191 : decode cX12_read 191 = .ok (.if_icmp .ne 9, 3) := by decide +kernel
theorem dX12_read_194 : decode cX12_read 194 = .ok (.iinc 3 1, 3) := by decide +kernel
theorem dX12_read_197 : decode cX12_read 197 = .ok (.goto 21, 3) := by decide +kernel
theorem dX12_read_200 : decode cX12_read 200 = .ok (.iload 8, 2) := by decide +kernel
theorem dX12_read_202 : decode cX12_read 202 = .ok (.bipush 112, 2) := by decide +kernel
theorem dX12_read_204 : decode cX12_read 204 = .ok (.if_icmp .ne 14, 3) := by decide +kernel
theorem dX12_read_207 : decode cX12_read 207 = .ok (.iinc 4 1, 3) := by decide +kernel
theorem dX12_read_210 : decode cX12_read 210 = .ok (.aload_n 0, 1) := by decide +kernel
theorem dX12_read_211 : decode cX12_read 211 = .ok (.getfield 73, 3) := by decide +kernel
theorem dX12_read_214 : decode cX12_read 214 = .ok (.iconst 0, 1) := by decide +kernel
theorem dX12_read_215 : decode cX12_read 215 = .ok (.iaload, 1) := by decide +kernel
theorem dX12_read_216 : decode cX12_read 216 = .ok (.istore 6, 2) := by decide +kernel
theorem dX12_read_218 : decode cX12_read 218 = .ok (.goto (-99), 3) := by decide +kernel
theorem dX12_read_221 : decode cX12_read 221 = .ok (.aload_n 0, 1) := by decide +kernel
theorem dX12_read_222 : decode cX12_read 222 = .ok (.iconst 0, 1) := by decide +kernel
theorem dX12_read_223 : decode cX12_read 223 = .ok (.putfield 191, 3) := by decide +kernel
theorem dX12_read_226 : decode cX12_read 226 = .ok (.aload_n 0, 1) := by decide +kernel
theorem dX12_read_227 : decode cX12_read 227 = .ok (.getfield 191, 3) := by decide +kernel
theorem dX12_read_230 : decode cX12_read 230 = .ok (.aload_n 0, 1) := by decide +kernel
theorem dX12_read_231 : decode cX12_read 231 = .ok (.getfield 194, 3) := by decide +kernel
theorem dX12_read_234 : decode cX12_read 234 = .ok (.if_icmp .ge 14, 3) := by decide +kernel
theorem dX12_read_237 : decode cX12_read 237 = .ok (.aload_n 0, 1) := by decide +kernel
theorem dX12_read_238 : decode cX12_read 238 = .ok (.aload_n 0, 1) := by decide +kernel
theorem dX12_read_239 : decode cX12_read 239 = .ok (.invokevirtual 217, 3) := by decide +kernel
theorem dX12_read_242 : decode cX12_read 242 = .ok (.invokevirtual 225, 3) := by decide +kernel
theorem dX12_read_245 : decode cX12_read 245 = .ok (.goto (-19), 3) := by decide +kernel
theorem dX12_read_248 : decode cX12_read 248 = .ok (.iload_n 1, 1) := by decide +kernel
theorem dX12_read_249 : decode cX12_read 249 = .ok (.ireturn, 1) := by decide +kernel
theorem dX12_town_0 : decode cX12_town 0 = .ok (.iload_n 1, 1) := by decide +kernel
theorem dX12_town_1 : decode cX12_town 1 = .ok (.iconst 0, 1) := by decide +kernel
theorem dX12_town_2 : decode cX12_town 2 = .ok (.bipush 7, 2) := by decide +kernel
theorem dX12_town_4 : decode cX12_town 4 = .ok (.invokestatic 100, 3) := by decide +kernel
theorem dX12_town_7 : decode cX12_town 7 = .ok (.ifCond .ne 5, 3) := by decide +kernel
theorem dX12_town_10 : decode cX12_town 10 = .ok (.iconst (-1), 1) := by decide +kernel
theorem dX12_town_11 : decode cX12_town 11 = .ok (.ireturn, 1) := by decide +kernel
theorem dX12_town_12 : decode cX12_town 12 = .ok (.aload_n 0, 1) := by decide +kernel
theorem dX12_town_13 : decode cX12_town 13 = .ok (.getfield 76, 3) := by decide +kernel
theorem dX12_town_16 : decode cX12_town 16 = .ok (.iload_n 1, 1) := by decide +kernel
theorem dX12_town_17 : decode cX12_town 17 = .ok (.iaload, 1) := by decide +kernel
theorem dX12_town_18 : decode cX12_town 18 = .ok (.ifCond .ne 6, 3) := by decide +kernel
theorem dX12_town_21 : decode cX12_town 21 = .ok (.bipush (-11), 2) := by decide +kernel
theorem dX12_town_23 : decode cX12_town 23 = .ok (.ireturn, 1) := by decide +kernel
theorem dX12_town_24 : decode cX12_town 24 = .ok (.aload_n 0, 1) := by decide +kernel
theorem dX12_town_25 : decode cX12_town 25 = .ok (.getfield 76, 3) := by decide +kernel
theorem dX12_town_28 : decode cX12_town 28 = .ok (.iload_n 1, 1) := by decide +kernel
theorem dX12_town_29 : decode cX12_town 29 = .ok (.iaload, 1) := by decide +kernel
theorem dX12_town_30 : decode cX12_town 30 = .ok (.iconst 1, 1) := by decide +kernel
theorem dX12_town_31 : decode cX12_town 31 = .ok (.if_icmp .eq 12, 3) := by decide +kernel
theorem dX12_town_34 : decode cX12_town 34 = .ok (.aload_n 0, 1) := by decide +kernel
theorem dX12_town_35 : decode cX12_town 35 = .ok (.getfield 79, 3) := by decide +kernel
theorem dX12_town_38 : decode cX12_town 38 = .ok (.iload_n 1, 1) := by decide +kernel
theorem dX12_town_39 : decode cX12_town 39 = .ok (.iaload, 1) := by decide +kernel
theorem dX12_town_40 : decode cX12_town 40 = .ok (.ifCond .eq 6, 3) := by decide +kernel
theorem dX12_town_43 : decode cX12_town 43 = .ok (.bipush (-12), 2) := by decide +kernel
theorem dX12_town_45 : decode cX12_town 45 = .ok (.ireturn, 1) := by decide +kernel
theorem dX12_town_46 : decode cX12_town 46 = .ok (.aload_n 0, 1) := by decide +kernel
theorem dX12_town_47 : decode cX12_town 47 = .ok (.bipush 100, 2) := by decide +kernel
theorem dX12_town_49 : decode cX12_town 49 = .ok (.iload_n 1, 1) := by decide +kernel
theorem dX12_town_50 : decode cX12_town 50 = .ok (.imul, 1) := by decide +kernel
theorem dX12_town_51 : decode cX12_town 51 = .ok (.putfield 197, 3) := by decide +kernel
theorem dX12_town_54 : decode cX12_town 54 = .ok (.aload_n 0, 1) := by decide +kernel
theorem dX12_town_55 : decode cX12_town 55 = .ok (.aload_n 0, 1) := by decide +kernel
theorem dX12_town_56 : decode cX12_town 56 = .ok (.getfield 82, 3) := by decide +kernel
theorem dX12_town_59 : decode cX12_town 59 = .ok (.iload_n 1, 1) := by decide +kernel
theorem dX12_town_60 : decode cX12_town 60 = .ok (.iaload, 1) := by decide +kernel
theorem dX12_town_61 : decode cX12_town 61 = .ok (.putfield 194, 3) := by decide +kernel
theorem dX12_town_64 : decode cX12_town 64 = .ok (.aload_n 0, 1) := by decide +kernel
theorem dX12_town_65 : decode cX12_town 65 = .ok (.invokevirtual 228, 3) := by decide +kernel
theorem dX12_town_68 : decode cX12_town 68 = .ok (.ireturn, 1) := by decide +kernel
theorem dX12_keep_0 : decode cX12_keep 0 = .ok (.iload_n 1, 1) := by decide +kernel
theorem dX12_keep_1 : decode cX12_keep 1 = .ok (.iconst 0, 1) := by decide +kernel
theorem dX12_keep_2 : decode cX12_keep 2 = .ok (.bipush 7, 2) := by decide +kernel
theorem dX12_keep_4 : decode cX12_keep 4 = .ok (.invokestatic 100, 3) := by decide +kernel
theorem dX12_keep_7 : decode cX12_keep 7 = .ok (.ifCond .eq 25, 3) := by decide +kernel
theorem dX12_keep_10 : decode cX12_keep 10 = .ok (.iload_n 2, 1) := by decide +kernel
theorem dX12_keep_11 : decode cX12_keep 11 = .ok (.iconst 0, 1) := by decide +kernel
theorem dX12_keep_12 : decode cX12_keep 12 = .ok (.iconst 1, 1) := by decide +kernel
theorem dX12_keep_13 : decode cX12_keep 13 = .ok (.invokestatic 100, 3) := by decide +kernel
theorem dX12_keep_16 : decode cX12_keep 16 = .ok (.ifCond .eq 16, 3) := by decide +kernel
theorem dX12_keep_19 : decode cX12_keep 19 = .ok (.iload_n 2, 1) := by decide +kernel
theorem dX12_keep_20 : decode cX12_keep 20 = .ok (.iconst 1, 1) := by decide +kernel
theorem dX12_keep_21 : decode cX12_keep 21 = .ok (.if_icmp .ne 13, 3) := by decide +kernel
theorem dX12_keep_24 : decode cX12_keep 24 = .ok (.aload_n 0, 1) := by decide +kernel
theorem dX12_keep_25 : decode cX12_keep 25 = .ok (.iload_n 3, 1) := by decide +kernel
theorem dX12_keep_26 : decode cX12_keep 26 = .ok (.invokevirtual 123, 3) := by decide +kernel
theorem dX12_keep_29 : decode cX12_keep 29 = .ok (.ifCond .ne 5, 3) := by decide +kernel
theorem dX12_keep_32 : decode cX12_keep 32 = .ok (.iconst (-1), 1) := by decide +kernel
theorem dX12_keep_33 : decode cX12_keep 33 = .ok (.ireturn, 1) := by decide +kernel
theorem dX12_keep_34 : decode cX12_keep 34 = .ok (.aload_n 0, 1) := by decide +kernel
theorem dX12_keep_35 : decode cX12_keep 35 = .ok (.getfield 76, 3) := by decide +kernel
theorem dX12_keep_38 : decode cX12_keep 38 = .ok (.iload_n 1, 1) := by decide +kernel
theorem dX12_keep_39 : decode cX12_keep 39 = .ok (.iload_n 2, 1) := by decide +kernel
theorem dX12_keep_40 : decode cX12_keep 40 = .ok (.iastore, 1) := by decide +kernel
theorem dX12_keep_41 : decode cX12_keep 41 = .ok (.iload_n 2, 1) := by decide +kernel
theorem dX12_keep_42 : decode cX12_keep 42 = .ok (.iconst 1, 1) := by decide +kernel
theorem dX12_keep_43 : decode cX12_keep 43 = .ok (.if_icmp .ne 34, 3) := by decide +kernel
theorem dX12_keep_46 : decode cX12_keep 46 = .ok (.aload_n 0, 1) := by decide +kernel
theorem dX12_keep_47 : decode cX12_keep 47 = .ok (.getfield 91, 3) := by decide +kernel
theorem dX12_keep_50 : decode cX12_keep 50 = .ok (.iload_n 1, 1) := by decide +kernel
theorem dX12_keep_51 : decode cX12_keep 51 = .ok (.iload_n 3, 1) := by decide +kernel
theorem dX12_keep_52 : decode cX12_keep 52 = .ok (.iastore, 1) := by decide +kernel
theorem dX12_keep_53 : decode cX12_keep 53 = .ok (.aload_n 0, 1) := by decide +kernel
theorem dX12_keep_54 : decode cX12_keep 54 = .ok (.getfield 94, 3) := by decide +kernel
theorem dX12_keep_57 : decode cX12_keep 57 = .ok (.iload_n 1, 1) := by decide +kernel
theorem dX12_keep_58 : decode cX12_keep 58 = .ok (.aload_n 0, 1) := by decide +kernel
theorem dX12_keep_59 : decode cX12_keep 59 = .ok (.getfield 22, 3) := by decide +kernel
theorem dX12_keep_62 : decode cX12_keep 62 = .ok (.iload_n 3, 1) := by decide +kernel
theorem dX12_keep_63 : decode cX12_keep 63 = .ok (.iaload, 1) := by decide +kernel
theorem dX12_keep_64 : decode cX12_keep 64 = .ok (.iastore, 1) := by decide +kernel
theorem dX12_keep_65 : decode cX12_keep 65 = .ok (.aload_n 0, 1) := by decide +kernel
theorem dX12_keep_66 : decode cX12_keep 66 = .ok (.getfield 97, 3) := by decide +kernel
theorem dX12_keep_69 : decode cX12_keep 69 = .ok (.iload_n 1, 1) := by decide +kernel
theorem dX12_keep_70 : decode cX12_keep 70 = .ok (.aload_n 0, 1) := by decide +kernel
theorem dX12_keep_71 : decode cX12_keep 71 = .ok (.getfield 25, 3) := by decide +kernel
theorem dX12_keep_74 : decode cX12_keep 74 = .ok (.iload_n 3, 1) := by decide +kernel
theorem dX12_keep_75 : decode cX12_keep 75 = .ok (.iaload, 1) := by decide +kernel
theorem dX12_keep_76 : decode cX12_keep 76 = .ok (.iastore, 1) := by decide +kernel
theorem dX12_keep_77 : decode cX12_keep 77 = .ok (.iconst 0, 1) := by decide +kernel
theorem dX12_keep_78 : decode cX12_keep 78 = .ok (.ireturn, 1) := by decide +kernel
theorem dX12_row_0 : decode cX12_row 0 = .ok (.iload_n 1, 1) := by decide +kernel
theorem dX12_row_1 : decode cX12_row 1 = .ok (.iconst 0, 1) := by decide +kernel
theorem dX12_row_2 : decode cX12_row 2 = .ok (.bipush 7, 2) := by decide +kernel
theorem dX12_row_4 : decode cX12_row 4 = .ok (.invokestatic 100, 3) := by decide +kernel
theorem dX12_row_7 : decode cX12_row 7 = .ok (.ifCond .eq 18, 3) := by decide +kernel
theorem dX12_row_10 : decode cX12_row 10 = .ok (.iload_n 2, 1) := by decide +kernel
theorem dX12_row_11 : decode cX12_row 11 = .ok (.iconst 0, 1) := by decide +kernel
theorem dX12_row_12 : decode cX12_row 12 = .ok (.iconst 2, 1) := by decide +kernel
theorem dX12_row_13 : decode cX12_row 13 = .ok (.invokestatic 100, 3) := by decide +kernel
theorem dX12_row_16 : decode cX12_row 16 = .ok (.ifCond .eq 9, 3) := by decide +kernel
theorem dX12_row_19 : decode cX12_row 19 = .ok (.iload_n 3, 1) := by decide +kernel
theorem dX12_row_20 : decode cX12_row 20 = .ok (.bipush 100, 2) := by decide +kernel
theorem dX12_row_22 : decode cX12_row 22 = .ok (.if_icmp .le 5, 3) := by decide +kernel
theorem dX12_row_25 : decode cX12_row 25 = .ok (.iconst (-1), 1) := by decide +kernel
theorem dX12_row_26 : decode cX12_row 26 = .ok (.ireturn, 1) := by decide +kernel
theorem dX12_row_27 : decode cX12_row 27 = .ok (.iload_n 3, 1) := by decide +kernel
theorem dX12_row_28 : decode cX12_row 28 = .ok (.ifCond .ge 6, 3) := by decide +kernel
theorem dX12_row_31 : decode cX12_row 31 = .ok (.bipush (-14), 2) := by decide +kernel
theorem dX12_row_33 : decode cX12_row 33 = .ok (.ireturn, 1) := by decide +kernel
theorem dX12_row_34 : decode cX12_row 34 = .ok (.aload_n 0, 1) := by decide +kernel
theorem dX12_row_35 : decode cX12_row 35 = .ok (.getfield 76, 3) := by decide +kernel
theorem dX12_row_38 : decode cX12_row 38 = .ok (.iload_n 1, 1) := by decide +kernel
theorem dX12_row_39 : decode cX12_row 39 = .ok (.iconst 2, 1) := by decide +kernel
theorem dX12_row_40 : decode cX12_row 40 = .ok (.iastore, 1) := by decide +kernel
theorem dX12_row_41 : decode cX12_row 41 = .ok (.aload_n 0, 1) := by decide +kernel
theorem dX12_row_42 : decode cX12_row 42 = .ok (.getfield 79, 3) := by decide +kernel
theorem dX12_row_45 : decode cX12_row 45 = .ok (.iload_n 1, 1) := by decide +kernel
theorem dX12_row_46 : decode cX12_row 46 = .ok (.iload_n 2, 1) := by decide +kernel
theorem dX12_row_47 : decode cX12_row 47 = .ok (.iastore, 1) := by decide +kernel
theorem dX12_row_48 : decode cX12_row 48 = .ok (.aload_n 0, 1) := by decide +kernel
theorem dX12_row_49 : decode cX12_row 49 = .ok (.getfield 82, 3) := by decide +kernel
theorem dX12_row_52 : decode cX12_row 52 = .ok (.iload_n 1, 1) := by decide +kernel
theorem dX12_row_53 : decode cX12_row 53 = .ok (.iload_n 3, 1) := by decide +kernel
theorem dX12_row_54 : decode cX12_row 54 = .ok (.iastore, 1) := by decide +kernel
theorem dX12_row_55 : decode cX12_row 55 = .ok (.iconst 0, 1) := by decide +kernel
theorem dX12_row_56 : decode cX12_row 56 = .ok (.istore 4, 2) := by decide +kernel
theorem dX12_row_58 : decode cX12_row 58 = .ok (.iload 4, 2) := by decide +kernel
theorem dX12_row_60 : decode cX12_row 60 = .ok (.bipush 100, 2) := by decide +kernel
theorem dX12_row_62 : decode cX12_row 62 = .ok (.if_icmp .ge 22, 3) := by decide +kernel
theorem dX12_row_65 : decode cX12_row 65 = .ok (.aload_n 0, 1) := by decide +kernel
theorem dX12_row_66 : decode cX12_row 66 = .ok (.getfield 85, 3) := by decide +kernel
theorem dX12_row_69 : decode cX12_row 69 = .ok (.bipush 100, 2) := by decide +kernel
theorem dX12_row_71 : decode cX12_row 71 = .ok (.iload_n 1, 1) := by decide +kernel
theorem dX12_row_72 : decode cX12_row 72 = .ok (.imul, 1) := by decide +kernel
theorem dX12_row_73 : decode cX12_row 73 = .ok (.iload 4, 2) := by decide +kernel
theorem dX12_row_75 : decode cX12_row 75 = .ok (.iadd, 1) := by decide +kernel
theorem dX12_row_76 : decode cX12_row 76 = .ok (.iconst 0, 1) := by decide +kernel
theorem dX12_row_77 : decode cX12_row 77 = .ok (.iastore, 1) := by decide +kernel
theorem dX12_row_78 : decode cX12_row 78 = .ok (.iinc 4 1, 3) := by decide +kernel
theorem dX12_row_81 : decode cX12_row 81 = .ok (.goto (-23), 3) := by decide +kernel
theorem dX12_row_84 : decode cX12_row 84 = .ok (.iconst 0, 1) := by decide +kernel
theorem dX12_row_85 : decode cX12_row 85 = .ok (.ireturn, 1) := by decide +kernel
theorem dX12_put_0 : decode cX12_put 0 = .ok (.iload_n 1, 1) := by decide +kernel
theorem dX12_put_1 : decode cX12_put 1 = .ok (.iconst 0, 1) := by decide +kernel
theorem dX12_put_2 : decode cX12_put 2 = .ok (.bipush 7, 2) := by decide +kernel
theorem dX12_put_4 : decode cX12_put 4 = .ok (.invokestatic 100, 3) := by decide +kernel
theorem dX12_put_7 : decode cX12_put 7 = .ok (.ifCond .ne 5, 3) := by decide +kernel
theorem dX12_put_10 : decode cX12_put 10 = .ok (.iconst (-1), 1) := by decide +kernel
theorem dX12_put_11 : decode cX12_put 11 = .ok (.ireturn, 1) := by decide +kernel
theorem dX12_put_12 : decode cX12_put 12 = .ok (.aload_n 0, 1) := by decide +kernel
theorem dX12_put_13 : decode cX12_put 13 = .ok (.getfield 76, 3) := by decide +kernel
theorem dX12_put_16 : decode cX12_put 16 = .ok (.iload_n 1, 1) := by decide +kernel
theorem dX12_put_17 : decode cX12_put 17 = .ok (.iaload, 1) := by decide +kernel
theorem dX12_put_18 : decode cX12_put 18 = .ok (.ifCond .ne 6, 3) := by decide +kernel
theorem dX12_put_21 : decode cX12_put 21 = .ok (.bipush (-11), 2) := by decide +kernel
theorem dX12_put_23 : decode cX12_put 23 = .ok (.ireturn, 1) := by decide +kernel
theorem dX12_put_24 : decode cX12_put 24 = .ok (.aload_n 0, 1) := by decide +kernel
theorem dX12_put_25 : decode cX12_put 25 = .ok (.getfield 76, 3) := by decide +kernel
theorem dX12_put_28 : decode cX12_put 28 = .ok (.iload_n 1, 1) := by decide +kernel
theorem dX12_put_29 : decode cX12_put 29 = .ok (.iaload, 1) := by decide +kernel
theorem dX12_put_30 : decode cX12_put 30 = .ok (.iconst 1, 1) := by decide +kernel
theorem dX12_put_31 : decode cX12_put 31 = .ok (.if_icmp .ne 6, 3) := by decide +kernel
theorem dX12_put_34 : decode cX12_put 34 = .ok (.bipush (-12), 2) := by decide +kernel
theorem dX12_put_36 : decode cX12_put 36 = .ok (.ireturn, 1) := by decide +kernel
theorem dX12_put_37 : decode cX12_put 37 = .ok (.iload_n 2, 1) := by decide +kernel
theorem dX12_put_38 : decode cX12_put 38 = .ok (.iconst 0, 1) := by decide +kernel
theorem dX12_put_39 : decode cX12_put 39 = .ok (.aload_n 0, 1) := by decide +kernel
theorem dX12_put_40 : decode cX12_put 40 = .ok (.getfield 82, 3) := by decide +kernel
theorem dX12_put_43 : decode cX12_put 43 = .ok (.iload_n 1, 1) := by decide +kernel
theorem dX12_put_44 : decode cX12_put 44 = .ok (.iaload, 1) := by decide +kernel
theorem dX12_put_45 : decode cX12_put 45 = .ok (.iconst 1, 1) := by decide +kernel
theorem dX12_put_46 : decode cX12_put 46 = .ok (.isub, 1) := by decide +kernel
theorem dX12_put_47 : decode cX12_put 47 = .ok (.invokestatic 100, 3) := by decide +kernel
theorem dX12_put_50 : decode cX12_put 50 = .ok (.ifCond .ne 6, 3) := by decide +kernel
theorem dX12_put_53 : decode cX12_put 53 = .ok (.bipush (-13), 2) := by decide +kernel
theorem dX12_put_55 : decode cX12_put 55 = .ok (.ireturn, 1) := by decide +kernel
theorem dX12_put_56 : decode cX12_put 56 = .ok (.aload_n 0, 1) := by decide +kernel
theorem dX12_put_57 : decode cX12_put 57 = .ok (.getfield 85, 3) := by decide +kernel
theorem dX12_put_60 : decode cX12_put 60 = .ok (.bipush 100, 2) := by decide +kernel
theorem dX12_put_62 : decode cX12_put 62 = .ok (.iload_n 1, 1) := by decide +kernel
theorem dX12_put_63 : decode cX12_put 63 = .ok (.imul, 1) := by decide +kernel
theorem dX12_put_64 : decode cX12_put 64 = .ok (.iload_n 2, 1) := by decide +kernel
theorem dX12_put_65 : decode cX12_put 65 = .ok (.iadd, 1) := by decide +kernel
theorem dX12_put_66 : decode cX12_put 66 = .ok (.aload_n 0, 1) := by decide +kernel
theorem dX12_put_67 : decode cX12_put 67 = .ok (.getfield 79, 3) := by decide +kernel
theorem dX12_put_70 : decode cX12_put 70 = .ok (.iload_n 1, 1) := by decide +kernel
theorem dX12_put_71 : decode cX12_put 71 = .ok (.iaload, 1) := by decide +kernel
theorem dX12_put_72 : decode cX12_put 72 = .ok (.ifCond .ne 8, 3) := by decide +kernel
theorem dX12_put_75 : decode cX12_put 75 = .ok (.iload_n 3, 1) := by decide +kernel
theorem dX12_put_76 : decode cX12_put 76 = .ok (.i2b, 1) := by decide +kernel
theorem dX12_put_77 : decode cX12_put 77 = .ok (.goto 19, 3) := by decide +kernel
theorem dX12_put_80 : decode cX12_put 80 = .ok (.aload_n 0, 1) := by decide +kernel
theorem dX12_put_81 : decode cX12_put 81 = .ok (.getfield 79, 3) := by decide +kernel
theorem dX12_put_84 : decode cX12_put 84 = .ok (.iload_n 1, 1) := by decide +kernel
theorem dX12_put_85 : decode cX12_put 85 = .ok (.iaload, 1) := by decide +kernel
theorem dX12_put_86 : decode cX12_put 86 = .ok (.iconst 1, 1) := by decide +kernel
theorem dX12_put_87 : decode cX12_put 87 = .ok (.if_icmp .ne 8, 3) := by decide +kernel
theorem dX12_put_90 : decode cX12_put 90 = .ok (.iload_n 3, 1) := by decide +kernel
theorem dX12_put_91 : decode cX12_put 91 = .ok (.i2s, 1) := by decide +kernel
theorem dX12_put_92 : decode cX12_put 92 = .ok (.goto 4, 3) := by decide +kernel
theorem dX12_put_95 : decode cX12_put 95 = .ok (.iload_n 3, 1) := by decide +kernel
theorem dX12_put_96 : decode cX12_put 96 = .ok (.iastore, 1) := by decide +kernel
theorem dX12_put_97 : decode cX12_put 97 = .ok (.iconst 0, 1) := by decide +kernel
theorem dX12_put_98 : decode cX12_put 98 = .ok (.ireturn, 1) := by decide +kernel
theorem dX12_thrown_0 : decode cX12_thrown 0 = .ok (.aload_n 0, 1) := by decide +kernel
theorem dX12_thrown_1 : decode cX12_thrown 1 = .ok (.getfield 231, 3) := by decide +kernel
theorem dX12_thrown_4 : decode cX12_thrown 4 = .ok (.ireturn, 1) := by decide +kernel
theorem dX12_element_0 : decode cX12_element 0 = .ok (.aload_n 0, 1) := by decide +kernel
theorem dX12_element_1 : decode cX12_element 1 = .ok (.iload_n 1, 1) := by decide +kernel
theorem dX12_element_2 : decode cX12_element 2 = .ok (.iconst 0, 1) := by decide +kernel
theorem dX12_element_3 : decode cX12_element 3 = .ok (.bipush 7, 2) := by decide +kernel
theorem dX12_element_5 : decode cX12_element 5 = .ok (.invokestatic 100, 3) := by decide +kernel
theorem dX12_element_8 : decode cX12_element 8 = .ok (.ifCond .ne 7, 3) := by decide +kernel
theorem dX12_element_11 : decode cX12_element 11 = .ok (.iconst 1, 1) := by decide +kernel
theorem dX12_element_12 : decode cX12_element 12 = .ok (.goto 4, 3) := by decide +kernel
theorem dX12_element_15 : decode cX12_element 15 = .ok (.iconst 0, 1) := by decide +kernel
theorem dX12_element_16 : decode cX12_element 16 = .ok (.putfield 231, 3) := by decide +kernel
theorem dX12_element_19 : decode cX12_element 19 = .ok (.aload_n 0, 1) := by decide +kernel
theorem dX12_element_20 : decode cX12_element 20 = .ok (.getfield 231, 3) := by decide +kernel
theorem dX12_element_23 : decode cX12_element 23 = .ok (.ifCond .ne 34, 3) := by decide +kernel
theorem dX12_element_26 : decode cX12_element 26 = .ok (.aload_n 0, 1) := by decide +kernel
theorem dX12_element_27 : decode cX12_element 27 = .ok (.getfield 76, 3) := by decide +kernel
theorem dX12_element_30 : decode cX12_element 30 = .ok (.iload_n 1, 1) := by decide +kernel
theorem dX12_element_31 : decode cX12_element 31 = .ok (.iaload, 1) := by decide +kernel
theorem dX12_element_32 : decode cX12_element 32 = .ok (.iconst 2, 1) := by decide +kernel
theorem dX12_element_33 : decode cX12_element 33 = .ok (.if_icmp .ne 19, 3) := by decide +kernel
theorem dX12_element_36 : decode cX12_element 36 = .ok (.iload_n 2, 1) := by decide +kernel
theorem dX12_element_37 : decode cX12_element 37 = .ok (.iconst 0, 1) := by decide +kernel
theorem dX12_element_38 : decode cX12_element 38 = .ok (.aload_n 0, 1) := by decide +kernel
theorem dX12_element_39 : decode cX12_element 39 = .ok (.getfield 82, 3) := by decide +kernel
theorem dX12_element_42 : decode cX12_element 42 = .ok (.iload_n 1, 1) := by decide +kernel
theorem dX12_element_43 : decode cX12_element 43 = .ok (.iaload, 1) := by decide +kernel
theorem dX12_element_44 : decode cX12_element 44 = .ok (.iconst 1, 1) := by decide +kernel
theorem dX12_element_45 : decode cX12_element 45 = .ok (.isub, 1) := by decide +kernel
theorem dX12_element_46 : decode cX12_element 46 = .ok (.invokestatic 100, 3) := by decide +kernel
theorem dX12_element_49 : decode cX12_element 49 = .ok (.ifCond .ne 8, 3) := by decide +kernel
theorem dX12_element_52 : decode cX12_element 52 = .ok (.aload_n 0, 1) := by decide +kernel
theorem dX12_element_53 : decode cX12_element 53 = .ok (.iconst 2, 1) := by decide +kernel
theorem dX12_element_54 : decode cX12_element 54 = .ok (.putfield 231, 3) := by decide +kernel
theorem dX12_element_57 : decode cX12_element 57 = .ok (.aload_n 0, 1) := by decide +kernel
theorem dX12_element_58 : decode cX12_element 58 = .ok (.getfield 231, 3) := by decide +kernel
theorem dX12_element_61 : decode cX12_element 61 = .ok (.ifCond .ne 18, 3) := by decide +kernel
theorem dX12_element_64 : decode cX12_element 64 = .ok (.aload_n 0, 1) := by decide +kernel
theorem dX12_element_65 : decode cX12_element 65 = .ok (.getfield 85, 3) := by decide +kernel
theorem dX12_element_68 : decode cX12_element 68 = .ok (.bipush 100, 2) := by decide +kernel
theorem dX12_element_70 : decode cX12_element 70 = .ok (.iload_n 1, 1) := by decide +kernel
theorem dX12_element_71 : decode cX12_element 71 = .ok (.imul, 1) := by decide +kernel
theorem dX12_element_72 : decode cX12_element 72 = .ok (.iload_n 2, 1) := by decide +kernel
theorem dX12_element_73 : decode cX12_element 73 = .ok (.iadd, 1) := by decide +kernel
theorem dX12_element_74 : decode cX12_element 74 = .ok (.iaload, 1) := by decide +kernel
theorem dX12_element_75 : decode cX12_element 75 = .ok (.i2l, 1) := by decide +kernel
theorem dX12_element_76 : decode cX12_element 76 = .ok (.goto 4, 3) := by decide +kernel
theorem dX12_element_79 : decode cX12_element 79 = .ok (.lconst 0, 1) := by decide +kernel
theorem dX12_element_80 : decode cX12_element 80 = .ok (.lreturn, 1) := by decide +kernel
theorem dX12_copy_0 : decode cX12_copy 0 = .ok (.iload_n 1, 1) := by decide +kernel
theorem dX12_copy_1 : decode cX12_copy 1 = .ok (.iconst 0, 1) := by decide +kernel
theorem dX12_copy_2 : decode cX12_copy 2 = .ok (.bipush 7, 2) := by decide +kernel
theorem dX12_copy_4 : decode cX12_copy 4 = .ok (.invokestatic 100, 3) := by decide +kernel
theorem dX12_copy_7 : decode cX12_copy 7 = .ok (.ifCond .eq 13, 3) := by decide +kernel
theorem dX12_copy_10 : decode cX12_copy 10 = .ok (.iload_n 3, 1) := by decide +kernel
theorem dX12_copy_11 : decode cX12_copy 11 = .ok (.iconst 0, 1) := by decide +kernel
theorem dX12_copy_12 : decode cX12_copy 12 = .ok (.bipush 7, 2) := by decide +kernel
theorem dX12_copy_14 : decode cX12_copy 14 = .ok (.invokestatic 100, 3) := by decide +kernel
theorem dX12_copy_17 : decode cX12_copy 17 = .ok (.ifCond .ne 5, 3) := by decide +kernel
theorem dX12_copy_20 : decode cX12_copy 20 = .ok (.iconst (-1), 1) := by decide +kernel
theorem dX12_copy_21 : decode cX12_copy 21 = .ok (.ireturn, 1) := by decide +kernel
theorem dX12_copy_22 : decode cX12_copy 22 = .ok (.aload_n 0, 1) := by decide +kernel
theorem dX12_copy_23 : decode cX12_copy 23 = .ok (.getfield 76, 3) := by decide +kernel
theorem dX12_copy_26 : decode cX12_copy 26 = .ok (.iload_n 1, 1) := by decide +kernel
theorem dX12_copy_27 : decode cX12_copy 27 = .ok (.iaload, 1) := by decide +kernel
theorem dX12_copy_28 : decode cX12_copy 28 = .ok (.ifCond .eq 12, 3) := by decide +kernel
theorem dX12_copy_31 : decode cX12_copy 31 = .ok (.aload_n 0, 1) := by decide +kernel
theorem dX12_copy_32 : decode cX12_copy 32 = .ok (.getfield 76, 3) := by decide +kernel
theorem dX12_copy_35 : decode cX12_copy 35 = .ok (.iload_n 3, 1) := by decide +kernel
theorem dX12_copy_36 : decode cX12_copy 36 = .ok (.iaload, 1) := by decide +kernel
theorem dX12_copy_37 : decode cX12_copy 37 = .ok (.ifCond .ne 6, 3) := by decide +kernel
theorem dX12_copy_40 : decode cX12_copy 40 = .ok (.bipush (-11), 2) := by decide +kernel
theorem dX12_copy_42 : decode cX12_copy 42 = .ok (.ireturn, 1) := by decide +kernel
theorem dX12_copy_43 : decode cX12_copy 43 = .ok (.aload_n 0, 1) := by decide +kernel
theorem dX12_copy_44 : decode cX12_copy 44 = .ok (.getfield 76, 3) := by decide +kernel
theorem dX12_copy_47 : decode cX12_copy 47 = .ok (.iload_n 1, 1) := by decide +kernel
theorem dX12_copy_48 : decode cX12_copy 48 = .ok (.iaload, 1) := by decide +kernel
theorem dX12_copy_49 : decode cX12_copy 49 = .ok (.iconst 1, 1) := by decide +kernel
theorem dX12_copy_50 : decode cX12_copy 50 = .ok (.if_icmp .eq 28, 3) := by decide +kernel
theorem dX12_copy_53 : decode cX12_copy 53 = .ok (.aload_n 0, 1) := by decide +kernel
theorem dX12_copy_54 : decode cX12_copy 54 = .ok (.getfield 76, 3) := by decide +kernel
theorem dX12_copy_57 : decode cX12_copy 57 = .ok (.iload_n 3, 1) := by decide +kernel
theorem dX12_copy_58 : decode cX12_copy 58 = .ok (.iaload, 1) := by decide +kernel
theorem dX12_copy_59 : decode cX12_copy 59 = .ok (.iconst 1, 1) := by decide +kernel
theorem dX12_copy_60 : decode cX12_copy 60 = .ok (.if_icmp .eq 18, 3) := by decide +kernel
theorem dX12_copy_63 : decode cX12_copy 63 = .ok (.aload_n 0, 1) := by decide +kernel
theorem dX12_copy_64 : decode cX12_copy 64 = .ok (.getfield 79, 3) := by decide +kernel
theorem dX12_copy_67 : decode cX12_copy 67 = .ok (.iload_n 1, 1) := by decide +kernel
theorem dX12_copy_68 : decode cX12_copy 68 = .ok (.iaload, 1) := by decide +kernel
theorem dX12_copy_69 : decode cX12_copy 69 = .ok (.aload_n 0, 1) := by decide +kernel
theorem dX12_copy_70 : decode cX12_copy 70 = .ok (.getfield 79, 3) := by decide +kernel
theorem dX12_copy_73 : decode cX12_copy 73 = .ok (.iload_n 3, 1) := by decide +kernel
theorem dX12_copy_74 : decode cX12_copy 74 = .ok (.iaload, 1) := by decide +kernel
theorem dX12_copy_75 : decode cX12_copy 75 = .ok (.if_icmp .eq 6, 3) := by decide +kernel
theorem dX12_copy_78 : decode cX12_copy 78 = .ok (.bipush (-12), 2) := by decide +kernel
theorem dX12_copy_80 : decode cX12_copy 80 = .ok (.ireturn, 1) := by decide +kernel
theorem dX12_copy_81 : decode cX12_copy 81 = .ok (.iload 5, 2) := by decide +kernel
theorem dX12_copy_83 : decode cX12_copy 83 = .ok (.ifCond .lt 39, 3) := by decide +kernel
theorem dX12_copy_86 : decode cX12_copy 86 = .ok (.iload_n 2, 1) := by decide +kernel
theorem dX12_copy_87 : decode cX12_copy 87 = .ok (.ifCond .lt 35, 3) := by decide +kernel
theorem dX12_copy_90 : decode cX12_copy 90 = .ok (.iload 4, 2) := by decide +kernel
theorem dX12_copy_92 : decode cX12_copy 92 = .ok (.ifCond .lt 30, 3) := by decide +kernel
theorem dX12_copy_95 : decode cX12_copy 95 = .ok (.iload 5, 2) := by decide +kernel
theorem dX12_copy_97 : decode cX12_copy 97 = .ok (.aload_n 0, 1) := by decide +kernel
theorem dX12_copy_98 : decode cX12_copy 98 = .ok (.getfield 82, 3) := by decide +kernel
theorem dX12_copy_101 : decode cX12_copy 101 = .ok (.iload_n 1, 1) := by decide +kernel
theorem dX12_copy_102 : decode cX12_copy 102 = .ok (.iaload, 1) := by decide +kernel
theorem dX12_copy_103 : decode cX12_copy 103 = .ok (.iload_n 2, 1) := by decide +kernel
theorem dX12_copy_104 : decode cX12_copy 104 = .ok (.isub, 1) := by decide +kernel
theorem dX12_copy_105 : decode cX12_copy 105 = .ok (.if_icmp .gt 17, 3) := by decide +kernel
theorem dX12_copy_108 : decode cX12_copy 108 = .ok (.iload 5, 2) := by decide +kernel
theorem dX12_copy_110 : decode cX12_copy 110 = .ok (.aload_n 0, 1) := by decide +kernel
theorem dX12_copy_111 : decode cX12_copy 111 = .ok (.getfield 82, 3) := by decide +kernel
theorem dX12_copy_114 : decode cX12_copy 114 = .ok (.iload_n 3, 1) := by decide +kernel
theorem dX12_copy_115 : decode cX12_copy 115 = .ok (.iaload, 1) := by decide +kernel
theorem dX12_copy_116 : decode cX12_copy 116 = .ok (.iload 4, 2) := by decide +kernel
theorem dX12_copy_118 : decode cX12_copy 118 = .ok (.isub, 1) := by decide +kernel
theorem dX12_copy_119 : decode cX12_copy 119 = .ok (.if_icmp .le 6, 3) := by decide +kernel
theorem dX12_copy_122 : decode cX12_copy 122 = .ok (.bipush (-13), 2) := by decide +kernel
theorem dX12_copy_124 : decode cX12_copy 124 = .ok (.ireturn, 1) := by decide +kernel
theorem dX12_copy_125 : decode cX12_copy 125 = .ok (.iconst 0, 1) := by decide +kernel
theorem dX12_copy_126 : decode cX12_copy 126 = .ok (.istore 6, 2) := by decide +kernel
theorem dX12_copy_128 : decode cX12_copy 128 = .ok (.iload 6, 2) := by decide +kernel
theorem dX12_copy_130 : decode cX12_copy 130 = .ok (.iload 5, 2) := by decide +kernel
theorem dX12_copy_132 : decode cX12_copy 132 = .ok (.if_icmp .ge 30, 3) := by decide +kernel
theorem dX12_copy_135 : decode cX12_copy 135 = .ok (.aload_n 0, 1) := by decide +kernel
theorem dX12_copy_136 : decode cX12_copy 136 = .ok (.getfield 88, 3) := by decide +kernel
theorem dX12_copy_139 : decode cX12_copy 139 = .ok (.iload 6, 2) := by decide +kernel
theorem dX12_copy_141 : decode cX12_copy 141 = .ok (.aload_n 0, 1) := by decide +kernel
theorem dX12_copy_142 : decode cX12_copy 142 = .ok (.getfield 85, 3) := by decide +kernel
theorem dX12_copy_145 : decode cX12_copy 145 = .ok (.bipush 100, 2) := by decide +kernel
theorem dX12_copy_147 : decode cX12_copy 147 = .ok (.iload_n 1, 1) := by decide +kernel
theorem dX12_copy_148 : decode cX12_copy 148 = .ok (.imul, 1) := by decide +kernel
theorem dX12_copy_149 : decode cX12_copy 149 = .ok (.iload_n 2, 1) := by decide +kernel
theorem dX12_copy_150 : decode cX12_copy 150 = .ok (.iadd, 1) := by decide +kernel
theorem dX12_copy_151 : decode cX12_copy 151 = .ok (.iload 6, 2) := by decide +kernel
theorem dX12_copy_153 : decode cX12_copy 153 = .ok (.iadd, 1) := by decide +kernel
theorem dX12_copy_154 : decode cX12_copy 154 = .ok (.iaload, 1) := by decide +kernel
theorem dX12_copy_155 : decode cX12_copy 155 = .ok (.iastore, 1) := by decide +kernel
theorem dX12_copy_156 : decode cX12_copy 156 = .ok (.iinc 6 1, 3) := by decide +kernel
theorem dX12_copy_159 : decode cX12_copy 159 = .ok (.goto (-31), 3) := by decide +kernel
theorem dX12_copy_162 : decode cX12_copy 162 = .ok (.iconst 0, 1) := by decide +kernel
theorem dX12_copy_163 : decode cX12_copy 163 = .ok (.istore 6, 2) := by decide +kernel
theorem dX12_copy_165 : decode cX12_copy 165 = .ok (.iload 6, 2) := by decide +kernel
theorem dX12_copy_167 : decode cX12_copy 167 = .ok (.iload 5, 2) := by decide +kernel
theorem dX12_copy_169 : decode cX12_copy 169 = .ok (.if_icmp .ge 31, 3) := by decide +kernel
theorem dX12_copy_172 : decode cX12_copy 172 = .ok (.aload_n 0, 1) := by decide +kernel
theorem dX12_copy_173 : decode cX12_copy 173 = .ok (.getfield 85, 3) := by decide +kernel
theorem dX12_copy_176 : decode cX12_copy 176 = .ok (.bipush 100, 2) := by decide +kernel
theorem dX12_copy_178 : decode cX12_copy 178 = .ok (.iload_n 3, 1) := by decide +kernel
theorem dX12_copy_179 : decode cX12_copy 179 = .ok (.imul, 1) := by decide +kernel
theorem dX12_copy_180 : decode cX12_copy 180 = .ok (.iload 4, 2) := by decide +kernel
theorem dX12_copy_182 : decode cX12_copy 182 = .ok (.iadd, 1) := by decide +kernel
theorem dX12_copy_183 : decode cX12_copy 183 = .ok (.iload 6, 2) := by decide +kernel
theorem dX12_copy_185 : decode cX12_copy 185 = .ok (.iadd, 1) := by decide +kernel
theorem dX12_copy_186 : decode cX12_copy 186 = .ok (.aload_n 0, 1) := by decide +kernel
theorem dX12_copy_187 : decode cX12_copy 187 = .ok (.getfield 88, 3) := by decide +kernel
theorem dX12_copy_190 : decode cX12_copy 190 = .ok (.iload 6, 2) := by decide +kernel
theorem dX12_copy_192 : decode cX12_copy 192 = .ok (.iaload, 1) := by decide +kernel
theorem dX12_copy_193 : decode cX12_copy 193 = .ok (.iastore, 1) := by decide +kernel
theorem dX12_copy_194 : decode cX12_copy 194 = .ok (.iinc 6 1, 3) := by decide +kernel
theorem dX12_copy_197 : decode cX12_copy 197 = .ok (.goto (-32), 3) := by decide +kernel
theorem dX12_copy_200 : decode cX12_copy 200 = .ok (.iload 5, 2) := by decide +kernel
theorem dX12_copy_202 : decode cX12_copy 202 = .ok (.ireturn, 1) := by decide +kernel
theorem dX12_skillOf_0 : decode cX12_skillOf 0 = .ok (.aload_n 0, 1) := by decide +kernel
theorem dX12_skillOf_1 : decode cX12_skillOf 1 = .ok (.getfield 97, 3) := by decide +kernel
theorem dX12_skillOf_4 : decode cX12_skillOf 4 = .ok (.iload_n 1, 1) := by decide +kernel
theorem dX12_skillOf_5 : decode cX12_skillOf 5 = .ok (.iaload, 1) := by decide +kernel
theorem dX12_skillOf_6 : decode cX12_skillOf 6 = .ok (.istore_n 2, 1) := by decide +kernel
theorem dX12_skillOf_7 : decode cX12_skillOf 7 = .ok (.aload_n 0, 1) := by decide +kernel
theorem dX12_skillOf_8 : decode cX12_skillOf 8 = .ok (.getfield 94, 3) := by decide +kernel
theorem dX12_skillOf_11 : decode cX12_skillOf 11 = .ok (.iload_n 1, 1) := by decide +kernel
theorem dX12_skillOf_12 : decode cX12_skillOf 12 = .ok (.iaload, 1) := by decide +kernel
theorem dX12_skillOf_13 : decode cX12_skillOf 13 = .ok (.tableswitch 62 0 6 #[43, 45, 49, 51, 55, 58, 60], 43) := by decide +kernel
theorem dX12_skillOf_56 : decode cX12_skillOf 56 = .ok (.iconst 1, 1) := by decide +kernel
theorem dX12_skillOf_57 : decode cX12_skillOf 57 = .ok (.ireturn, 1) := by decide +kernel
theorem dX12_skillOf_58 : decode cX12_skillOf 58 = .ok (.iconst 1, 1) := by decide +kernel
theorem dX12_skillOf_59 : decode cX12_skillOf 59 = .ok (.iload_n 2, 1) := by decide +kernel
theorem dX12_skillOf_60 : decode cX12_skillOf 60 = .ok (.iadd, 1) := by decide +kernel
theorem dX12_skillOf_61 : decode cX12_skillOf 61 = .ok (.ireturn, 1) := by decide +kernel
theorem dX12_skillOf_62 : decode cX12_skillOf 62 = .ok (.iconst 5, 1) := by decide +kernel
theorem dX12_skillOf_63 : decode cX12_skillOf 63 = .ok (.ireturn, 1) := by decide +kernel
theorem dX12_skillOf_64 : decode cX12_skillOf 64 = .ok (.iconst 5, 1) := by decide +kernel
theorem dX12_skillOf_65 : decode cX12_skillOf 65 = .ok (.iload_n 2, 1) := by decide +kernel
theorem dX12_skillOf_66 : decode cX12_skillOf 66 = .ok (.imul, 1) := by decide +kernel
theorem dX12_skillOf_67 : decode cX12_skillOf 67 = .ok (.ireturn, 1) := by decide +kernel
theorem dX12_skillOf_68 : decode cX12_skillOf 68 = .ok (.bipush 15, 2) := by decide +kernel
theorem dX12_skillOf_70 : decode cX12_skillOf 70 = .ok (.ireturn, 1) := by decide +kernel
theorem dX12_skillOf_71 : decode cX12_skillOf 71 = .ok (.iconst 3, 1) := by decide +kernel
theorem dX12_skillOf_72 : decode cX12_skillOf 72 = .ok (.ireturn, 1) := by decide +kernel
theorem dX12_skillOf_73 : decode cX12_skillOf 73 = .ok (.iconst 0, 1) := by decide +kernel
theorem dX12_skillOf_74 : decode cX12_skillOf 74 = .ok (.ireturn, 1) := by decide +kernel
theorem dX12_skillOf_75 : decode cX12_skillOf 75 = .ok (.iconst 5, 1) := by decide +kernel
theorem dX12_skillOf_76 : decode cX12_skillOf 76 = .ok (.iload_n 2, 1) := by decide +kernel
theorem dX12_skillOf_77 : decode cX12_skillOf 77 = .ok (.imul, 1) := by decide +kernel
theorem dX12_skillOf_78 : decode cX12_skillOf 78 = .ok (.bipush 9, 2) := by decide +kernel
theorem dX12_skillOf_80 : decode cX12_skillOf 80 = .ok (.iadd, 1) := by decide +kernel
theorem dX12_skillOf_81 : decode cX12_skillOf 81 = .ok (.ireturn, 1) := by decide +kernel
theorem dX12_skill_0 : decode cX12_skill 0 = .ok (.iload_n 1, 1) := by decide +kernel
theorem dX12_skill_1 : decode cX12_skill 1 = .ok (.iconst 0, 1) := by decide +kernel
theorem dX12_skill_2 : decode cX12_skill 2 = .ok (.bipush 7, 2) := by decide +kernel
theorem dX12_skill_4 : decode cX12_skill 4 = .ok (.invokestatic 100, 3) := by decide +kernel
theorem dX12_skill_7 : decode cX12_skill 7 = .ok (.ifCond .ne 5, 3) := by decide +kernel
theorem dX12_skill_10 : decode cX12_skill 10 = .ok (.iconst (-1), 1) := by decide +kernel
theorem dX12_skill_11 : decode cX12_skill 11 = .ok (.ireturn, 1) := by decide +kernel
theorem dX12_skill_12 : decode cX12_skill 12 = .ok (.aload_n 0, 1) := by decide +kernel
theorem dX12_skill_13 : decode cX12_skill 13 = .ok (.getfield 76, 3) := by decide +kernel
theorem dX12_skill_16 : decode cX12_skill 16 = .ok (.iload_n 1, 1) := by decide +kernel
theorem dX12_skill_17 : decode cX12_skill 17 = .ok (.iaload, 1) := by decide +kernel
theorem dX12_skill_18 : decode cX12_skill 18 = .ok (.ifCond .ne 8, 3) := by decide +kernel
theorem dX12_skill_21 : decode cX12_skill 21 = .ok (.bipush (-11), 2) := by decide +kernel
theorem dX12_skill_23 : decode cX12_skill 23 = .ok (.goto 23, 3) := by decide +kernel
theorem dX12_skill_26 : decode cX12_skill 26 = .ok (.aload_n 0, 1) := by decide +kernel
theorem dX12_skill_27 : decode cX12_skill 27 = .ok (.getfield 76, 3) := by decide +kernel
theorem dX12_skill_30 : decode cX12_skill 30 = .ok (.iload_n 1, 1) := by decide +kernel
theorem dX12_skill_31 : decode cX12_skill 31 = .ok (.iaload, 1) := by decide +kernel
theorem dX12_skill_32 : decode cX12_skill 32 = .ok (.iconst 2, 1) := by decide +kernel
theorem dX12_skill_33 : decode cX12_skill 33 = .ok (.if_icmp .ne 8, 3) := by decide +kernel
theorem dX12_skill_36 : decode cX12_skill 36 = .ok (.bipush (-12), 2) := by decide +kernel
theorem dX12_skill_38 : decode cX12_skill 38 = .ok (.goto 8, 3) := by decide +kernel
theorem dX12_skill_41 : decode cX12_skill 41 = .ok (.aload_n 0, 1) := by decide +kernel
theorem dX12_skill_42 : decode cX12_skill 42 = .ok (.iload_n 1, 1) := by decide +kernel
theorem dX12_skill_43 : decode cX12_skill 43 = .ok (.invokevirtual 234, 3) := by decide +kernel
theorem dX12_skill_46 : decode cX12_skill 46 = .ok (.ireturn, 1) := by decide +kernel
theorem dX12_toss_0 : decode cX12_toss 0 = .ok (.iload_n 1, 1) := by decide +kernel
theorem dX12_toss_1 : decode cX12_toss 1 = .ok (.iconst 0, 1) := by decide +kernel
theorem dX12_toss_2 : decode cX12_toss 2 = .ok (.bipush 7, 2) := by decide +kernel
theorem dX12_toss_4 : decode cX12_toss 4 = .ok (.invokestatic 100, 3) := by decide +kernel
theorem dX12_toss_7 : decode cX12_toss 7 = .ok (.ifCond .ne 5, 3) := by decide +kernel
theorem dX12_toss_10 : decode cX12_toss 10 = .ok (.iconst (-1), 1) := by decide +kernel
theorem dX12_toss_11 : decode cX12_toss 11 = .ok (.ireturn, 1) := by decide +kernel
theorem dX12_toss_12 : decode cX12_toss 12 = .ok (.aload_n 0, 1) := by decide +kernel
theorem dX12_toss_13 : decode cX12_toss 13 = .ok (.getfield 76, 3) := by decide +kernel
theorem dX12_toss_16 : decode cX12_toss 16 = .ok (.iload_n 1, 1) := by decide +kernel
theorem dX12_toss_17 : decode cX12_toss 17 = .ok (.iaload, 1) := by decide +kernel
theorem dX12_toss_18 : decode cX12_toss 18 = .ok (.iconst 1, 1) := by decide +kernel
theorem dX12_toss_19 : decode cX12_toss 19 = .ok (.if_icmp .eq 20, 3) := by decide +kernel
theorem dX12_toss_22 : decode cX12_toss 22 = .ok (.aload_n 0, 1) := by decide +kernel
theorem dX12_toss_23 : decode cX12_toss 23 = .ok (.getfield 76, 3) := by decide +kernel
theorem dX12_toss_26 : decode cX12_toss 26 = .ok (.iload_n 1, 1) := by decide +kernel
theorem dX12_toss_27 : decode cX12_toss 27 = .ok (.iaload, 1) := by decide +kernel
theorem dX12_toss_28 : decode cX12_toss 28 = .ok (.ifCond .ne 8, 3) := by decide +kernel
theorem dX12_toss_31 : decode cX12_toss 31 = .ok (.bipush (-11), 2) := by decide +kernel
theorem dX12_toss_33 : decode cX12_toss 33 = .ok (.goto 5, 3) := by decide +kernel
theorem dX12_toss_36 : decode cX12_toss 36 = .ok (.bipush (-12), 2) := by decide +kernel
theorem dX12_toss_38 : decode cX12_toss 38 = .ok (.ireturn, 1) := by decide +kernel
theorem dX12_toss_39 : decode cX12_toss 39 = .ok (.aload_n 0, 1) := by decide +kernel
theorem dX12_toss_40 : decode cX12_toss 40 = .ok (.getfield 94, 3) := by decide +kernel
theorem dX12_toss_43 : decode cX12_toss 43 = .ok (.iload_n 1, 1) := by decide +kernel
theorem dX12_toss_44 : decode cX12_toss 44 = .ok (.iaload, 1) := by decide +kernel
theorem dX12_toss_45 : decode cX12_toss 45 = .ok (.bipush 6, 2) := by decide +kernel
theorem dX12_toss_47 : decode cX12_toss 47 = .ok (.if_icmp .eq 12, 3) := by decide +kernel
theorem dX12_toss_50 : decode cX12_toss 50 = .ok (.aload_n 0, 1) := by decide +kernel
theorem dX12_toss_51 : decode cX12_toss 51 = .ok (.getfield 97, 3) := by decide +kernel
theorem dX12_toss_54 : decode cX12_toss 54 = .ok (.iload_n 1, 1) := by decide +kernel
theorem dX12_toss_55 : decode cX12_toss 55 = .ok (.iaload, 1) := by decide +kernel
theorem dX12_toss_56 : decode cX12_toss 56 = .ok (.ifCond .ne 6, 3) := by decide +kernel
theorem dX12_toss_59 : decode cX12_toss 59 = .ok (.bipush (-15), 2) := by decide +kernel
theorem dX12_toss_61 : decode cX12_toss 61 = .ok (.ireturn, 1) := by decide +kernel
theorem dX12_toss_62 : decode cX12_toss 62 = .ok (.aload_n 0, 1) := by decide +kernel
theorem dX12_toss_63 : decode cX12_toss 63 = .ok (.getfield 94, 3) := by decide +kernel
theorem dX12_toss_66 : decode cX12_toss 66 = .ok (.iload_n 1, 1) := by decide +kernel
theorem dX12_toss_67 : decode cX12_toss 67 = .ok (.iaload, 1) := by decide +kernel
theorem dX12_toss_68 : decode cX12_toss 68 = .ok (.iconst 4, 1) := by decide +kernel
theorem dX12_toss_69 : decode cX12_toss 69 = .ok (.if_icmp .ne 15, 3) := by decide +kernel
theorem dX12_toss_72 : decode cX12_toss 72 = .ok (.bipush 100, 2) := by decide +kernel
theorem dX12_toss_74 : decode cX12_toss 74 = .ok (.aload_n 0, 1) := by decide +kernel
theorem dX12_toss_75 : decode cX12_toss 75 = .ok (.getfield 91, 3) := by decide +kernel
theorem dX12_toss_78 : decode cX12_toss 78 = .ok (.iload_n 1, 1) := by decide +kernel
theorem dX12_toss_79 : decode cX12_toss 79 = .ok (.iaload, 1) := by decide +kernel
theorem dX12_toss_80 : decode cX12_toss 80 = .ok (.iadd, 1) := by decide +kernel
