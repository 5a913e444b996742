theorem dX0_init_0 : decode cX0_init 0 = .ok (.aload_n 0, 1) := by decide +kernel
theorem dX0_init_1 : decode cX0_init 1 = .ok (.iload_n 1, 1) := by decide +kernel
theorem dX0_init_2 : decode cX0_init 2 = .ok (.iload_n 2, 1) := by decide +kernel
theorem dX0_init_3 : decode cX0_init 3 = .ok (.iload_n 3, 1) := by decide +kernel
theorem dX0_init_4 : decode cX0_init 4 = .ok (.iload 4, 2) := by decide +kernel
theorem dX0_init_6 : decode cX0_init 6 = .ok (.invokespecial 1, 3) := by decide +kernel
theorem dX0_init_9 : decode cX0_init 9 = .ok (.return_, 1) := by decide +kernel
theorem dX0_kind_0 : decode cX0_kind 0 = .ok (.iconst 4, 1) := by decide +kernel
theorem dX0_kind_1 : decode cX0_kind 1 = .ok (.ireturn, 1) := by decide +kernel
theorem dX0_choosesFigure_0 : decode cX0_choosesFigure 0 = .ok (.iconst 1, 1) := by decide +kernel
theorem dX0_choosesFigure_1 : decode cX0_choosesFigure 1 = .ok (.ireturn, 1) := by decide +kernel
theorem dX0_ownSkill_0 : decode cX0_ownSkill 0 = .ok (.aload_n 0, 1) := by decide +kernel
theorem dX0_ownSkill_1 : decode cX0_ownSkill 1 = .ok (.invokespecial 7, 3) := by decide +kernel
theorem dX0_ownSkill_4 : decode cX0_ownSkill 4 = .ok (.iconst 3, 1) := by decide +kernel
theorem dX0_ownSkill_5 : decode cX0_ownSkill 5 = .ok (.imul, 1) := by decide +kernel
theorem dX0_ownSkill_6 : decode cX0_ownSkill 6 = .ok (.ireturn, 1) := by decide +kernel
theorem dX0_fail_0 : decode cX0_fail 0 = .ok (.aload_n 0, 1) := by decide +kernel
theorem dX0_fail_1 : decode cX0_fail 1 = .ok (.getfield 11, 3) := by decide +kernel
theorem dX0_fail_4 : decode cX0_fail 4 = .ok (.ifCond .eq 13, 3) := by decide +kernel
theorem dX0_fail_7 : decode cX0_fail 7 = .ok (.new 17, 3) := by decide +kernel
theorem dX0_fail_10 : decode cX0_fail 10 = .ok (.dup, 1) := by decide +kernel
theorem dX0_fail_11 : decode cX0_fail 11 = .ok (.ldc 19, 2) := by decide +kernel
theorem dX0_fail_13 : decode cX0_fail 13 = .ok (.invokespecial 21, 3) := by decide +kernel
theorem dX0_fail_16 : decode cX0_fail 16 = .ok (.athrow, 1) := by decide +kernel
theorem dX0_fail_17 : decode cX0_fail 17 = .ok (.return_, 1) := by decide +kernel
theorem dX1_init_0 : decode cX1_init 0 = .ok (.aload_n 0, 1) := by decide +kernel
theorem dX1_init_1 : decode cX1_init 1 = .ok (.iload_n 1, 1) := by decide +kernel
theorem dX1_init_2 : decode cX1_init 2 = .ok (.iload_n 2, 1) := by decide +kernel
theorem dX1_init_3 : decode cX1_init 3 = .ok (.iload_n 3, 1) := by decide +kernel
theorem dX1_init_4 : decode cX1_init 4 = .ok (.iload 4, 2) := by decide +kernel
theorem dX1_init_6 : decode cX1_init 6 = .ok (.invokespecial 3, 3) := by decide +kernel
theorem dX1_init_9 : decode cX1_init 9 = .ok (.return_, 1) := by decide +kernel
theorem dX1_kind_0 : decode cX1_kind 0 = .ok (.iconst 3, 1) := by decide +kernel
theorem dX1_kind_1 : decode cX1_kind 1 = .ok (.ireturn, 1) := by decide +kernel
theorem dX1_nextLook_0 : decode cX1_nextLook 0 = .ok (.iload 4, 2) := by decide +kernel
theorem dX1_nextLook_2 : decode cX1_nextLook 2 = .ok (.ifCond .le 9, 3) := by decide +kernel
theorem dX1_nextLook_5 : decode cX1_nextLook 5 = .ok (.sipush 720, 3) := by decide +kernel
theorem dX1_nextLook_8 : decode cX1_nextLook 8 = .ok (.goto 15, 3) := by decide +kernel
theorem dX1_nextLook_11 : decode cX1_nextLook 11 = .ok (.iload_n 2, 1) := by decide +kernel
theorem dX1_nextLook_12 : decode cX1_nextLook 12 = .ok (.aload_n 1, 1) := by decide +kernel
theorem dX1_nextLook_13 : decode cX1_nextLook 13 = .ok (.getfield 9, 3) := by decide +kernel
theorem dX1_nextLook_16 : decode cX1_nextLook 16 = .ok (.aload_n 1, 1) := by decide +kernel
theorem dX1_nextLook_17 : decode cX1_nextLook 17 = .ok (.getfield 15, 3) := by decide +kernel
theorem dX1_nextLook_20 : decode cX1_nextLook 20 = .ok (.invokestatic 18, 3) := by decide +kernel
theorem dX1_nextLook_23 : decode cX1_nextLook 23 = .ok (.ireturn, 1) := by decide +kernel
theorem dX1_ownSkill_0 : decode cX1_ownSkill 0 = .ok (.aload_n 0, 1) := by decide +kernel
theorem dX1_ownSkill_1 : decode cX1_ownSkill 1 = .ok (.invokespecial 22, 3) := by decide +kernel
theorem dX1_ownSkill_4 : decode cX1_ownSkill 4 = .ok (.aload_n 0, 1) := by decide +kernel
theorem dX1_ownSkill_5 : decode cX1_ownSkill 5 = .ok (.getfield 26, 3) := by decide +kernel
theorem dX1_ownSkill_8 : decode cX1_ownSkill 8 = .ok (.imul, 1) := by decide +kernel
theorem dX1_ownSkill_9 : decode cX1_ownSkill 9 = .ok (.ireturn, 1) := by decide +kernel
theorem dX2_init_0 : decode cX2_init 0 = .ok (.aload_n 0, 1) := by decide +kernel
theorem dX2_init_1 : decode cX2_init 1 = .ok (.iload_n 1, 1) := by decide +kernel
theorem dX2_init_2 : decode cX2_init 2 = .ok (.iload_n 2, 1) := by decide +kernel
theorem dX2_init_3 : decode cX2_init 3 = .ok (.iload_n 3, 1) := by decide +kernel
theorem dX2_init_4 : decode cX2_init 4 = .ok (.iload 4, 2) := by decide +kernel
theorem dX2_init_6 : decode cX2_init 6 = .ok (.invokespecial 3, 3) := by decide +kernel
theorem dX2_init_9 : decode cX2_init 9 = .ok (.return_, 1) := by decide +kernel
theorem dX2_kind_0 : decode cX2_kind 0 = .ok (.iconst 2, 1) := by decide +kernel
theorem dX2_kind_1 : decode cX2_kind 1 = .ok (.ireturn, 1) := by decide +kernel
theorem dX2_nextLook_0 : decode cX2_nextLook 0 = .ok (.iload 4, 2) := by decide +kernel
theorem dX2_nextLook_2 : decode cX2_nextLook 2 = .ok (.ifCond .le 9, 3) := by decide +kernel
theorem dX2_nextLook_5 : decode cX2_nextLook 5 = .ok (.sipush 720, 3) := by decide +kernel
theorem dX2_nextLook_8 : decode cX2_nextLook 8 = .ok (.goto 4, 3) := by decide +kernel
theorem dX2_nextLook_11 : decode cX2_nextLook 11 = .ok (.iload_n 2, 1) := by decide +kernel
theorem dX2_nextLook_12 : decode cX2_nextLook 12 = .ok (.ireturn, 1) := by decide +kernel
theorem dX2_ownSkill_0 : decode cX2_ownSkill 0 = .ok (.aload_n 0, 1) := by decide +kernel
theorem dX2_ownSkill_1 : decode cX2_ownSkill 1 = .ok (.invokespecial 9, 3) := by decide +kernel
theorem dX2_ownSkill_4 : decode cX2_ownSkill 4 = .ok (.iconst 4, 1) := by decide +kernel
theorem dX2_ownSkill_5 : decode cX2_ownSkill 5 = .ok (.iadd, 1) := by decide +kernel
theorem dX2_ownSkill_6 : decode cX2_ownSkill 6 = .ok (.ireturn, 1) := by decide +kernel
theorem dX3_init_0 : decode cX3_init 0 = .ok (.aload_n 0, 1) := by decide +kernel
theorem dX3_init_1 : decode cX3_init 1 = .ok (.invokespecial 3, 3) := by decide +kernel
theorem dX3_init_4 : decode cX3_init 4 = .ok (.aload_n 0, 1) := by decide +kernel
theorem dX3_init_5 : decode cX3_init 5 = .ok (.bipush 13, 2) := by decide +kernel
theorem dX3_init_7 : decode cX3_init 7 = .ok (.newarray .int, 2) := by decide +kernel
theorem dX3_init_9 : decode cX3_init 9 = .ok (.putfield 9, 3) := by decide +kernel
theorem dX3_init_12 : decode cX3_init 12 = .ok (.aload_n 0, 1) := by decide +kernel
theorem dX3_init_13 : decode cX3_init 13 = .ok (.iconst 5, 1) := by decide +kernel
theorem dX3_init_14 : decode cX3_init 14 = .ok (.newarray .int, 2) := by decide +kernel
theorem dX3_init_16 : decode cX3_init 16 = .ok (.putfield 15, 3) := by decide +kernel
theorem dX3_init_19 : decode cX3_init 19 = .ok (.return_, 1) := by decide +kernel
theorem dX3_live_0 : decode cX3_live 0 = .ok (.aload_n 2, 1) := by decide +kernel
theorem dX3_live_1 : decode cX3_live 1 = .ok (.getfield 18, 3) := by decide +kernel
theorem dX3_live_4 : decode cX3_live 4 = .ok (.istore 5, 2) := by decide +kernel
theorem dX3_live_6 : decode cX3_live 6 = .ok (.iconst 0, 1) := by decide +kernel
theorem dX3_live_7 : decode cX3_live 7 = .ok (.istore 6, 2) := by decide +kernel
theorem dX3_live_9 : decode cX3_live 9 = .ok (.iconst 0, 1) := by decide +kernel
theorem dX3_live_10 : decode cX3_live 10 = .ok (.istore 7, 2) := by decide +kernel
theorem dX3_live_12 : decode cX3_live 12 = .ok (.iload 7, 2) := by decide +kernel
theorem dX3_live_14 : decode cX3_live 14 = .ok (.bipush 9, 2) := by decide +kernel
theorem dX3_live_16 : decode cX3_live 16 = .ok (.if_icmp .gt 51, 3) := by decide +kernel
theorem dX3_live_19 : decode cX3_live 19 = .ok (.aload_n 2, 1) := by decide +kernel
theorem dX3_live_20 : decode cX3_live 20 = .ok (.invokevirtual 24, 3) := by decide +kernel
theorem dX3_live_23 : decode cX3_live 23 = .ok (.ifCond .eq 44, 3) := by decide +kernel
theorem dX3_live_26 : decode cX3_live 26 = .ok (.aload_n 0, 1) := by decide +kernel
theorem dX3_live_27 : decode cX3_live 27 = .ok (.aload_n 1, 1) := by decide +kernel
theorem dX3_live_28 : decode cX3_live 28 = .ok (.aload_n 2, 1) := by decide +kernel
theorem dX3_live_29 : decode cX3_live 29 = .ok (.iload 7, 2) := by decide +kernel
theorem dX3_live_31 : decode cX3_live 31 = .ok (.iload_n 3, 1) := by decide +kernel
theorem dX3_live_32 : decode cX3_live 32 = .ok (.iload 4, 2) := by decide +kernel
theorem dX3_live_34 : decode cX3_live 34 = .ok (.invokevirtual 28, 3) := by decide +kernel
theorem dX3_live_37 : decode cX3_live 37 = .ok (.iload 7, 2) := by decide +kernel
theorem dX3_live_39 : decode cX3_live 39 = .ok (.ifCond .eq 12, 3) := by decide +kernel
theorem dX3_live_42 : decode cX3_live 42 = .ok (.aload_n 0, 1) := by decide +kernel
theorem dX3_live_43 : decode cX3_live 43 = .ok (.getfield 32, 3) := by decide +kernel
theorem dX3_live_46 : decode cX3_live 46 = .ok (.iload 6, 2) := by decide +kernel
theorem dX3_live_48 : decode cX3_live 48 = .ok (.if_icmp .ge 13, 3) := by decide +kernel
theorem dX3_live_51 : decode cX3_live 51 = .ok (.iload 7, 2) := by decide +kernel
theorem dX3_live_53 : decode cX3_live 53 = .ok (.istore 5, 2) := by decide +kernel
theorem dX3_live_55 : decode cX3_live 55 = .ok (.aload_n 0, 1) := by decide +kernel
theorem dX3_live_56 : decode cX3_live 56 = .ok (.getfield 32, 3) := by decide +kernel
theorem dX3_live_59 : decode cX3_live 59 = .ok (.istore 6, 2) := by decide +kernel
theorem dX3_live_61 : decode cX3_live 61 = .ok (.iinc 7 1, 3) := by decide +kernel
theorem dX3_live_64 : decode cX3_live 64 = .ok (.goto (-52), 3) := by decide +kernel
theorem dX3_live_67 : decode cX3_live 67 = .ok (.aload_n 0, 1) := by decide +kernel
theorem dX3_live_68 : decode cX3_live 68 = .ok (.aload_n 1, 1) := by decide +kernel
theorem dX3_live_69 : decode cX3_live 69 = .ok (.aload_n 2, 1) := by decide +kernel
theorem dX3_live_70 : decode cX3_live 70 = .ok (.iload 5, 2) := by decide +kernel
theorem dX3_live_72 : decode cX3_live 72 = .ok (.iload_n 3, 1) := by decide +kernel
theorem dX3_live_73 : decode cX3_live 73 = .ok (.iload 4, 2) := by decide +kernel
theorem dX3_live_75 : decode cX3_live 75 = .ok (.invokevirtual 28, 3) := by decide +kernel
theorem dX3_live_78 : decode cX3_live 78 = .ok (.return_, 1) := by decide +kernel
theorem dX3_liveBy_0 : decode cX3_liveBy 0 = .ok (.aload_n 0, 1) := by decide +kernel
theorem dX3_liveBy_1 : decode cX3_liveBy 1 = .ok (.aload_n 1, 1) := by decide +kernel
theorem dX3_liveBy_2 : decode cX3_liveBy 2 = .ok (.putfield 35, 3) := by decide +kernel
theorem dX3_liveBy_5 : decode cX3_liveBy 5 = .ok (.aload_n 0, 1) := by decide +kernel
theorem dX3_liveBy_6 : decode cX3_liveBy 6 = .ok (.iload_n 3, 1) := by decide +kernel
theorem dX3_liveBy_7 : decode cX3_liveBy 7 = .ok (.putfield 39, 3) := by decide +kernel
theorem dX3_liveBy_10 : decode cX3_liveBy 10 = .ok (.aload_n 0, 1) := by decide +kernel
theorem dX3_liveBy_11 : decode cX3_liveBy 11 = .ok (.iload 4, 2) := by decide +kernel
theorem dX3_liveBy_13 : decode cX3_liveBy 13 = .ok (.putfield 40, 3) := by decide +kernel
theorem dX3_liveBy_16 : decode cX3_liveBy 16 = .ok (.aload_n 0, 1) := by decide +kernel
theorem dX3_liveBy_17 : decode cX3_liveBy 17 = .ok (.iload 5, 2) := by decide +kernel
theorem dX3_liveBy_19 : decode cX3_liveBy 19 = .ok (.putfield 43, 3) := by decide +kernel
theorem dX3_liveBy_22 : decode cX3_liveBy 22 = .ok (.aload_n 0, 1) := by decide +kernel
theorem dX3_liveBy_23 : decode cX3_liveBy 23 = .ok (.aload_n 2, 1) := by decide +kernel
theorem dX3_liveBy_24 : decode cX3_liveBy 24 = .ok (.getfield 46, 3) := by decide +kernel
theorem dX3_liveBy_27 : decode cX3_liveBy 27 = .ok (.putfield 49, 3) := by decide +kernel
theorem dX3_liveBy_30 : decode cX3_liveBy 30 = .ok (.aload_n 0, 1) := by decide +kernel
theorem dX3_liveBy_31 : decode cX3_liveBy 31 = .ok (.aload_n 2, 1) := by decide +kernel
theorem dX3_liveBy_32 : decode cX3_liveBy 32 = .ok (.getfield 46, 3) := by decide +kernel
theorem dX3_liveBy_35 : decode cX3_liveBy 35 = .ok (.putfield 52, 3) := by decide +kernel
theorem dX3_liveBy_38 : decode cX3_liveBy 38 = .ok (.aload_n 0, 1) := by decide +kernel
theorem dX3_liveBy_39 : decode cX3_liveBy 39 = .ok (.iconst 0, 1) := by decide +kernel
theorem dX3_liveBy_40 : decode cX3_liveBy 40 = .ok (.putfield 55, 3) := by decide +kernel
theorem dX3_liveBy_43 : decode cX3_liveBy 43 = .ok (.aload_n 0, 1) := by decide +kernel
theorem dX3_liveBy_44 : decode cX3_liveBy 44 = .ok (.iconst 0, 1) := by decide +kernel
theorem dX3_liveBy_45 : decode cX3_liveBy 45 = .ok (.putfield 32, 3) := by decide +kernel
theorem dX3_liveBy_48 : decode cX3_liveBy 48 = .ok (.aload_n 0, 1) := by decide +kernel
theorem dX3_liveBy_49 : decode cX3_liveBy 49 = .ok (.iconst 0, 1) := by decide +kernel
theorem dX3_liveBy_50 : decode cX3_liveBy 50 = .ok (.putfield 58, 3) := by decide +kernel
theorem dX3_liveBy_53 : decode cX3_liveBy 53 = .ok (.aload_n 0, 1) := by decide +kernel
theorem dX3_liveBy_54 : decode cX3_liveBy 54 = .ok (.iconst 0, 1) := by decide +kernel
theorem dX3_liveBy_55 : decode cX3_liveBy 55 = .ok (.putfield 61, 3) := by decide +kernel
theorem dX3_liveBy_58 : decode cX3_liveBy 58 = .ok (.aload_n 0, 1) := by decide +kernel
theorem dX3_liveBy_59 : decode cX3_liveBy 59 = .ok (.iconst 0, 1) := by decide +kernel
theorem dX3_liveBy_60 : decode cX3_liveBy 60 = .ok (.putfield 64, 3) := by decide +kernel
theorem dX3_liveBy_63 : decode cX3_liveBy 63 = .ok (.iconst 0, 1) := by decide +kernel
theorem dX3_liveBy_64 : decode cX3_liveBy 64 = .ok (.istore 6, 2) := by decide +kernel
theorem dX3_liveBy_66 : decode cX3_liveBy 66 = .ok (.iload 6, 2) := by decide +kernel
theorem dX3_liveBy_68 : decode cX3_liveBy 68 = .ok (.iconst 5, 1) := by decide +kernel
theorem dX3_liveBy_69 : decode cX3_liveBy 69 = .ok (.if_icmp .ge 78, 3) := by decide +kernel
theorem dX3_liveBy_72 : decode cX3_liveBy 72 = .ok (.iload 6, 2) := by decide +kernel
theorem dX3_liveBy_74 : decode cX3_liveBy 74 = .ok (.aload_n 1, 1) := by decide +kernel
theorem dX3_liveBy_75 : decode cX3_liveBy 75 = .ok (.getfield 67, 3) := by decide +kernel
theorem dX3_liveBy_78 : decode cX3_liveBy 78 = .ok (.if_icmp .ge 69, 3) := by decide +kernel
theorem dX3_liveBy_81 : decode cX3_liveBy 81 = .ok (.aload_n 1, 1) := by decide +kernel
theorem dX3_liveBy_82 : decode cX3_liveBy 82 = .ok (.getfield 72, 3) := by decide +kernel
theorem dX3_liveBy_85 : decode cX3_liveBy 85 = .ok (.iload 6, 2) := by decide +kernel
theorem dX3_liveBy_87 : decode cX3_liveBy 87 = .ok (.iaload, 1) := by decide +kernel
theorem dX3_liveBy_88 : decode cX3_liveBy 88 = .ok (.aload_n 2, 1) := by decide +kernel
theorem dX3_liveBy_89 : decode cX3_liveBy 89 = .ok (.getfield 46, 3) := by decide +kernel
theorem dX3_liveBy_92 : decode cX3_liveBy 92 = .ok (.if_icmp .ge 15, 3) := by decide +kernel
theorem dX3_liveBy_95 : decode cX3_liveBy 95 = .ok (.aload_n 0, 1) := by decide +kernel
theorem dX3_liveBy_96 : decode cX3_liveBy 96 = .ok (.getfield 15, 3) := by decide +kernel
theorem dX3_liveBy_99 : decode cX3_liveBy 99 = .ok (.iload 6, 2) := by decide +kernel
theorem dX3_liveBy_101 : decode cX3_liveBy 101 = .ok (.bipush (-4), 2) := by decide +kernel
theorem dX3_liveBy_103 : decode cX3_liveBy 103 = .ok (.iastore, 1) := by decide +kernel
theorem dX3_liveBy_104 : decode cX3_liveBy 104 = .ok (.goto 37, 3) := by decide +kernel
theorem dX3_liveBy_107 : decode cX3_liveBy 107 = .ok (.aload_n 0, 1) := by decide +kernel
theorem dX3_liveBy_108 : decode cX3_liveBy 108 = .ok (.iload 6, 2) := by decide +kernel
theorem dX3_liveBy_110 : decode cX3_liveBy 110 = .ok (.aload_n 0, 1) := by decide +kernel
theorem dX3_liveBy_111 : decode cX3_liveBy 111 = .ok (.aload_n 2, 1) := by decide +kernel
theorem dX3_liveBy_112 : decode cX3_liveBy 112 = .ok (.aload_n 1, 1) := by decide +kernel
theorem dX3_liveBy_113 : decode cX3_liveBy 113 = .ok (.getfield 72, 3) := by decide +kernel
theorem dX3_liveBy_116 : decode cX3_liveBy 116 = .ok (.iload 6, 2) := by decide +kernel
theorem dX3_liveBy_118 : decode cX3_liveBy 118 = .ok (.iaload, 1) := by decide +kernel
theorem dX3_liveBy_119 : decode cX3_liveBy 119 = .ok (.aload_n 1, 1) := by decide +kernel
theorem dX3_liveBy_120 : decode cX3_liveBy 120 = .ok (.getfield 75, 3) := by decide +kernel
theorem dX3_liveBy_123 : decode cX3_liveBy 123 = .ok (.iload 6, 2) := by decide +kernel
theorem dX3_liveBy_125 : decode cX3_liveBy 125 = .ok (.iaload, 1) := by decide +kernel
theorem dX3_liveBy_126 : decode cX3_liveBy 126 = .ok (.isub, 1) := by decide +kernel
theorem dX3_liveBy_127 : decode cX3_liveBy 127 = .ok (.invokevirtual 78, 3) := by decide +kernel
theorem dX3_liveBy_130 : decode cX3_liveBy 130 = .ok (.aload_n 1, 1) := by decide +kernel
theorem dX3_liveBy_131 : decode cX3_liveBy 131 = .ok (.getfield 75, 3) := by decide +kernel
theorem dX3_liveBy_134 : decode cX3_liveBy 134 = .ok (.iload 6, 2) := by decide +kernel
theorem dX3_liveBy_136 : decode cX3_liveBy 136 = .ok (.iaload, 1) := by decide +kernel
theorem dX3_liveBy_137 : decode cX3_liveBy 137 = .ok (.iadd, 1) := by decide +kernel
theorem dX3_liveBy_138 : decode cX3_liveBy 138 = .ok (.invokevirtual 82, 3) := by decide +kernel
theorem dX3_liveBy_141 : decode cX3_liveBy 141 = .ok (.iinc 6 1, 3) := by decide +kernel
theorem dX3_liveBy_144 : decode cX3_liveBy 144 = .ok (.goto (-78), 3) := by decide +kernel
theorem dX3_liveBy_147 : decode cX3_liveBy 147 = .ok (.return_, 1) := by decide +kernel
theorem dX3_comeTo_0 : decode cX3_comeTo 0 = .ok (.aload_n 0, 1) := by decide +kernel
theorem dX3_comeTo_1 : decode cX3_comeTo 1 = .ok (.getfield 35, 3) := by decide +kernel
theorem dX3_comeTo_4 : decode cX3_comeTo 4 = .ok (.ifnull 14, 3) := by decide +kernel
theorem dX3_comeTo_7 : decode cX3_comeTo 7 = .ok (.aload_n 0, 1) := by decide +kernel
theorem dX3_comeTo_8 : decode cX3_comeTo 8 = .ok (.getfield 35, 3) := by decide +kernel
theorem dX3_comeTo_11 : decode cX3_comeTo 11 = .ok (.iload_n 1, 1) := by decide +kernel
theorem dX3_comeTo_12 : decode cX3_comeTo 12 = .ok (.invokevirtual 86, 3) := by decide +kernel
theorem dX3_comeTo_15 : decode cX3_comeTo 15 = .ok (.ifCond .ne 4, 3) := by decide +kernel
theorem dX3_comeTo_18 : decode cX3_comeTo 18 = .ok (.return_, 1) := by decide +kernel
theorem dX3_comeTo_19 : decode cX3_comeTo 19 = .ok (.aload_n 0, 1) := by decide +kernel
theorem dX3_comeTo_20 : decode cX3_comeTo 20 = .ok (.getfield 35, 3) := by decide +kernel
theorem dX3_comeTo_23 : decode cX3_comeTo 23 = .ok (.getfield 72, 3) := by decide +kernel
theorem dX3_comeTo_26 : decode cX3_comeTo 26 = .ok (.iload_n 1, 1) := by decide +kernel
theorem dX3_comeTo_27 : decode cX3_comeTo 27 = .ok (.iaload, 1) := by decide +kernel
theorem dX3_comeTo_28 : decode cX3_comeTo 28 = .ok (.istore_n 3, 1) := by decide +kernel
theorem dX3_comeTo_29 : decode cX3_comeTo 29 = .ok (.iconst 0, 1) := by decide +kernel
theorem dX3_comeTo_30 : decode cX3_comeTo 30 = .ok (.iload_n 2, 1) := by decide +kernel
theorem dX3_comeTo_31 : decode cX3_comeTo 31 = .ok (.iload_n 3, 1) := by decide +kernel
theorem dX3_comeTo_32 : decode cX3_comeTo 32 = .ok (.isub, 1) := by decide +kernel
theorem dX3_comeTo_33 : decode cX3_comeTo 33 = .ok (.invokestatic 90, 3) := by decide +kernel
theorem dX3_comeTo_36 : decode cX3_comeTo 36 = .ok (.istore 4, 2) := by decide +kernel
theorem dX3_comeTo_38 : decode cX3_comeTo 38 = .ok (.aload_n 0, 1) := by decide +kernel
theorem dX3_comeTo_39 : decode cX3_comeTo 39 = .ok (.getfield 15, 3) := by decide +kernel
theorem dX3_comeTo_42 : decode cX3_comeTo 42 = .ok (.iload_n 1, 1) := by decide +kernel
theorem dX3_comeTo_43 : decode cX3_comeTo 43 = .ok (.iload_n 2, 1) := by decide +kernel
theorem dX3_comeTo_44 : decode cX3_comeTo 44 = .ok (.iastore, 1) := by decide +kernel
theorem dX3_comeTo_45 : decode cX3_comeTo 45 = .ok (.aload_n 0, 1) := by decide +kernel
theorem dX3_comeTo_46 : decode cX3_comeTo 46 = .ok (.dup, 1) := by decide +kernel
theorem dX3_comeTo_47 : decode cX3_comeTo 47 = .ok (.getfield 58, 3) := by decide +kernel
theorem dX3_comeTo_50 : decode cX3_comeTo 50 = .ok (.iload 4, 2) := by decide +kernel
theorem dX3_comeTo_52 : decode cX3_comeTo 52 = .ok (.iadd, 1) := by decide +kernel
theorem dX3_comeTo_53 : decode cX3_comeTo 53 = .ok (.putfield 58, 3) := by decide +kernel
theorem dX3_comeTo_56 : decode cX3_comeTo 56 = .ok (.aload_n 0, 1) := by decide +kernel
theorem dX3_comeTo_57 : decode cX3_comeTo 57 = .ok (.dup, 1) := by decide +kernel
theorem dX3_comeTo_58 : decode cX3_comeTo 58 = .ok (.getfield 61, 3) := by decide +kernel
theorem dX3_comeTo_61 : decode cX3_comeTo 61 = .ok (.iconst 0, 1) := by decide +kernel
theorem dX3_comeTo_62 : decode cX3_comeTo 62 = .ok (.iload_n 3, 1) := by decide +kernel
theorem dX3_comeTo_63 : decode cX3_comeTo 63 = .ok (.iload_n 2, 1) := by decide +kernel
theorem dX3_comeTo_64 : decode cX3_comeTo 64 = .ok (.isub, 1) := by decide +kernel
theorem dX3_comeTo_65 : decode cX3_comeTo 65 = .ok (.invokestatic 90, 3) := by decide +kernel
theorem dX3_comeTo_68 : decode cX3_comeTo 68 = .ok (.iadd, 1) := by decide +kernel
theorem dX3_comeTo_69 : decode cX3_comeTo 69 = .ok (.putfield 61, 3) := by decide +kernel
theorem dX3_comeTo_72 : decode cX3_comeTo 72 = .ok (.aload_n 0, 1) := by decide +kernel
theorem dX3_comeTo_73 : decode cX3_comeTo 73 = .ok (.dup, 1) := by decide +kernel
theorem dX3_comeTo_74 : decode cX3_comeTo 74 = .ok (.getfield 32, 3) := by decide +kernel
theorem dX3_comeTo_77 : decode cX3_comeTo 77 = .ok (.iload 4, 2) := by decide +kernel
theorem dX3_comeTo_79 : decode cX3_comeTo 79 = .ok (.aload_n 0, 1) := by decide +kernel
theorem dX3_comeTo_80 : decode cX3_comeTo 80 = .ok (.getfield 35, 3) := by decide +kernel
theorem dX3_comeTo_83 : decode cX3_comeTo 83 = .ok (.getfield 96, 3) := by decide +kernel
theorem dX3_comeTo_86 : decode cX3_comeTo 86 = .ok (.iload_n 1, 1) := by decide +kernel
theorem dX3_comeTo_87 : decode cX3_comeTo 87 = .ok (.iaload, 1) := by decide +kernel
theorem dX3_comeTo_88 : decode cX3_comeTo 88 = .ok (.imul, 1) := by decide +kernel
theorem dX3_comeTo_89 : decode cX3_comeTo 89 = .ok (.iadd, 1) := by decide +kernel
theorem dX3_comeTo_90 : decode cX3_comeTo 90 = .ok (.putfield 32, 3) := by decide +kernel
theorem dX3_comeTo_93 : decode cX3_comeTo 93 = .ok (.aload_n 0, 1) := by decide +kernel
theorem dX3_comeTo_94 : decode cX3_comeTo 94 = .ok (.sipush 719, 3) := by decide +kernel
theorem dX3_comeTo_97 : decode cX3_comeTo 97 = .ok (.iload_n 2, 1) := by decide +kernel
theorem dX3_comeTo_98 : decode cX3_comeTo 98 = .ok (.iload_n 3, 1) := by decide +kernel
theorem dX3_comeTo_99 : decode cX3_comeTo 99 = .ok (.invokestatic 90, 3) := by decide +kernel
theorem dX3_comeTo_102 : decode cX3_comeTo 102 = .ok (.invokestatic 98, 3) := by decide +kernel
theorem dX3_comeTo_105 : decode cX3_comeTo 105 = .ok (.putfield 52, 3) := by decide +kernel
theorem dX3_comeTo_108 : decode cX3_comeTo 108 = .ok (.return_, 1) := by decide +kernel
theorem dX3_goingMinute_0 : decode cX3_goingMinute 0 = .ok (.aload_n 0, 1) := by decide +kernel
theorem dX3_goingMinute_1 : decode cX3_goingMinute 1 = .ok (.getfield 52, 3) := by decide +kernel
theorem dX3_goingMinute_4 : decode cX3_goingMinute 4 = .ok (.istore_n 3, 1) := by decide +kernel
theorem dX3_goingMinute_5 : decode cX3_goingMinute 5 = .ok (.aload_n 0, 1) := by decide +kernel
theorem dX3_goingMinute_6 : decode cX3_goingMinute 6 = .ok (.getfield 52, 3) := by decide +kernel
theorem dX3_goingMinute_9 : decode cX3_goingMinute 9 = .ok (.istore 4, 2) := by decide +kernel
theorem dX3_goingMinute_11 : decode cX3_goingMinute 11 = .ok (.iconst 0, 1) := by decide +kernel
theorem dX3_goingMinute_12 : decode cX3_goingMinute 12 = .ok (.istore 5, 2) := by decide +kernel
theorem dX3_goingMinute_14 : decode cX3_goingMinute 14 = .ok (.iload 5, 2) := by decide +kernel
theorem dX3_goingMinute_16 : decode cX3_goingMinute 16 = .ok (.bipush 8, 2) := by decide +kernel
theorem dX3_goingMinute_18 : decode cX3_goingMinute 18 = .ok (.if_icmp .gt 86, 3) := by decide +kernel
theorem dX3_goingMinute_21 : decode cX3_goingMinute 21 = .ok (.sipush 719, 3) := by decide +kernel
theorem dX3_goingMinute_24 : decode cX3_goingMinute 24 = .ok (.aload_n 0, 1) := by decide +kernel
theorem dX3_goingMinute_25 : decode cX3_goingMinute 25 = .ok (.iload_n 3, 1) := by decide +kernel
theorem dX3_goingMinute_26 : decode cX3_goingMinute 26 = .ok (.iload_n 2, 1) := by decide +kernel
theorem dX3_goingMinute_27 : decode cX3_goingMinute 27 = .ok (.aload_n 1, 1) := by decide +kernel
theorem dX3_goingMinute_28 : decode cX3_goingMinute 28 = .ok (.aload_n 0, 1) := by decide +kernel
theorem dX3_goingMinute_29 : decode cX3_goingMinute 29 = .ok (.getfield 39, 3) := by decide +kernel
theorem dX3_goingMinute_32 : decode cX3_goingMinute 32 = .ok (.invokevirtual 101, 3) := by decide +kernel
theorem dX3_goingMinute_35 : decode cX3_goingMinute 35 = .ok (.isub, 1) := by decide +kernel
theorem dX3_goingMinute_36 : decode cX3_goingMinute 36 = .ok (.invokevirtual 105, 3) := by decide +kernel
theorem dX3_goingMinute_39 : decode cX3_goingMinute 39 = .ok (.invokestatic 98, 3) := by decide +kernel
theorem dX3_goingMinute_42 : decode cX3_goingMinute 42 = .ok (.istore 6, 2) := by decide +kernel
theorem dX3_goingMinute_44 : decode cX3_goingMinute 44 = .ok (.aload_n 0, 1) := by decide +kernel
theorem dX3_goingMinute_45 : decode cX3_goingMinute 45 = .ok (.iload_n 3, 1) := by decide +kernel
theorem dX3_goingMinute_46 : decode cX3_goingMinute 46 = .ok (.iload_n 2, 1) := by decide +kernel
theorem dX3_goingMinute_47 : decode cX3_goingMinute 47 = .ok (.iconst 5, 1) := by decide +kernel
theorem dX3_goingMinute_48 : decode cX3_goingMinute 48 = .ok (.aload_n 0, 1) := by decide +kernel
theorem dX3_goingMinute_49 : decode cX3_goingMinute 49 = .ok (.getfield 39, 3) := by decide +kernel
theorem dX3_goingMinute_52 : decode cX3_goingMinute 52 = .ok (.imul, 1) := by decide +kernel
theorem dX3_goingMinute_53 : decode cX3_goingMinute 53 = .ok (.isub, 1) := by decide +kernel
theorem dX3_goingMinute_54 : decode cX3_goingMinute 54 = .ok (.invokevirtual 105, 3) := by decide +kernel
theorem dX3_goingMinute_57 : decode cX3_goingMinute 57 = .ok (.istore 7, 2) := by decide +kernel
theorem dX3_goingMinute_59 : decode cX3_goingMinute 59 = .ok (.aload_n 1, 1) := by decide +kernel
theorem dX3_goingMinute_60 : decode cX3_goingMinute 60 = .ok (.aload_n 0, 1) := by decide +kernel
theorem dX3_goingMinute_61 : decode cX3_goingMinute 61 = .ok (.iload 7, 2) := by decide +kernel
theorem dX3_goingMinute_63 : decode cX3_goingMinute 63 = .ok (.iload 4, 2) := by decide +kernel
theorem dX3_goingMinute_65 : decode cX3_goingMinute 65 = .ok (.iload 5, 2) := by decide +kernel
theorem dX3_goingMinute_67 : decode cX3_goingMinute 67 = .ok (.invokevirtual 108, 3) := by decide +kernel
theorem dX3_goingMinute_70 : decode cX3_goingMinute 70 = .ok (.istore 8, 2) := by decide +kernel
theorem dX3_goingMinute_72 : decode cX3_goingMinute 72 = .ok (.iload 8, 2) := by decide +kernel
theorem dX3_goingMinute_74 : decode cX3_goingMinute 74 = .ok (.iload 6, 2) := by decide +kernel
theorem dX3_goingMinute_76 : decode cX3_goingMinute 76 = .ok (.if_icmp .le 6, 3) := by decide +kernel
theorem dX3_goingMinute_79 : decode cX3_goingMinute 79 = .ok (.iload 6, 2) := by decide +kernel
theorem dX3_goingMinute_81 : decode cX3_goingMinute 81 = .ok (.ireturn, 1) := by decide +kernel
theorem dX3_goingMinute_82 : decode cX3_goingMinute 82 = .ok (.aload_n 0, 1) := by decide +kernel
theorem dX3_goingMinute_83 : decode cX3_goingMinute 83 = .ok (.aload_n 1, 1) := by decide +kernel
theorem dX3_goingMinute_84 : decode cX3_goingMinute 84 = .ok (.iload 8, 2) := by decide +kernel
theorem dX3_goingMinute_86 : decode cX3_goingMinute 86 = .ok (.invokevirtual 112, 3) := by decide +kernel
theorem dX3_goingMinute_89 : decode cX3_goingMinute 89 = .ok (.iload 8, 2) := by decide +kernel
theorem dX3_goingMinute_91 : decode cX3_goingMinute 91 = .ok (.istore_n 3, 1) := by decide +kernel
theorem dX3_goingMinute_92 : decode cX3_goingMinute 92 = .ok (.iload 8, 2) := by decide +kernel
theorem dX3_goingMinute_94 : decode cX3_goingMinute 94 = .ok (.iconst 1, 1) := by decide +kernel
theorem dX3_goingMinute_95 : decode cX3_goingMinute 95 = .ok (.iadd, 1) := by decide +kernel
theorem dX3_goingMinute_96 : decode cX3_goingMinute 96 = .ok (.istore 4, 2) := by decide +kernel
theorem dX3_goingMinute_98 : decode cX3_goingMinute 98 = .ok (.iinc 5 1, 3) := by decide +kernel
theorem dX3_goingMinute_101 : decode cX3_goingMinute 101 = .ok (.goto (-87), 3) := by decide +kernel
theorem dX3_goingMinute_104 : decode cX3_goingMinute 104 = .ok (.sipush 719, 3) := by decide +kernel
theorem dX3_goingMinute_107 : decode cX3_goingMinute 107 = .ok (.ireturn, 1) := by decide +kernel
theorem dX3_lookAt_0 : decode cX3_lookAt 0 = .ok (.aload_n 1, 1) := by decide +kernel
theorem dX3_lookAt_1 : decode cX3_lookAt 1 = .ok (.iload_n 2, 1) := by decide +kernel
theorem dX3_lookAt_2 : decode cX3_lookAt 2 = .ok (.aload_n 0, 1) := by decide +kernel
theorem dX3_lookAt_3 : decode cX3_lookAt 3 = .ok (.getfield 43, 3) := by decide +kernel
theorem dX3_lookAt_6 : decode cX3_lookAt 6 = .ok (.invokestatic 116, 3) := by decide +kernel
theorem dX3_lookAt_9 : decode cX3_lookAt 9 = .ok (.invokevirtual 119, 3) := by decide +kernel
theorem dX3_lookAt_12 : decode cX3_lookAt 12 = .ok (.istore_n 3, 1) := by decide +kernel
theorem dX3_lookAt_13 : decode cX3_lookAt 13 = .ok (.aload_n 0, 1) := by decide +kernel
theorem dX3_lookAt_14 : decode cX3_lookAt 14 = .ok (.dup, 1) := by decide +kernel
theorem dX3_lookAt_15 : decode cX3_lookAt 15 = .ok (.getfield 64, 3) := by decide +kernel
theorem dX3_lookAt_18 : decode cX3_lookAt 18 = .ok (.iload_n 3, 1) := by decide +kernel
theorem dX3_lookAt_19 : decode cX3_lookAt 19 = .ok (.iadd, 1) := by decide +kernel
theorem dX3_lookAt_20 : decode cX3_lookAt 20 = .ok (.putfield 64, 3) := by decide +kernel
theorem dX3_lookAt_23 : decode cX3_lookAt 23 = .ok (.aload_n 0, 1) := by decide +kernel
theorem dX3_lookAt_24 : decode cX3_lookAt 24 = .ok (.dup, 1) := by decide +kernel
theorem dX3_lookAt_25 : decode cX3_lookAt 25 = .ok (.getfield 32, 3) := by decide +kernel
theorem dX3_lookAt_28 : decode cX3_lookAt 28 = .ok (.iload_n 3, 1) := by decide +kernel
theorem dX3_lookAt_29 : decode cX3_lookAt 29 = .ok (.iadd, 1) := by decide +kernel
theorem dX3_lookAt_30 : decode cX3_lookAt 30 = .ok (.putfield 32, 3) := by decide +kernel
theorem dX3_lookAt_33 : decode cX3_lookAt 33 = .ok (.aload_n 0, 1) := by decide +kernel
theorem dX3_lookAt_34 : decode cX3_lookAt 34 = .ok (.iload_n 2, 1) := by decide +kernel
theorem dX3_lookAt_35 : decode cX3_lookAt 35 = .ok (.putfield 49, 3) := by decide +kernel
theorem dX3_lookAt_38 : decode cX3_lookAt 38 = .ok (.aload_n 0, 1) := by decide +kernel
theorem dX3_lookAt_39 : decode cX3_lookAt 39 = .ok (.getfield 55, 3) := by decide +kernel
theorem dX3_lookAt_42 : decode cX3_lookAt 42 = .ok (.ifCond .lt 32, 3) := by decide +kernel
theorem dX3_lookAt_45 : decode cX3_lookAt 45 = .ok (.aload_n 0, 1) := by decide +kernel
theorem dX3_lookAt_46 : decode cX3_lookAt 46 = .ok (.getfield 55, 3) := by decide +kernel
theorem dX3_lookAt_49 : decode cX3_lookAt 49 = .ok (.bipush 13, 2) := by decide +kernel
theorem dX3_lookAt_51 : decode cX3_lookAt 51 = .ok (.if_icmp .ge 23, 3) := by decide +kernel
theorem dX3_lookAt_54 : decode cX3_lookAt 54 = .ok (.aload_n 0, 1) := by decide +kernel
theorem dX3_lookAt_55 : decode cX3_lookAt 55 = .ok (.getfield 9, 3) := by decide +kernel
theorem dX3_lookAt_58 : decode cX3_lookAt 58 = .ok (.aload_n 0, 1) := by decide +kernel
theorem dX3_lookAt_59 : decode cX3_lookAt 59 = .ok (.getfield 55, 3) := by decide +kernel
theorem dX3_lookAt_62 : decode cX3_lookAt 62 = .ok (.iload_n 2, 1) := by decide +kernel
theorem dX3_lookAt_63 : decode cX3_lookAt 63 = .ok (.iastore, 1) := by decide +kernel
theorem dX3_lookAt_64 : decode cX3_lookAt 64 = .ok (.aload_n 0, 1) := by decide +kernel
theorem dX3_lookAt_65 : decode cX3_lookAt 65 = .ok (.dup, 1) := by decide +kernel
theorem dX3_lookAt_66 : decode cX3_lookAt 66 = .ok (.getfield 55, 3) := by decide +kernel
theorem dX3_lookAt_69 : decode cX3_lookAt 69 = .ok (.iconst 1, 1) := by decide +kernel
theorem dX3_lookAt_70 : decode cX3_lookAt 70 = .ok (.iadd, 1) := by decide +kernel
theorem dX3_lookAt_71 : decode cX3_lookAt 71 = .ok (.putfield 55, 3) := by decide +kernel
theorem dX3_lookAt_74 : decode cX3_lookAt 74 = .ok (.return_, 1) := by decide +kernel
theorem dX3_lookNumbered_0 : decode cX3_lookNumbered 0 = .ok (.iload_n 1, 1) := by decide +kernel
theorem dX3_lookNumbered_1 : decode cX3_lookNumbered 1 = .ok (.ifCond .lt 26, 3) := by decide +kernel
theorem dX3_lookNumbered_4 : decode cX3_lookNumbered 4 = .ok (.iload_n 1, 1) := by decide +kernel
theorem dX3_lookNumbered_5 : decode cX3_lookNumbered 5 = .ok (.bipush 13, 2) := by decide +kernel
theorem dX3_lookNumbered_7 : decode cX3_lookNumbered 7 = .ok (.if_icmp .ge 20, 3) := by decide +kernel
theorem dX3_lookNumbered_10 : decode cX3_lookNumbered 10 = .ok (.iload_n 1, 1) := by decide +kernel
theorem dX3_lookNumbered_11 : decode cX3_lookNumbered 11 = .ok (.aload_n 0, 1) := by decide +kernel
theorem dX3_lookNumbered_12 : decode cX3_lookNumbered 12 = .ok (.getfield 55, 3) := by decide +kernel
theorem dX3_lookNumbered_15 : decode cX3_lookNumbered 15 = .ok (.if_icmp .ge 12, 3) := by decide +kernel
theorem dX3_lookNumbered_18 : decode cX3_lookNumbered 18 = .ok (.aload_n 0, 1) := by decide +kernel
theorem dX3_lookNumbered_19 : decode cX3_lookNumbered 19 = .ok (.getfield 9, 3) := by decide +kernel
theorem dX3_lookNumbered_22 : decode cX3_lookNumbered 22 = .ok (.iload_n 1, 1) := by decide +kernel
theorem dX3_lookNumbered_23 : decode cX3_lookNumbered 23 = .ok (.iaload, 1) := by decide +kernel
theorem dX3_lookNumbered_24 : decode cX3_lookNumbered 24 = .ok (.goto 5, 3) := by decide +kernel
theorem dX3_lookNumbered_27 : decode cX3_lookNumbered 27 = .ok (.bipush (-4), 2) := by decide +kernel
theorem dX3_lookNumbered_29 : decode cX3_lookNumbered 29 = .ok (.ireturn, 1) := by decide +kernel
theorem dX3_firstThinking_0 : decode cX3_firstThinking 0 = .ok (.iload_n 1, 1) := by decide +kernel
theorem dX3_firstThinking_1 : decode cX3_firstThinking 1 = .ok (.istore_n 3, 1) := by decide +kernel
theorem dX3_firstThinking_2 : decode cX3_firstThinking 2 = .ok (.sipush 720, 3) := by decide +kernel
theorem dX3_firstThinking_5 : decode cX3_firstThinking 5 = .ok (.istore 4, 2) := by decide +kernel
theorem dX3_firstThinking_7 : decode cX3_firstThinking 7 = .ok (.iconst 0, 1) := by decide +kernel
theorem dX3_firstThinking_8 : decode cX3_firstThinking 8 = .ok (.istore 5, 2) := by decide +kernel
theorem dX3_firstThinking_10 : decode cX3_firstThinking 10 = .ok (.iload 5, 2) := by decide +kernel
theorem dX3_firstThinking_12 : decode cX3_firstThinking 12 = .ok (.bipush 10, 2) := by decide +kernel
theorem dX3_firstThinking_14 : decode cX3_firstThinking 14 = .ok (.if_icmp .ge 52, 3) := by decide +kernel
theorem dX3_firstThinking_17 : decode cX3_firstThinking 17 = .ok (.iload_n 3, 1) := by decide +kernel
theorem dX3_firstThinking_18 : decode cX3_firstThinking 18 = .ok (.iload 4, 2) := by decide +kernel
theorem dX3_firstThinking_20 : decode cX3_firstThinking 20 = .ok (.if_icmp .ge 46, 3) := by decide +kernel
theorem dX3_firstThinking_23 : decode cX3_firstThinking 23 = .ok (.iload_n 3, 1) := by decide +kernel
theorem dX3_firstThinking_24 : decode cX3_firstThinking 24 = .ok (.iload 4, 2) := by decide +kernel
theorem dX3_firstThinking_26 : decode cX3_firstThinking 26 = .ok (.iadd, 1) := by decide +kernel
theorem dX3_firstThinking_27 : decode cX3_firstThinking 27 = .ok (.iconst 2, 1) := by decide +kernel
theorem dX3_firstThinking_28 : decode cX3_firstThinking 28 = .ok (.idiv, 1) := by decide +kernel
theorem dX3_firstThinking_29 : decode cX3_firstThinking 29 = .ok (.istore 6, 2) := by decide +kernel
theorem dX3_firstThinking_31 : decode cX3_firstThinking 31 = .ok (.aload_n 0, 1) := by decide +kernel
theorem dX3_firstThinking_32 : decode cX3_firstThinking 32 = .ok (.getfield 40, 3) := by decide +kernel
theorem dX3_firstThinking_35 : decode cX3_firstThinking 35 = .ok (.aload_n 0, 1) := by decide +kernel
theorem dX3_firstThinking_36 : decode cX3_firstThinking 36 = .ok (.getfield 49, 3) := by decide +kernel
theorem dX3_firstThinking_39 : decode cX3_firstThinking 39 = .ok (.iload 6, 2) := by decide +kernel
theorem dX3_firstThinking_41 : decode cX3_firstThinking 41 = .ok (.invokestatic 122, 3) := by decide +kernel
theorem dX3_firstThinking_44 : decode cX3_firstThinking 44 = .ok (.iload_n 2, 1) := by decide +kernel
theorem dX3_firstThinking_45 : decode cX3_firstThinking 45 = .ok (.if_icmp .lt 10, 3) := by decide +kernel
theorem dX3_firstThinking_48 : decode cX3_firstThinking 48 = .ok (.iload 6, 2) := by decide +kernel
theorem dX3_firstThinking_50 : decode cX3_firstThinking 50 = .ok (.istore 4, 2) := by decide +kernel
theorem dX3_firstThinking_52 : decode cX3_firstThinking 52 = .ok (.goto 8, 3) := by decide +kernel
theorem dX3_firstThinking_55 : decode cX3_firstThinking 55 = .ok (.iload 6, 2) := by decide +kernel
theorem dX3_firstThinking_57 : decode cX3_firstThinking 57 = .ok (.iconst 1, 1) := by decide +kernel
theorem dX3_firstThinking_58 : decode cX3_firstThinking 58 = .ok (.iadd, 1) := by decide +kernel
theorem dX3_firstThinking_59 : decode cX3_firstThinking 59 = .ok (.istore_n 3, 1) := by decide +kernel
theorem dX3_firstThinking_60 : decode cX3_firstThinking 60 = .ok (.iinc 5 1, 3) := by decide +kernel
theorem dX3_firstThinking_63 : decode cX3_firstThinking 63 = .ok (.goto (-53), 3) := by decide +kernel
theorem dX3_firstThinking_66 : decode cX3_firstThinking 66 = .ok (.iload_n 3, 1) := by decide +kernel
theorem dX3_firstThinking_67 : decode cX3_firstThinking 67 = .ok (.ireturn, 1) := by decide +kernel
theorem dX4_init_0 : decode cX4_init 0 = .ok (.aload_n 0, 1) := by decide +kernel
theorem dX4_init_1 : decode cX4_init 1 = .ok (.invokespecial 3, 3) := by decide +kernel
theorem dX4_init_4 : decode cX4_init 4 = .ok (.aload_n 0, 1) := by decide +kernel
theorem dX4_init_5 : decode cX4_init 5 = .ok (.iload_n 1, 1) := by decide +kernel
theorem dX4_init_6 : decode cX4_init 6 = .ok (.putfield 9, 3) := by decide +kernel
theorem dX4_init_9 : decode cX4_init 9 = .ok (.aload_n 0, 1) := by decide +kernel
theorem dX4_init_10 : decode cX4_init 10 = .ok (.iload_n 2, 1) := by decide +kernel
theorem dX4_init_11 : decode cX4_init 11 = .ok (.putfield 15, 3) := by decide +kernel
theorem dX4_init_14 : decode cX4_init 14 = .ok (.aload_n 0, 1) := by decide +kernel
theorem dX4_init_15 : decode cX4_init 15 = .ok (.iload_n 3, 1) := by decide +kernel
theorem dX4_init_16 : decode cX4_init 16 = .ok (.putfield 18, 3) := by decide +kernel
theorem dX4_init_19 : decode cX4_init 19 = .ok (.aload_n 0, 1) := by decide +kernel
theorem dX4_init_20 : decode cX4_init 20 = .ok (.iload 4, 2) := by decide +kernel
theorem dX4_init_22 : decode cX4_init 22 = .ok (.putfield 21, 3) := by decide +kernel
theorem dX4_init_25 : decode cX4_init 25 = .ok (.return_, 1) := by decide +kernel
theorem dX4_kind_0 : decode cX4_kind 0 = .ok (.iconst 0, 1) := by decide +kernel
theorem dX4_kind_1 : decode cX4_kind 1 = .ok (.ireturn, 1) := by decide +kernel
theorem dX4_early_0 : decode cX4_early 0 = .ok (.iconst 0, 1) := by decide +kernel
theorem dX4_early_1 : decode cX4_early 1 = .ok (.ireturn, 1) := by decide +kernel
theorem dX4_nextLook_0 : decode cX4_nextLook 0 = .ok (.sipush 720, 3) := by decide +kernel
theorem dX4_nextLook_3 : decode cX4_nextLook 3 = .ok (.ireturn, 1) := by decide +kernel
theorem dX4_fee_0 : decode cX4_fee 0 = .ok (.iload_n 1, 1) := by decide +kernel
theorem dX4_fee_1 : decode cX4_fee 1 = .ok (.ireturn, 1) := by decide +kernel
theorem dX4_choosesFigure_0 : decode cX4_choosesFigure 0 = .ok (.iconst 0, 1) := by decide +kernel
theorem dX4_choosesFigure_1 : decode cX4_choosesFigure 1 = .ok (.ireturn, 1) := by decide +kernel
theorem dX4_ownSkill_0 : decode cX4_ownSkill 0 = .ok (.iconst 1, 1) := by decide +kernel
theorem dX4_ownSkill_1 : decode cX4_ownSkill 1 = .ok (.ireturn, 1) := by decide +kernel
theorem dX4_fail_0 : decode cX4_fail 0 = .ok (.aload_n 0, 1) := by decide +kernel
theorem dX4_fail_1 : decode cX4_fail 1 = .ok (.getfield 15, 3) := by decide +kernel
theorem dX4_fail_4 : decode cX4_fail 4 = .ok (.ifCond .eq 13, 3) := by decide +kernel
theorem dX4_fail_7 : decode cX4_fail 7 = .ok (.new 24, 3) := by decide +kernel
theorem dX4_fail_10 : decode cX4_fail 10 = .ok (.dup, 1) := by decide +kernel
theorem dX4_fail_11 : decode cX4_fail 11 = .ok (.ldc 26, 2) := by decide +kernel
theorem dX4_fail_13 : decode cX4_fail 13 = .ok (.invokespecial 28, 3) := by decide +kernel
theorem dX4_fail_16 : decode cX4_fail 16 = .ok (.athrow, 1) := by decide +kernel
theorem dX4_fail_17 : decode cX4_fail 17 = .ok (.return_, 1) := by decide +kernel
theorem dX5_init_0 : decode cX5_init 0 = .ok (.aload_n 0, 1) := by decide +kernel
theorem dX5_init_1 : decode cX5_init 1 = .ok (.iload_n 1, 1) := by decide +kernel
theorem dX5_init_2 : decode cX5_init 2 = .ok (.iload_n 2, 1) := by decide +kernel
theorem dX5_init_3 : decode cX5_init 3 = .ok (.iload_n 3, 1) := by decide +kernel
theorem dX5_init_4 : decode cX5_init 4 = .ok (.iload 4, 2) := by decide +kernel
theorem dX5_init_6 : decode cX5_init 6 = .ok (.invokespecial 1, 3) := by decide +kernel
theorem dX5_init_9 : decode cX5_init 9 = .ok (.return_, 1) := by decide +kernel
theorem dX5_kind_0 : decode cX5_kind 0 = .ok (.iconst 1, 1) := by decide +kernel
theorem dX5_kind_1 : decode cX5_kind 1 = .ok (.ireturn, 1) := by decide +kernel
theorem dX5_early_0 : decode cX5_early 0 = .ok (.iconst 2, 1) := by decide +kernel
theorem dX5_early_1 : decode cX5_early 1 = .ok (.iload_n 1, 1) := by decide +kernel
theorem dX5_early_2 : decode cX5_early 2 = .ok (.imul, 1) := by decide +kernel
theorem dX5_early_3 : decode cX5_early 3 = .ok (.ireturn, 1) := by decide +kernel
theorem dX5_ownSkill_0 : decode cX5_ownSkill 0 = .ok (.aload_n 0, 1) := by decide +kernel
theorem dX5_ownSkill_1 : decode cX5_ownSkill 1 = .ok (.invokespecial 7, 3) := by decide +kernel
theorem dX5_ownSkill_4 : decode cX5_ownSkill 4 = .ok (.aload_n 0, 1) := by decide +kernel
theorem dX5_ownSkill_5 : decode cX5_ownSkill 5 = .ok (.getfield 11, 3) := by decide +kernel
theorem dX5_ownSkill_8 : decode cX5_ownSkill 8 = .ok (.iadd, 1) := by decide +kernel
theorem dX5_ownSkill_9 : decode cX5_ownSkill 9 = .ok (.ireturn, 1) := by decide +kernel
theorem dX6_init_0 : decode cX6_init 0 = .ok (.aload_n 0, 1) := by decide +kernel
theorem dX6_init_1 : decode cX6_init 1 = .ok (.invokespecial 3, 3) := by decide +kernel
theorem dX6_init_4 : decode cX6_init 4 = .ok (.aload_n 0, 1) := by decide +kernel
theorem dX6_init_5 : decode cX6_init 5 = .ok (.bipush 100, 2) := by decide +kernel
theorem dX6_init_7 : decode cX6_init 7 = .ok (.newarray .int, 2) := by decide +kernel
theorem dX6_init_9 : decode cX6_init 9 = .ok (.putfield 9, 3) := by decide +kernel
theorem dX6_init_12 : decode cX6_init 12 = .ok (.return_, 1) := by decide +kernel
theorem dX6_begin_0 : decode cX6_begin 0 = .ok (.aload_n 0, 1) := by decide +kernel
theorem dX6_begin_1 : decode cX6_begin 1 = .ok (.iload_n 1, 1) := by decide +kernel
theorem dX6_begin_2 : decode cX6_begin 2 = .ok (.putfield 15, 3) := by decide +kernel
theorem dX6_begin_5 : decode cX6_begin 5 = .ok (.aload_n 0, 1) := by decide +kernel
theorem dX6_begin_6 : decode cX6_begin 6 = .ok (.iload_n 2, 1) := by decide +kernel
theorem dX6_begin_7 : decode cX6_begin 7 = .ok (.putfield 19, 3) := by decide +kernel
theorem dX6_begin_10 : decode cX6_begin 10 = .ok (.aload_n 0, 1) := by decide +kernel
theorem dX6_begin_11 : decode cX6_begin 11 = .ok (.getfield 9, 3) := by decide +kernel
theorem dX6_begin_14 : decode cX6_begin 14 = .ok (.iconst 0, 1) := by decide +kernel
theorem dX6_begin_15 : decode cX6_begin 15 = .ok (.invokestatic 22, 3) := by decide +kernel
theorem dX6_begin_18 : decode cX6_begin 18 = .ok (.return_, 1) := by decide +kernel
theorem dX6_hasPlace_0 : decode cX6_hasPlace 0 = .ok (.iload_n 1, 1) := by decide +kernel
theorem dX6_hasPlace_1 : decode cX6_hasPlace 1 = .ok (.ifCond .lt 21, 3) := by decide +kernel
theorem dX6_hasPlace_4 : decode cX6_hasPlace 4 = .ok (.iload_n 1, 1) := by decide +kernel
theorem dX6_hasPlace_5 : decode cX6_hasPlace 5 = .ok (.bipush 100, 2) := by decide +kernel
theorem dX6_hasPlace_7 : decode cX6_hasPlace 7 = .ok (.if_icmp .ge 15, 3) := by decide +kernel
theorem dX6_hasPlace_10 : decode cX6_hasPlace 10 = .ok (.iload_n 1, 1) := by decide +kernel
theorem dX6_hasPlace_11 : decode cX6_hasPlace 11 = .ok (.aload_n 0, 1) := by decide +kernel
theorem dX6_hasPlace_12 : decode cX6_hasPlace 12 = .ok (.getfield 19, 3) := by decide +kernel
theorem dX6_hasPlace_15 : decode cX6_hasPlace 15 = .ok (.if_icmp .ge 7, 3) := by decide +kernel
theorem dX6_hasPlace_18 : decode cX6_hasPlace 18 = .ok (.iconst 1, 1) := by decide +kernel
theorem dX6_hasPlace_19 : decode cX6_hasPlace 19 = .ok (.goto 4, 3) := by decide +kernel
theorem dX6_hasPlace_22 : decode cX6_hasPlace 22 = .ok (.iconst 0, 1) := by decide +kernel
theorem dX6_hasPlace_23 : decode cX6_hasPlace 23 = .ok (.ireturn, 1) := by decide +kernel
theorem dX6_hasPlaces_0 : decode cX6_hasPlaces 0 = .ok (.iload_n 1, 1) := by decide +kernel
theorem dX6_hasPlaces_1 : decode cX6_hasPlaces 1 = .ok (.ifCond .lt 29, 3) := by decide +kernel
theorem dX6_hasPlaces_4 : decode cX6_hasPlaces 4 = .ok (.iload_n 2, 1) := by decide +kernel
theorem dX6_hasPlaces_5 : decode cX6_hasPlaces 5 = .ok (.ifCond .lt 25, 3) := by decide +kernel
theorem dX6_hasPlaces_8 : decode cX6_hasPlaces 8 = .ok (.iload_n 2, 1) := by decide +kernel
theorem dX6_hasPlaces_9 : decode cX6_hasPlaces 9 = .ok (.aload_n 0, 1) := by decide +kernel
theorem dX6_hasPlaces_10 : decode cX6_hasPlaces 10 = .ok (.getfield 19, 3) := by decide +kernel
theorem dX6_hasPlaces_13 : decode cX6_hasPlaces 13 = .ok (.if_icmp .gt 17, 3) := by decide +kernel
theorem dX6_hasPlaces_16 : decode cX6_hasPlaces 16 = .ok (.iload_n 1, 1) := by decide +kernel
theorem dX6_hasPlaces_17 : decode cX6_hasPlaces 17 = .ok (.aload_n 0, 1) := by decide +kernel
theorem dX6_hasPlaces_18 : decode cX6_hasPlaces 18 = .ok (.getfield 19, 3) := by decide +kernel
theorem dX6_hasPlaces_21 : decode cX6_hasPlaces 21 = .ok (.iload_n 2, 1) := by decide +kernel
theorem dX6_hasPlaces_22 : decode cX6_hasPlaces 22 = .ok (.isub, 1) := by decide +kernel
theorem dX6_hasPlaces_23 : decode cX6_hasPlaces 23 = .ok (.if_icmp .gt 7, 3) := by decide +kernel
theorem dX6_hasPlaces_26 : decode cX6_hasPlaces 26 = .ok (.iconst 1, 1) := by decide +kernel
theorem dX6_hasPlaces_27 : decode cX6_hasPlaces 27 = .ok (.goto 4, 3) := by decide +kernel
theorem dX6_hasPlaces_30 : decode cX6_hasPlaces 30 = .ok (.iconst 0, 1) := by decide +kernel
theorem dX6_hasPlaces_31 : decode cX6_hasPlaces 31 = .ok (.ireturn, 1) := by decide +kernel
theorem dX6_valueAt_0 : decode cX6_valueAt 0 = .ok (.aload_n 0, 1) := by decide +kernel
theorem dX6_valueAt_1 : decode cX6_valueAt 1 = .ok (.iload_n 1, 1) := by decide +kernel
theorem dX6_valueAt_2 : decode cX6_valueAt 2 = .ok (.invokevirtual 28, 3) := by decide +kernel
theorem dX6_valueAt_5 : decode cX6_valueAt 5 = .ok (.ifCond .eq 12, 3) := by decide +kernel
theorem dX6_valueAt_8 : decode cX6_valueAt 8 = .ok (.aload_n 0, 1) := by decide +kernel
theorem dX6_valueAt_9 : decode cX6_valueAt 9 = .ok (.getfield 9, 3) := by decide +kernel
theorem dX6_valueAt_12 : decode cX6_valueAt 12 = .ok (.iload_n 1, 1) := by decide +kernel
theorem dX6_valueAt_13 : decode cX6_valueAt 13 = .ok (.iaload, 1) := by decide +kernel
theorem dX6_valueAt_14 : decode cX6_valueAt 14 = .ok (.goto 4, 3) := by decide +kernel
theorem dX6_valueAt_17 : decode cX6_valueAt 17 = .ok (.iconst 0, 1) := by decide +kernel
theorem dX6_valueAt_18 : decode cX6_valueAt 18 = .ok (.ireturn, 1) := by decide +kernel
theorem dX6_putIn_0 : decode cX6_putIn 0 = .ok (.aload_n 0, 1) := by decide +kernel
theorem dX6_putIn_1 : decode cX6_putIn 1 = .ok (.iload_n 1, 1) := by decide +kernel
theorem dX6_putIn_2 : decode cX6_putIn 2 = .ok (.invokevirtual 28, 3) := by decide +kernel
theorem dX6_putIn_5 : decode cX6_putIn 5 = .ok (.ifCond .ne 4, 3) := by decide +kernel
theorem dX6_putIn_8 : decode cX6_putIn 8 = .ok (.return_, 1) := by decide +kernel
theorem dX6_putIn_9 : decode cX6_putIn 9 = .ok (.aload_n 0, 1) := by decide +kernel
theorem dX6_putIn_10 : decode cX6_putIn 10 = .ok (.getfield 9, 3) := by decide +kernel
theorem dX6_putIn_13 : decode cX6_putIn 13 = .ok (.iload_n 1, 1) := by decide +kernel
theorem dX6_putIn_14 : decode cX6_putIn 14 = .ok (.aload_n 0, 1) := by decide +kernel
theorem dX6_putIn_15 : decode cX6_putIn 15 = .ok (.getfield 15, 3) := by decide +kernel
theorem dX6_putIn_18 : decode cX6_putIn 18 = .ok (.ifCond .ne 8, 3) := by decide +kernel
theorem dX6_putIn_21 : decode cX6_putIn 21 = .ok (.iload_n 2, 1) := by decide +kernel
theorem dX6_putIn_22 : decode cX6_putIn 22 = .ok (.i2b, 1) := by decide +kernel
theorem dX6_putIn_23 : decode cX6_putIn 23 = .ok (.goto 17, 3) := by decide +kernel
theorem dX6_putIn_26 : decode cX6_putIn 26 = .ok (.aload_n 0, 1) := by decide +kernel
theorem dX6_putIn_27 : decode cX6_putIn 27 = .ok (.getfield 15, 3) := by decide +kernel
theorem dX6_putIn_30 : decode cX6_putIn 30 = .ok (.iconst 1, 1) := by decide +kernel
theorem dX6_putIn_31 : decode cX6_putIn 31 = .ok (.if_icmp .ne 8, 3) := by decide +kernel
theorem dX6_putIn_34 : decode cX6_putIn 34 = .ok (.iload_n 2, 1) := by decide +kernel
theorem dX6_putIn_35 : decode cX6_putIn 35 = .ok (.i2s, 1) := by decide +kernel
theorem dX6_putIn_36 : decode cX6_putIn 36 = .ok (.goto 4, 3) := by decide +kernel
theorem dX6_putIn_39 : decode cX6_putIn 39 = .ok (.iload_n 2, 1) := by decide +kernel
theorem dX6_putIn_40 : decode cX6_putIn 40 = .ok (.iastore, 1) := by decide +kernel
theorem dX6_putIn_41 : decode cX6_putIn 41 = .ok (.return_, 1) := by decide +kernel
theorem dX6_leastOfSort_0 : decode cX6_leastOfSort 0 = .ok (.aload_n 0, 1) := by decide +kernel
theorem dX6_leastOfSort_1 : decode cX6_leastOfSort 1 = .ok (.getfield 15, 3) := by decide +kernel
theorem dX6_leastOfSort_4 : decode cX6_leastOfSort 4 = .ok (.ifCond .ne 8, 3) := by decide +kernel
theorem dX6_leastOfSort_7 : decode cX6_leastOfSort 7 = .ok (.bipush (-128), 2) := by decide +kernel
theorem dX6_leastOfSort_9 : decode cX6_leastOfSort 9 = .ok (.goto 19, 3) := by decide +kernel
theorem dX6_leastOfSort_12 : decode cX6_leastOfSort 12 = .ok (.aload_n 0, 1) := by decide +kernel
theorem dX6_leastOfSort_13 : decode cX6_leastOfSort 13 = .ok (.getfield 15, 3) := by decide +kernel
theorem dX6_leastOfSort_16 : decode cX6_leastOfSort 16 = .ok (.iconst 1, 1) := by decide +kernel
theorem dX6_leastOfSort_17 : decode cX6_leastOfSort 17 = .ok (.if_icmp .ne 9, 3) := by decide +kernel
theorem dX6_leastOfSort_20 : decode cX6_leastOfSort 20 = .ok (.sipush (-32768), 3) := by decide +kernel
theorem dX6_leastOfSort_23 : decode cX6_leastOfSort 23 = .ok (.goto 5, 3) := by decide +kernel
theorem dX6_leastOfSort_26 : decode cX6_leastOfSort 26 = .ok (.ldc 32, 2) := by decide +kernel
theorem dX6_leastOfSort_28 : decode cX6_leastOfSort 28 = .ok (.ireturn, 1) := by decide +kernel
theorem dX7_init_0 : decode cX7_init 0 = .ok (.aload_n 0, 1) := by decide +kernel
theorem dX7_init_1 : decode cX7_init 1 = .ok (.iload_n 1, 1) := by decide +kernel
theorem dX7_init_2 : decode cX7_init 2 = .ok (.iload_n 2, 1) := by decide +kernel
theorem dX7_init_3 : decode cX7_init 3 = .ok (.iload_n 3, 1) := by decide +kernel
theorem dX7_init_4 : decode cX7_init 4 = .ok (.iload 4, 2) := by decide +kernel
theorem dX7_init_6 : decode cX7_init 6 = .ok (.invokespecial 1, 3) := by decide +kernel
theorem dX7_init_9 : decode cX7_init 9 = .ok (.return_, 1) := by decide +kernel
theorem dX7_kind_0 : decode cX7_kind 0 = .ok (.bipush 7, 2) := by decide +kernel
theorem dX7_kind_2 : decode cX7_kind 2 = .ok (.ireturn, 1) := by decide +kernel
theorem dX7_fee_0 : decode cX7_fee 0 = .ok (.iconst 0, 1) := by decide +kernel
theorem dX7_fee_1 : decode cX7_fee 1 = .ok (.iload_n 1, 1) := by decide +kernel
theorem dX7_fee_2 : decode cX7_fee 2 = .ok (.iconst 2, 1) := by decide +kernel
theorem dX7_fee_3 : decode cX7_fee 3 = .ok (.isub, 1) := by decide +kernel
theorem dX7_fee_4 : decode cX7_fee 4 = .ok (.invokestatic 7, 3) := by decide +kernel
theorem dX7_fee_7 : decode cX7_fee 7 = .ok (.ireturn, 1) := by decide +kernel
theorem dX7_ownSkill_0 : decode cX7_ownSkill 0 = .ok (.aload_n 0, 1) := by decide +kernel
theorem dX7_ownSkill_1 : decode cX7_ownSkill 1 = .ok (.invokespecial 13, 3) := by decide +kernel
theorem dX7_ownSkill_4 : decode cX7_ownSkill 4 = .ok (.bipush 9, 2) := by decide +kernel
theorem dX7_ownSkill_6 : decode cX7_ownSkill 6 = .ok (.iadd, 1) := by decide +kernel
theorem dX7_ownSkill_7 : decode cX7_ownSkill 7 = .ok (.ireturn, 1) := by decide +kernel
theorem dX7_fail_0 : decode cX7_fail 0 = .ok (.aload_n 0, 1) := by decide +kernel
theorem dX7_fail_1 : decode cX7_fail 1 = .ok (.getfield 17, 3) := by decide +kernel
theorem dX7_fail_4 : decode cX7_fail 4 = .ok (.ifCond .eq 13, 3) := by decide +kernel
theorem dX7_fail_7 : decode cX7_fail 7 = .ok (.new 23, 3) := by decide +kernel
theorem dX7_fail_10 : decode cX7_fail 10 = .ok (.dup, 1) := by decide +kernel
theorem dX7_fail_11 : decode cX7_fail 11 = .ok (.ldc 25, 2) := by decide +kernel
theorem dX7_fail_13 : decode cX7_fail 13 = .ok (.invokespecial 27, 3) := by decide +kernel
theorem dX7_fail_16 : decode cX7_fail 16 = .ok (.athrow, 1) := by decide +kernel
theorem dX7_fail_17 : decode cX7_fail 17 = .ok (.return_, 1) := by decide +kernel
theorem dX8_init_0 : decode cX8_init 0 = .ok (.aload_n 0, 1) := by decide +kernel
theorem dX8_init_1 : decode cX8_init 1 = .ok (.iload_n 1, 1) := by decide +kernel
theorem dX8_init_2 : decode cX8_init 2 = .ok (.iload_n 2, 1) := by decide +kernel
theorem dX8_init_3 : decode cX8_init 3 = .ok (.iload_n 3, 1) := by decide +kernel
theorem dX8_init_4 : decode cX8_init 4 = .ok (.iload 4, 2) := by decide +kernel
theorem dX8_init_6 : decode cX8_init 6 = .ok (.invokespecial 1, 3) := by decide +kernel
theorem dX8_init_9 : decode cX8_init 9 = .ok (.return_, 1) := by decide +kernel
theorem dX8_kind_0 : decode cX8_kind 0 = .ok (.iconst 5, 1) := by decide +kernel
theorem dX8_kind_1 : decode cX8_kind 1 = .ok (.ireturn, 1) := by decide +kernel
theorem dX8_fee_0 : decode cX8_fee 0 = .ok (.iload_n 1, 1) := by decide +kernel
theorem dX8_fee_1 : decode cX8_fee 1 = .ok (.iconst 2, 1) := by decide +kernel
theorem dX8_fee_2 : decode cX8_fee 2 = .ok (.invokestatic 7, 3) := by decide +kernel
theorem dX8_fee_5 : decode cX8_fee 5 = .ok (.ireturn, 1) := by decide +kernel
theorem dX8_ownSkill_0 : decode cX8_ownSkill 0 = .ok (.aload_n 0, 1) := by decide +kernel
theorem dX8_ownSkill_1 : decode cX8_ownSkill 1 = .ok (.invokespecial 13, 3) := by decide +kernel
theorem dX8_ownSkill_4 : decode cX8_ownSkill 4 = .ok (.iconst 2, 1) := by decide +kernel
theorem dX8_ownSkill_5 : decode cX8_ownSkill 5 = .ok (.isub, 1) := by decide +kernel
theorem dX8_ownSkill_6 : decode cX8_ownSkill 6 = .ok (.ireturn, 1) := by decide +kernel
theorem dX9_init_0 : decode cX9_init 0 = .ok (.aload_n 0, 1) := by decide +kernel
theorem dX9_init_1 : decode cX9_init 1 = .ok (.iload_n 1, 1) := by decide +kernel
theorem dX9_init_2 : decode cX9_init 2 = .ok (.iload_n 2, 1) := by decide +kernel
theorem dX9_init_3 : decode cX9_init 3 = .ok (.iload_n 3, 1) := by decide +kernel
theorem dX9_init_4 : decode cX9_init 4 = .ok (.iload 4, 2) := by decide +kernel
theorem dX9_init_6 : decode cX9_init 6 = .ok (.invokespecial 3, 3) := by decide +kernel
theorem dX9_init_9 : decode cX9_init 9 = .ok (.return_, 1) := by decide +kernel
theorem dX9_kind_0 : decode cX9_kind 0 = .ok (.bipush 6, 2) := by decide +kernel
theorem dX9_kind_2 : decode cX9_kind 2 = .ok (.ireturn, 1) := by decide +kernel
theorem dX9_early_0 : decode cX9_early 0 = .ok (.iload_n 1, 1) := by decide +kernel
theorem dX9_early_1 : decode cX9_early 1 = .ok (.ireturn, 1) := by decide +kernel
theorem dX9_nextLook_0 : decode cX9_nextLook 0 = .ok (.aload_n 1, 1) := by decide +kernel
theorem dX9_nextLook_1 : decode cX9_nextLook 1 = .ok (.getfield 9, 3) := by decide +kernel
theorem dX9_nextLook_4 : decode cX9_nextLook 4 = .ok (.ifnonnull 9, 3) := by decide +kernel
theorem dX9_nextLook_7 : decode cX9_nextLook 7 = .ok (.sipush 720, 3) := by decide +kernel
theorem dX9_nextLook_10 : decode cX9_nextLook 10 = .ok (.goto 11, 3) := by decide +kernel
theorem dX9_nextLook_13 : decode cX9_nextLook 13 = .ok (.aload_n 1, 1) := by decide +kernel
theorem dX9_nextLook_14 : decode cX9_nextLook 14 = .ok (.getfield 9, 3) := by decide +kernel
theorem dX9_nextLook_17 : decode cX9_nextLook 17 = .ok (.iload_n 3, 1) := by decide +kernel
theorem dX9_nextLook_18 : decode cX9_nextLook 18 = .ok (.invokevirtual 15, 3) := by decide +kernel
theorem dX9_nextLook_21 : decode cX9_nextLook 21 = .ok (.ireturn, 1) := by decide +kernel
theorem dX9_ownSkill_0 : decode cX9_ownSkill 0 = .ok (.aload_n 0, 1) := by decide +kernel
theorem dX9_ownSkill_1 : decode cX9_ownSkill 1 = .ok (.invokespecial 21, 3) := by decide +kernel
theorem dX9_ownSkill_4 : decode cX9_ownSkill 4 = .ok (.iconst 1, 1) := by decide +kernel
theorem dX9_ownSkill_5 : decode cX9_ownSkill 5 = .ok (.isub, 1) := by decide +kernel
theorem dX9_ownSkill_6 : decode cX9_ownSkill 6 = .ok (.ireturn, 1) := by decide +kernel
theorem dX9_fail_0 : decode cX9_fail 0 = .ok (.return_, 1) := by decide +kernel
theorem dX10_init_0 : decode cX10_init 0 = .ok (.aload_n 0, 1) := by decide +kernel
theorem dX10_init_1 : decode cX10_init 1 = .ok (.invokespecial 3, 3) := by decide +kernel
theorem dX10_init_4 : decode cX10_init 4 = .ok (.aload_n 0, 1) := by decide +kernel
theorem dX10_init_5 : decode cX10_init 5 = .ok (.iconst 5, 1) := by decide +kernel
theorem dX10_init_6 : decode cX10_init 6 = .ok (.newarray .int, 2) := by decide +kernel
theorem dX10_init_8 : decode cX10_init 8 = .ok (.putfield 9, 3) := by decide +kernel
theorem dX10_init_11 : decode cX10_init 11 = .ok (.aload_n 0, 1) := by decide +kernel
theorem dX10_init_12 : decode cX10_init 12 = .ok (.iconst 5, 1) := by decide +kernel
theorem dX10_init_13 : decode cX10_init 13 = .ok (.newarray .int, 2) := by decide +kernel
theorem dX10_init_15 : decode cX10_init 15 = .ok (.putfield 15, 3) := by decide +kernel
theorem dX10_init_18 : decode cX10_init 18 = .ok (.aload_n 0, 1) := by decide +kernel
theorem dX10_init_19 : decode cX10_init 19 = .ok (.iconst 5, 1) := by decide +kernel
theorem dX10_init_20 : decode cX10_init 20 = .ok (.newarray .int, 2) := by decide +kernel
theorem dX10_init_22 : decode cX10_init 22 = .ok (.putfield 18, 3) := by decide +kernel
theorem dX10_init_25 : decode cX10_init 25 = .ok (.aload_n 0, 1) := by decide +kernel
theorem dX10_init_26 : decode cX10_init 26 = .ok (.bipush 6, 2) := by decide +kernel
theorem dX10_init_28 : decode cX10_init 28 = .ok (.anewarray 21, 3) := by decide +kernel
theorem dX10_init_31 : decode cX10_init 31 = .ok (.putfield 23, 3) := by decide +kernel
theorem dX10_init_34 : decode cX10_init 34 = .ok (.aload_n 0, 1) := by decide +kernel
theorem dX10_init_35 : decode cX10_init 35 = .ok (.bipush 8, 2) := by decide +kernel
theorem dX10_init_37 : decode cX10_init 37 = .ok (.newarray .int, 2) := by decide +kernel
theorem dX10_init_39 : decode cX10_init 39 = .ok (.putfield 27, 3) := by decide +kernel
theorem dX10_init_42 : decode cX10_init 42 = .ok (.return_, 1) := by decide +kernel
theorem dX10_become_0 : decode cX10_become 0 = .ok (.aload_n 1, 1) := by decide +kernel
theorem dX10_become_1 : decode cX10_become 1 = .ok (.getfield 9, 3) := by decide +kernel
theorem dX10_become_4 : decode cX10_become 4 = .ok (.iconst 0, 1) := by decide +kernel
theorem dX10_become_5 : decode cX10_become 5 = .ok (.aload_n 0, 1) := by decide +kernel
theorem dX10_become_6 : decode cX10_become 6 = .ok (.getfield 9, 3) := by decide +kernel
theorem dX10_become_9 : decode cX10_become 9 = .ok (.iconst 0, 1) := by decide +kernel
theorem dX10_become_10 : decode cX10_become 10 = .ok (.iconst 5, 1) := by decide +kernel
theorem dX10_become_11 : decode cX10_become 11 = .ok (.invokestatic 30, 3) := by decide +kernel
theorem dX10_become_14 : decode cX10_become 14 = .ok (.aload_n 1, 1) := by decide +kernel
theorem dX10_become_15 : decode cX10_become 15 = .ok (.getfield 15, 3) := by decide +kernel
theorem dX10_become_18 : decode cX10_become 18 = .ok (.iconst 0, 1) := by decide +kernel
theorem dX10_become_19 : decode cX10_become 19 = .ok (.aload_n 0, 1) := by decide +kernel
theorem dX10_become_20 : decode cX10_become 20 = .ok (.getfield 15, 3) := by decide +kernel
theorem dX10_become_23 : decode cX10_become 23 = .ok (.iconst 0, 1) := by decide +kernel
theorem dX10_become_24 : decode cX10_become 24 = .ok (.iconst 5, 1) := by decide +kernel
theorem dX10_become_25 : decode cX10_become 25 = .ok (.invokestatic 30, 3) := by decide +kernel
theorem dX10_become_28 : decode cX10_become 28 = .ok (.aload_n 1, 1) := by decide +kernel
theorem dX10_become_29 : decode cX10_become 29 = .ok (.getfield 18, 3) := by decide +kernel
theorem dX10_become_32 : decode cX10_become 32 = .ok (.iconst 0, 1) := by decide +kernel
theorem dX10_become_33 : decode cX10_become 33 = .ok (.aload_n 0, 1) := by decide +kernel
theorem dX10_become_34 : decode cX10_become 34 = .ok (.getfield 18, 3) := by decide +kernel
theorem dX10_become_37 : decode cX10_become 37 = .ok (.iconst 0, 1) := by decide +kernel
theorem dX10_become_38 : decode cX10_become 38 = .ok (.iconst 5, 1) := by decide +kernel
theorem dX10_become_39 : decode cX10_become 39 = .ok (.invokestatic 30, 3) := by decide +kernel
theorem dX10_become_42 : decode cX10_become 42 = .ok (.aload_n 1, 1) := by decide +kernel
theorem dX10_become_43 : decode cX10_become 43 = .ok (.getfield 27, 3) := by decide +kernel
theorem dX10_become_46 : decode cX10_become 46 = .ok (.iconst 0, 1) := by decide +kernel
theorem dX10_become_47 : decode cX10_become 47 = .ok (.aload_n 0, 1) := by decide +kernel
theorem dX10_become_48 : decode cX10_become 48 = .ok (.getfield 27, 3) := by decide +kernel
theorem dX10_become_51 : decode cX10_become 51 = .ok (.iconst 0, 1) := by decide +kernel
theorem dX10_become_52 : decode cX10_become 52 = .ok (.bipush 8, 2) := by decide +kernel
theorem dX10_become_54 : decode cX10_become 54 = .ok (.invokestatic 30, 3) := by decide +kernel
theorem dX10_become_57 : decode cX10_become 57 = .ok (.iconst 0, 1) := by decide +kernel
theorem dX10_become_58 : decode cX10_become 58 = .ok (.istore_n 2, 1) := by decide +kernel
theorem dX10_become_59 : decode cX10_become 59 = .ok (.iload_n 2, 1) := by decide +kernel
theorem dX10_become_60 : decode cX10_become 60 = .ok (.bipush 6, 2) := by decide +kernel
theorem dX10_become_62 : decode cX10_become 62 = .ok (.if_icmp .ge 21, 3) := by decide +kernel
theorem dX10_become_65 : decode cX10_become 65 = .ok (.aload_n 0, 1) := by decide +kernel
theorem dX10_become_66 : decode cX10_become 66 = .ok (.getfield 23, 3) := by decide +kernel
theorem dX10_become_69 : decode cX10_become 69 = .ok (.iload_n 2, 1) := by decide +kernel
theorem dX10_become_70 : decode cX10_become 70 = .ok (.aload_n 1, 1) := by decide +kernel
theorem dX10_become_71 : decode cX10_become 71 = .ok (.getfield 23, 3) := by decide +kernel
theorem dX10_become_74 : decode cX10_become 74 = .ok (.iload_n 2, 1) := by decide +kernel
theorem dX10_become_75 : decode cX10_become 75 = .ok (.aaload, 1) := by decide +kernel
theorem dX10_become_76 : decode cX10_become 76 = .ok (.aastore, 1) := by decide +kernel
theorem dX10_become_77 : decode cX10_become 77 = .ok (.iinc 2 1, 3) := by decide +kernel
theorem dX10_become_80 : decode cX10_become 80 = .ok (.goto (-21), 3) := by decide +kernel
theorem dX10_become_83 : decode cX10_become 83 = .ok (.aload_n 0, 1) := by decide +kernel
theorem dX10_become_84 : decode cX10_become 84 = .ok (.aload_n 1, 1) := by decide +kernel
theorem dX10_become_85 : decode cX10_become 85 = .ok (.getfield 36, 3) := by decide +kernel
theorem dX10_become_88 : decode cX10_become 88 = .ok (.putfield 36, 3) := by decide +kernel
theorem dX10_become_91 : decode cX10_become 91 = .ok (.aload_n 0, 1) := by decide +kernel
theorem dX10_become_92 : decode cX10_become 92 = .ok (.aload_n 1, 1) := by decide +kernel
theorem dX10_become_93 : decode cX10_become 93 = .ok (.getfield 40, 3) := by decide +kernel
theorem dX10_become_96 : decode cX10_become 96 = .ok (.putfield 40, 3) := by decide +kernel
theorem dX10_become_99 : decode cX10_become 99 = .ok (.aload_n 0, 1) := by decide +kernel
theorem dX10_become_100 : decode cX10_become 100 = .ok (.aload_n 1, 1) := by decide +kernel
theorem dX10_become_101 : decode cX10_become 101 = .ok (.getfield 43, 3) := by decide +kernel
theorem dX10_become_104 : decode cX10_become 104 = .ok (.putfield 43, 3) := by decide +kernel
theorem dX10_become_107 : decode cX10_become 107 = .ok (.aload_n 0, 1) := by decide +kernel
theorem dX10_become_108 : decode cX10_become 108 = .ok (.aload_n 1, 1) := by decide +kernel
theorem dX10_become_109 : decode cX10_become 109 = .ok (.getfield 46, 3) := by decide +kernel
theorem dX10_become_112 : decode cX10_become 112 = .ok (.putfield 46, 3) := by decide +kernel
theorem dX10_become_115 : decode cX10_become 115 = .ok (.return_, 1) := by decide +kernel
theorem dX10_hasWork_0 : decode cX10_hasWork 0 = .ok (.iload_n 1, 1) := by decide +kernel
theorem dX10_hasWork_1 : decode cX10_hasWork 1 = .ok (.ifCond .lt 20, 3) := by decide +kernel
theorem dX10_hasWork_4 : decode cX10_hasWork 4 = .ok (.iload_n 1, 1) := by decide +kernel
theorem dX10_hasWork_5 : decode cX10_hasWork 5 = .ok (.iconst 5, 1) := by decide +kernel
theorem dX10_hasWork_6 : decode cX10_hasWork 6 = .ok (.if_icmp .ge 15, 3) := by decide +kernel
theorem dX10_hasWork_9 : decode cX10_hasWork 9 = .ok (.iload_n 1, 1) := by decide +kernel
theorem dX10_hasWork_10 : decode cX10_hasWork 10 = .ok (.aload_n 0, 1) := by decide +kernel
theorem dX10_hasWork_11 : decode cX10_hasWork 11 = .ok (.getfield 36, 3) := by decide +kernel
theorem dX10_hasWork_14 : decode cX10_hasWork 14 = .ok (.if_icmp .ge 7, 3) := by decide +kernel
theorem dX10_hasWork_17 : decode cX10_hasWork 17 = .ok (.iconst 1, 1) := by decide +kernel
theorem dX10_hasWork_18 : decode cX10_hasWork 18 = .ok (.goto 4, 3) := by decide +kernel
theorem dX10_hasWork_21 : decode cX10_hasWork 21 = .ok (.iconst 0, 1) := by decide +kernel
theorem dX10_hasWork_22 : decode cX10_hasWork 22 = .ok (.ireturn, 1) := by decide +kernel
theorem dX10_allWalks_0 : decode cX10_allWalks 0 = .ok (.iconst 0, 1) := by decide +kernel
theorem dX10_allWalks_1 : decode cX10_allWalks 1 = .ok (.istore_n 1, 1) := by decide +kernel
theorem dX10_allWalks_2 : decode cX10_allWalks 2 = .ok (.iconst 0, 1) := by decide +kernel
theorem dX10_allWalks_3 : decode cX10_allWalks 3 = .ok (.istore_n 2, 1) := by decide +kernel
theorem dX10_allWalks_4 : decode cX10_allWalks 4 = .ok (.iload_n 2, 1) := by decide +kernel
theorem dX10_allWalks_5 : decode cX10_allWalks 5 = .ok (.iconst 5, 1) := by decide +kernel
theorem dX10_allWalks_6 : decode cX10_allWalks 6 = .ok (.if_icmp .ge 26, 3) := by decide +kernel
theorem dX10_allWalks_9 : decode cX10_allWalks 9 = .ok (.iload_n 2, 1) := by decide +kernel
theorem dX10_allWalks_10 : decode cX10_allWalks 10 = .ok (.aload_n 0, 1) := by decide +kernel
theorem dX10_allWalks_11 : decode cX10_allWalks 11 = .ok (.getfield 36, 3) := by decide +kernel
theorem dX10_allWalks_14 : decode cX10_allWalks 14 = .ok (.if_icmp .ge 18, 3) := by decide +kernel
theorem dX10_allWalks_17 : decode cX10_allWalks 17 = .ok (.iload_n 1, 1) := by decide +kernel
theorem dX10_allWalks_18 : decode cX10_allWalks 18 = .ok (.aload_n 0, 1) := by decide +kernel
theorem dX10_allWalks_19 : decode cX10_allWalks 19 = .ok (.getfield 15, 3) := by decide +kernel
theorem dX10_allWalks_22 : decode cX10_allWalks 22 = .ok (.iload_n 2, 1) := by decide +kernel
theorem dX10_allWalks_23 : decode cX10_allWalks 23 = .ok (.iaload, 1) := by decide +kernel
theorem dX10_allWalks_24 : decode cX10_allWalks 24 = .ok (.iadd, 1) := by decide +kernel
theorem dX10_allWalks_25 : decode cX10_allWalks 25 = .ok (.istore_n 1, 1) := by decide +kernel
theorem dX10_allWalks_26 : decode cX10_allWalks 26 = .ok (.iinc 2 1, 3) := by decide +kernel
theorem dX10_allWalks_29 : decode cX10_allWalks 29 = .ok (.goto (-25), 3) := by decide +kernel
theorem dX10_allWalks_32 : decode cX10_allWalks 32 = .ok (.iload_n 1, 1) := by decide +kernel
theorem dX10_allWalks_33 : decode cX10_allWalks 33 = .ok (.ireturn, 1) := by decide +kernel
theorem dX10_nextPlanned_0 : decode cX10_nextPlanned 0 = .ok (.iconst 0, 1) := by decide +kernel
theorem dX10_nextPlanned_1 : decode cX10_nextPlanned 1 = .ok (.istore_n 2, 1) := by decide +kernel
theorem dX10_nextPlanned_2 : decode cX10_nextPlanned 2 = .ok (.iload_n 2, 1) := by decide +kernel
theorem dX10_nextPlanned_3 : decode cX10_nextPlanned 3 = .ok (.bipush 8, 2) := by decide +kernel
theorem dX10_nextPlanned_5 : decode cX10_nextPlanned 5 = .ok (.if_icmp .ge 34, 3) := by decide +kernel
theorem dX10_nextPlanned_8 : decode cX10_nextPlanned 8 = .ok (.iload_n 2, 1) := by decide +kernel
theorem dX10_nextPlanned_9 : decode cX10_nextPlanned 9 = .ok (.aload_n 0, 1) := by decide +kernel
theorem dX10_nextPlanned_10 : decode cX10_nextPlanned 10 = .ok (.getfield 43, 3) := by decide +kernel
theorem dX10_nextPlanned_13 : decode cX10_nextPlanned 13 = .ok (.if_icmp .ge 26, 3) := by decide +kernel
theorem dX10_nextPlanned_16 : decode cX10_nextPlanned 16 = .ok (.aload_n 0, 1) := by decide +kernel
theorem dX10_nextPlanned_17 : decode cX10_nextPlanned 17 = .ok (.getfield 27, 3) := by decide +kernel
theorem dX10_nextPlanned_20 : decode cX10_nextPlanned 20 = .ok (.iload_n 2, 1) := by decide +kernel
theorem dX10_nextPlanned_21 : decode cX10_nextPlanned 21 = .ok (.iaload, 1) := by decide +kernel
theorem dX10_nextPlanned_22 : decode cX10_nextPlanned 22 = .ok (.iload_n 1, 1) := by decide +kernel
theorem dX10_nextPlanned_23 : decode cX10_nextPlanned 23 = .ok (.if_icmp .lt 10, 3) := by decide +kernel
theorem dX10_nextPlanned_26 : decode cX10_nextPlanned 26 = .ok (.aload_n 0, 1) := by decide +kernel
theorem dX10_nextPlanned_27 : decode cX10_nextPlanned 27 = .ok (.getfield 27, 3) := by decide +kernel
theorem dX10_nextPlanned_30 : decode cX10_nextPlanned 30 = .ok (.iload_n 2, 1) := by decide +kernel
theorem dX10_nextPlanned_31 : decode cX10_nextPlanned 31 = .ok (.iaload, 1) := by decide +kernel
theorem dX10_nextPlanned_32 : decode cX10_nextPlanned 32 = .ok (.ireturn, 1) := by decide +kernel
theorem dX10_nextPlanned_33 : decode cX10_nextPlanned 33 = .ok (.iinc 2 1, 3) := by decide +kernel
theorem dX10_nextPlanned_36 : decode cX10_nextPlanned 36 = .ok (.goto (-34), 3) := by decide +kernel
theorem dX10_nextPlanned_39 : decode cX10_nextPlanned 39 = .ok (.sipush 720, 3) := by decide +kernel
theorem dX10_nextPlanned_42 : decode cX10_nextPlanned 42 = .ok (.ireturn, 1) := by decide +kernel
theorem dX10_takes_0 : decode cX10_takes 0 = .ok (.aload_n 2, 1) := by decide +kernel
theorem dX10_takes_1 : decode cX10_takes 1 = .ok (.arraylength, 1) := by decide +kernel
theorem dX10_takes_2 : decode cX10_takes 2 = .ok (.iconst 5, 1) := by decide +kernel
theorem dX10_takes_3 : decode cX10_takes 3 = .ok (.if_icmp .ge 5, 3) := by decide +kernel
theorem dX10_takes_6 : decode cX10_takes 6 = .ok (.iconst 0, 1) := by decide +kernel
theorem dX10_takes_7 : decode cX10_takes 7 = .ok (.ireturn, 1) := by decide +kernel
theorem dX10_takes_8 : decode cX10_takes 8 = .ok (.iload_n 1, 1) := by decide +kernel
theorem dX10_takes_9 : decode cX10_takes 9 = .ok (.lookupswitch 94 #[(107, 57), (108, 78), (112, 86), (119, 43)], 43) := by decide +kernel
theorem dX10_takes_52 : decode cX10_takes 52 = .ok (.aload_n 0, 1) := by decide +kernel
theorem dX10_takes_53 : decode cX10_takes 53 = .ok (.aload_n 2, 1) := by decide +kernel
theorem dX10_takes_54 : decode cX10_takes 54 = .ok (.iconst 0, 1) := by decide +kernel
theorem dX10_takes_55 : decode cX10_takes 55 = .ok (.iaload, 1) := by decide +kernel
theorem dX10_takes_56 : decode cX10_takes 56 = .ok (.aload_n 2, 1) := by decide +kernel
theorem dX10_takes_57 : decode cX10_takes 57 = .ok (.iconst 1, 1) := by decide +kernel
theorem dX10_takes_58 : decode cX10_takes 58 = .ok (.iaload, 1) := by decide +kernel
theorem dX10_takes_59 : decode cX10_takes 59 = .ok (.aload_n 2, 1) := by decide +kernel
theorem dX10_takes_60 : decode cX10_takes 60 = .ok (.iconst 2, 1) := by decide +kernel
theorem dX10_takes_61 : decode cX10_takes 61 = .ok (.iaload, 1) := by decide +kernel
theorem dX10_takes_62 : decode cX10_takes 62 = .ok (.invokevirtual 49, 3) := by decide +kernel
theorem dX10_takes_65 : decode cX10_takes 65 = .ok (.ireturn, 1) := by decide +kernel
theorem dX10_takes_66 : decode cX10_takes 66 = .ok (.aload_n 0, 1) := by decide +kernel
theorem dX10_takes_67 : decode cX10_takes 67 = .ok (.aload_n 2, 1) := by decide +kernel
theorem dX10_takes_68 : decode cX10_takes 68 = .ok (.iconst 0, 1) := by decide +kernel
theorem dX10_takes_69 : decode cX10_takes 69 = .ok (.iaload, 1) := by decide +kernel
theorem dX10_takes_70 : decode cX10_takes 70 = .ok (.aload_n 2, 1) := by decide +kernel
theorem dX10_takes_71 : decode cX10_takes 71 = .ok (.iconst 1, 1) := by decide +kernel
theorem dX10_takes_72 : decode cX10_takes 72 = .ok (.iaload, 1) := by decide +kernel
theorem dX10_takes_73 : decode cX10_takes 73 = .ok (.aload_n 2, 1) := by decide +kernel
theorem dX10_takes_74 : decode cX10_takes 74 = .ok (.iconst 2, 1) := by decide +kernel
theorem dX10_takes_75 : decode cX10_takes 75 = .ok (.iaload, 1) := by decide +kernel
theorem dX10_takes_76 : decode cX10_takes 76 = .ok (.aload_n 2, 1) := by decide +kernel
theorem dX10_takes_77 : decode cX10_takes 77 = .ok (.iconst 3, 1) := by decide +kernel
theorem dX10_takes_78 : decode cX10_takes 78 = .ok (.iaload, 1) := by decide +kernel
theorem dX10_takes_79 : decode cX10_takes 79 = .ok (.imul, 1) := by decide +kernel
theorem dX10_takes_80 : decode cX10_takes 80 = .ok (.aload_n 2, 1) := by decide +kernel
theorem dX10_takes_81 : decode cX10_takes 81 = .ok (.iconst 4, 1) := by decide +kernel
theorem dX10_takes_82 : decode cX10_takes 82 = .ok (.iaload, 1) := by decide +kernel
theorem dX10_takes_83 : decode cX10_takes 83 = .ok (.invokevirtual 53, 3) := by decide +kernel
theorem dX10_takes_86 : decode cX10_takes 86 = .ok (.ireturn, 1) := by decide +kernel
theorem dX10_takes_87 : decode cX10_takes 87 = .ok (.aload_n 0, 1) := by decide +kernel
theorem dX10_takes_88 : decode cX10_takes 88 = .ok (.aload_n 2, 1) := by decide +kernel
theorem dX10_takes_89 : decode cX10_takes 89 = .ok (.iconst 0, 1) := by decide +kernel
theorem dX10_takes_90 : decode cX10_takes 90 = .ok (.iaload, 1) := by decide +kernel
theorem dX10_takes_91 : decode cX10_takes 91 = .ok (.invokevirtual 57, 3) := by decide +kernel
theorem dX10_takes_94 : decode cX10_takes 94 = .ok (.ireturn, 1) := by decide +kernel
theorem dX10_takes_95 : decode cX10_takes 95 = .ok (.aload_n 0, 1) := by decide +kernel
theorem dX10_takes_96 : decode cX10_takes 96 = .ok (.aload_n 2, 1) := by decide +kernel
theorem dX10_takes_97 : decode cX10_takes 97 = .ok (.iconst 0, 1) := by decide +kernel
theorem dX10_takes_98 : decode cX10_takes 98 = .ok (.iaload, 1) := by decide +kernel
theorem dX10_takes_99 : decode cX10_takes 99 = .ok (.invokevirtual 61, 3) := by decide +kernel
theorem dX10_takes_102 : decode cX10_takes 102 = .ok (.ireturn, 1) := by decide +kernel
theorem dX10_takes_103 : decode cX10_takes 103 = .ok (.iconst 0, 1) := by decide +kernel
theorem dX10_takes_104 : decode cX10_takes 104 = .ok (.ireturn, 1) := by decide +kernel
theorem dX10_takesWork_0 : decode cX10_takesWork 0 = .ok (.aload_n 0, 1) := by decide +kernel
theorem dX10_takesWork_1 : decode cX10_takesWork 1 = .ok (.getfield 36, 3) := by decide +kernel
theorem dX10_takesWork_4 : decode cX10_takesWork 4 = .ok (.ifCond .lt 24, 3) := by decide +kernel
theorem dX10_takesWork_7 : decode cX10_takesWork 7 = .ok (.aload_n 0, 1) := by decide +kernel
theorem dX10_takesWork_8 : decode cX10_takesWork 8 = .ok (.getfield 36, 3) := by decide +kernel
theorem dX10_takesWork_11 : decode cX10_takesWork 11 = .ok (.iconst 5, 1) := by decide +kernel
theorem dX10_takesWork_12 : decode cX10_takesWork 12 = .ok (.if_icmp .ge 16, 3) := by decide +kernel
theorem dX10_takesWork_15 : decode cX10_takesWork 15 = .ok (.iload_n 1, 1) := by decide +kernel
theorem dX10_takesWork_16 : decode cX10_takesWork 16 = .ok (.invokestatic 64, 3) := by decide +kernel
theorem dX10_takesWork_19 : decode cX10_takesWork 19 = .ok (.ifCond .eq 9, 3) := by decide +kernel
theorem dX10_takesWork_22 : decode cX10_takesWork 22 = .ok (.iload_n 2, 1) := by decide +kernel
theorem dX10_takesWork_23 : decode cX10_takesWork 23 = .ok (.bipush 59, 2) := by decide +kernel
theorem dX10_takesWork_25 : decode cX10_takesWork 25 = .ok (.if_icmp .le 5, 3) := by decide +kernel
theorem dX10_takesWork_28 : decode cX10_takesWork 28 = .ok (.iconst 0, 1) := by decide +kernel
theorem dX10_takesWork_29 : decode cX10_takesWork 29 = .ok (.ireturn, 1) := by decide +kernel
theorem dX10_takesWork_30 : decode cX10_takesWork 30 = .ok (.aload_n 0, 1) := by decide +kernel
theorem dX10_takesWork_31 : decode cX10_takesWork 31 = .ok (.getfield 36, 3) := by decide +kernel
theorem dX10_takesWork_34 : decode cX10_takesWork 34 = .ok (.ifCond .le 20, 3) := by decide +kernel
theorem dX10_takesWork_37 : decode cX10_takesWork 37 = .ok (.iload_n 1, 1) := by decide +kernel
theorem dX10_takesWork_38 : decode cX10_takesWork 38 = .ok (.aload_n 0, 1) := by decide +kernel
theorem dX10_takesWork_39 : decode cX10_takesWork 39 = .ok (.getfield 9, 3) := by decide +kernel
theorem dX10_takesWork_42 : decode cX10_takesWork 42 = .ok (.aload_n 0, 1) := by decide +kernel
theorem dX10_takesWork_43 : decode cX10_takesWork 43 = .ok (.getfield 36, 3) := by decide +kernel
theorem dX10_takesWork_46 : decode cX10_takesWork 46 = .ok (.iconst 1, 1) := by decide +kernel
theorem dX10_takesWork_47 : decode cX10_takesWork 47 = .ok (.isub, 1) := by decide +kernel
theorem dX10_takesWork_48 : decode cX10_takesWork 48 = .ok (.iaload, 1) := by decide +kernel
theorem dX10_takesWork_49 : decode cX10_takesWork 49 = .ok (.if_icmp .gt 5, 3) := by decide +kernel
theorem dX10_takesWork_52 : decode cX10_takesWork 52 = .ok (.iconst 0, 1) := by decide +kernel
theorem dX10_takesWork_53 : decode cX10_takesWork 53 = .ok (.ireturn, 1) := by decide +kernel
theorem dX10_takesWork_54 : decode cX10_takesWork 54 = .ok (.aload_n 0, 1) := by decide +kernel
theorem dX10_takesWork_55 : decode cX10_takesWork 55 = .ok (.getfield 9, 3) := by decide +kernel
theorem dX10_takesWork_58 : decode cX10_takesWork 58 = .ok (.aload_n 0, 1) := by decide +kernel
theorem dX10_takesWork_59 : decode cX10_takesWork 59 = .ok (.getfield 36, 3) := by decide +kernel
theorem dX10_takesWork_62 : decode cX10_takesWork 62 = .ok (.iload_n 1, 1) := by decide +kernel
theorem dX10_takesWork_63 : decode cX10_takesWork 63 = .ok (.iastore, 1) := by decide +kernel
theorem dX10_takesWork_64 : decode cX10_takesWork 64 = .ok (.aload_n 0, 1) := by decide +kernel
theorem dX10_takesWork_65 : decode cX10_takesWork 65 = .ok (.getfield 15, 3) := by decide +kernel
theorem dX10_takesWork_68 : decode cX10_takesWork 68 = .ok (.aload_n 0, 1) := by decide +kernel
theorem dX10_takesWork_69 : decode cX10_takesWork 69 = .ok (.getfield 36, 3) := by decide +kernel
theorem dX10_takesWork_72 : decode cX10_takesWork 72 = .ok (.iload_n 2, 1) := by decide +kernel
theorem dX10_takesWork_73 : decode cX10_takesWork 73 = .ok (.iastore, 1) := by decide +kernel
theorem dX10_takesWork_74 : decode cX10_takesWork 74 = .ok (.aload_n 0, 1) := by decide +kernel
theorem dX10_takesWork_75 : decode cX10_takesWork 75 = .ok (.getfield 18, 3) := by decide +kernel
theorem dX10_takesWork_78 : decode cX10_takesWork 78 = .ok (.aload_n 0, 1) := by decide +kernel
theorem dX10_takesWork_79 : decode cX10_takesWork 79 = .ok (.getfield 36, 3) := by decide +kernel
theorem dX10_takesWork_82 : decode cX10_takesWork 82 = .ok (.iload_n 3, 1) := by decide +kernel
theorem dX10_takesWork_83 : decode cX10_takesWork 83 = .ok (.iastore, 1) := by decide +kernel
theorem dX10_takesWork_84 : decode cX10_takesWork 84 = .ok (.aload_n 0, 1) := by decide +kernel
theorem dX10_takesWork_85 : decode cX10_takesWork 85 = .ok (.dup, 1) := by decide +kernel
theorem dX10_takesWork_86 : decode cX10_takesWork 86 = .ok (.getfield 36, 3) := by decide +kernel
theorem dX10_takesWork_89 : decode cX10_takesWork 89 = .ok (.iconst 1, 1) := by decide +kernel
theorem dX10_takesWork_90 : decode cX10_takesWork 90 = .ok (.iadd, 1) := by decide +kernel
theorem dX10_takesWork_91 : decode cX10_takesWork 91 = .ok (.putfield 36, 3) := by decide +kernel
theorem dX10_takesWork_94 : decode cX10_takesWork 94 = .ok (.iconst 1, 1) := by decide +kernel
theorem dX10_takesWork_95 : decode cX10_takesWork 95 = .ok (.ireturn, 1) := by decide +kernel
theorem dX10_takesLooker_0 : decode cX10_takesLooker 0 = .ok (.aload_n 0, 1) := by decide +kernel
theorem dX10_takesLooker_1 : decode cX10_takesLooker 1 = .ok (.getfield 40, 3) := by decide +kernel
theorem dX10_takesLooker_4 : decode cX10_takesLooker 4 = .ok (.ifCond .lt 26, 3) := by decide +kernel
theorem dX10_takesLooker_7 : decode cX10_takesLooker 7 = .ok (.aload_n 0, 1) := by decide +kernel
theorem dX10_takesLooker_8 : decode cX10_takesLooker 8 = .ok (.getfield 40, 3) := by decide +kernel
theorem dX10_takesLooker_11 : decode cX10_takesLooker 11 = .ok (.bipush 6, 2) := by decide +kernel
theorem dX10_takesLooker_13 : decode cX10_takesLooker 13 = .ok (.if_icmp .ge 17, 3) := by decide +kernel
theorem dX10_takesLooker_16 : decode cX10_takesLooker 16 = .ok (.iload_n 1, 1) := by decide +kernel
theorem dX10_takesLooker_17 : decode cX10_takesLooker 17 = .ok (.bipush 8, 2) := by decide +kernel
theorem dX10_takesLooker_19 : decode cX10_takesLooker 19 = .ok (.if_icmp .ge 11, 3) := by decide +kernel
theorem dX10_takesLooker_22 : decode cX10_takesLooker 22 = .ok (.iload 4, 2) := by decide +kernel
theorem dX10_takesLooker_24 : decode cX10_takesLooker 24 = .ok (.invokestatic 64, 3) := by decide +kernel
theorem dX10_takesLooker_27 : decode cX10_takesLooker 27 = .ok (.ifCond .ne 5, 3) := by decide +kernel
theorem dX10_takesLooker_30 : decode cX10_takesLooker 30 = .ok (.iconst 0, 1) := by decide +kernel
theorem dX10_takesLooker_31 : decode cX10_takesLooker 31 = .ok (.ireturn, 1) := by decide +kernel
theorem dX10_takesLooker_32 : decode cX10_takesLooker 32 = .ok (.iload_n 3, 1) := by decide +kernel
theorem dX10_takesLooker_33 : decode cX10_takesLooker 33 = .ok (.bipush (-20), 2) := by decide +kernel
theorem dX10_takesLooker_35 : decode cX10_takesLooker 35 = .ok (.if_icmp .lt 9, 3) := by decide +kernel
theorem dX10_takesLooker_38 : decode cX10_takesLooker 38 = .ok (.iload_n 3, 1) := by decide +kernel
theorem dX10_takesLooker_39 : decode cX10_takesLooker 39 = .ok (.bipush 20, 2) := by decide +kernel
theorem dX10_takesLooker_41 : decode cX10_takesLooker 41 = .ok (.if_icmp .le 5, 3) := by decide +kernel
theorem dX10_takesLooker_44 : decode cX10_takesLooker 44 = .ok (.iconst 0, 1) := by decide +kernel
theorem dX10_takesLooker_45 : decode cX10_takesLooker 45 = .ok (.ireturn, 1) := by decide +kernel
theorem dX10_takesLooker_46 : decode cX10_takesLooker 46 = .ok (.aload_n 0, 1) := by decide +kernel
theorem dX10_takesLooker_47 : decode cX10_takesLooker 47 = .ok (.getfield 23, 3) := by decide +kernel
theorem dX10_takesLooker_50 : decode cX10_takesLooker 50 = .ok (.aload_n 0, 1) := by decide +kernel
theorem dX10_takesLooker_51 : decode cX10_takesLooker 51 = .ok (.getfield 40, 3) := by decide +kernel
theorem dX10_takesLooker_54 : decode cX10_takesLooker 54 = .ok (.iload_n 1, 1) := by decide +kernel
theorem dX10_takesLooker_55 : decode cX10_takesLooker 55 = .ok (.aload_n 0, 1) := by decide +kernel
theorem dX10_takesLooker_56 : decode cX10_takesLooker 56 = .ok (.getfield 40, 3) := by decide +kernel
theorem dX10_takesLooker_59 : decode cX10_takesLooker 59 = .ok (.iload_n 2, 1) := by decide +kernel
theorem dX10_takesLooker_60 : decode cX10_takesLooker 60 = .ok (.iload_n 3, 1) := by decide +kernel
theorem dX10_takesLooker_61 : decode cX10_takesLooker 61 = .ok (.iload 4, 2) := by decide +kernel
theorem dX10_takesLooker_63 : decode cX10_takesLooker 63 = .ok (.invokestatic 67, 3) := by decide +kernel
theorem dX10_takesLooker_66 : decode cX10_takesLooker 66 = .ok (.aastore, 1) := by decide +kernel
theorem dX10_takesLooker_67 : decode cX10_takesLooker 67 = .ok (.aload_n 0, 1) := by decide +kernel
theorem dX10_takesLooker_68 : decode cX10_takesLooker 68 = .ok (.dup, 1) := by decide +kernel
theorem dX10_takesLooker_69 : decode cX10_takesLooker 69 = .ok (.getfield 40, 3) := by decide +kernel
theorem dX10_takesLooker_72 : decode cX10_takesLooker 72 = .ok (.iconst 1, 1) := by decide +kernel
theorem dX10_takesLooker_73 : decode cX10_takesLooker 73 = .ok (.iadd, 1) := by decide +kernel
theorem dX10_takesLooker_74 : decode cX10_takesLooker 74 = .ok (.putfield 40, 3) := by decide +kernel
theorem dX10_takesLooker_77 : decode cX10_takesLooker 77 = .ok (.iconst 1, 1) := by decide +kernel
theorem dX10_takesLooker_78 : decode cX10_takesLooker 78 = .ok (.ireturn, 1) := by decide +kernel
theorem dX10_takesLaw_0 : decode cX10_takesLaw 0 = .ok (.iload_n 1, 1) := by decide +kernel
theorem dX10_takesLaw_1 : decode cX10_takesLaw 1 = .ok (.ifCond .lt 8, 3) := by decide +kernel
theorem dX10_takesLaw_4 : decode cX10_takesLaw 4 = .ok (.iload_n 1, 1) := by decide +kernel
theorem dX10_takesLaw_5 : decode cX10_takesLaw 5 = .ok (.iconst 3, 1) := by decide +kernel
theorem dX10_takesLaw_6 : decode cX10_takesLaw 6 = .ok (.if_icmp .lt 5, 3) := by decide +kernel
theorem dX10_takesLaw_9 : decode cX10_takesLaw 9 = .ok (.iconst 0, 1) := by decide +kernel
theorem dX10_takesLaw_10 : decode cX10_takesLaw 10 = .ok (.ireturn, 1) := by decide +kernel
theorem dX10_takesLaw_11 : decode cX10_takesLaw 11 = .ok (.aload_n 0, 1) := by decide +kernel
theorem dX10_takesLaw_12 : decode cX10_takesLaw 12 = .ok (.iload_n 1, 1) := by decide +kernel
theorem dX10_takesLaw_13 : decode cX10_takesLaw 13 = .ok (.putfield 46, 3) := by decide +kernel
theorem dX10_takesLaw_16 : decode cX10_takesLaw 16 = .ok (.iconst 1, 1) := by decide +kernel
theorem dX10_takesLaw_17 : decode cX10_takesLaw 17 = .ok (.ireturn, 1) := by decide +kernel
theorem dX10_takesPlanned_0 : decode cX10_takesPlanned 0 = .ok (.aload_n 0, 1) := by decide +kernel
theorem dX10_takesPlanned_1 : decode cX10_takesPlanned 1 = .ok (.getfield 43, 3) := by decide +kernel
theorem dX10_takesPlanned_4 : decode cX10_takesPlanned 4 = .ok (.ifCond .lt 19, 3) := by decide +kernel
theorem dX10_takesPlanned_7 : decode cX10_takesPlanned 7 = .ok (.aload_n 0, 1) := by decide +kernel
theorem dX10_takesPlanned_8 : decode cX10_takesPlanned 8 = .ok (.getfield 43, 3) := by decide +kernel
theorem dX10_takesPlanned_11 : decode cX10_takesPlanned 11 = .ok (.bipush 8, 2) := by decide +kernel
theorem dX10_takesPlanned_13 : decode cX10_takesPlanned 13 = .ok (.if_icmp .ge 10, 3) := by decide +kernel
theorem dX10_takesPlanned_16 : decode cX10_takesPlanned 16 = .ok (.iload_n 1, 1) := by decide +kernel
theorem dX10_takesPlanned_17 : decode cX10_takesPlanned 17 = .ok (.invokestatic 64, 3) := by decide +kernel
theorem dX10_takesPlanned_20 : decode cX10_takesPlanned 20 = .ok (.ifCond .ne 5, 3) := by decide +kernel
theorem dX10_takesPlanned_23 : decode cX10_takesPlanned 23 = .ok (.iconst 0, 1) := by decide +kernel
theorem dX10_takesPlanned_24 : decode cX10_takesPlanned 24 = .ok (.ireturn, 1) := by decide +kernel
theorem dX10_takesPlanned_25 : decode cX10_takesPlanned 25 = .ok (.aload_n 0, 1) := by decide +kernel
theorem dX10_takesPlanned_26 : decode cX10_takesPlanned 26 = .ok (.getfield 43, 3) := by decide +kernel
theorem dX10_takesPlanned_29 : decode cX10_takesPlanned 29 = .ok (.ifCond .le 20, 3) := by decide +kernel
theorem dX10_takesPlanned_32 : decode cX10_takesPlanned 32 = .ok (.iload_n 1, 1) := by decide +kernel
theorem dX10_takesPlanned_33 : decode cX10_takesPlanned 33 = .ok (.aload_n 0, 1) := by decide +kernel
theorem dX10_takesPlanned_34 : decode cX10_takesPlanned 34 = .ok (.getfield 27, 3) := by decide +kernel
theorem dX10_takesPlanned_37 : decode cX10_takesPlanned 37 = .ok (.aload_n 0, 1) := by decide +kernel
theorem dX10_takesPlanned_38 : decode cX10_takesPlanned 38 = .ok (.getfield 43, 3) := by decide +kernel
theorem dX10_takesPlanned_41 : decode cX10_takesPlanned 41 = .ok (.iconst 1, 1) := by decide +kernel
theorem dX10_takesPlanned_42 : decode cX10_takesPlanned 42 = .ok (.isub, 1) := by decide +kernel
theorem dX10_takesPlanned_43 : decode cX10_takesPlanned 43 = .ok (.iaload, 1) := by decide +kernel
theorem dX10_takesPlanned_44 : decode cX10_takesPlanned 44 = .ok (.if_icmp .gt 5, 3) := by decide +kernel
theorem dX10_takesPlanned_47 : decode cX10_takesPlanned 47 = .ok (.iconst 0, 1) := by decide +kernel
theorem dX10_takesPlanned_48 : decode cX10_takesPlanned 48 = .ok (.ireturn, 1) := by decide +kernel
theorem dX10_takesPlanned_49 : decode cX10_takesPlanned 49 = .ok (.aload_n 0, 1) := by decide +kernel
theorem dX10_takesPlanned_50 : decode cX10_takesPlanned 50 = .ok (.getfield 27, 3) := by decide +kernel
theorem dX10_takesPlanned_53 : decode cX10_takesPlanned 53 = .ok (.aload_n 0, 1) := by decide +kernel
theorem dX10_takesPlanned_54 : decode cX10_takesPlanned 54 = .ok (.getfield 43, 3) := by decide +kernel
theorem dX10_takesPlanned_57 : decode cX10_takesPlanned 57 = .ok (.iload_n 1, 1) := by decide +kernel
theorem dX10_takesPlanned_58 : decode cX10_takesPlanned 58 = .ok (.iastore, 1) := by decide +kernel
theorem dX10_takesPlanned_59 : decode cX10_takesPlanned 59 = .ok (.aload_n 0, 1) := by decide +kernel
theorem dX10_takesPlanned_60 : decode cX10_takesPlanned 60 = .ok (.dup, 1) := by decide +kernel
theorem dX10_takesPlanned_61 : decode cX10_takesPlanned 61 = .ok (.getfield 43, 3) := by decide +kernel
theorem dX10_takesPlanned_64 : decode cX10_takesPlanned 64 = .ok (.iconst 1, 1) := by decide +kernel
theorem dX10_takesPlanned_65 : decode cX10_takesPlanned 65 = .ok (.iadd, 1) := by decide +kernel
theorem dX10_takesPlanned_66 : decode cX10_takesPlanned 66 = .ok (.putfield 43, 3) := by decide +kernel
theorem dX10_takesPlanned_69 : decode cX10_takesPlanned 69 = .ok (.iconst 1, 1) := by decide +kernel
theorem dX10_takesPlanned_70 : decode cX10_takesPlanned 70 = .ok (.ireturn, 1) := by decide +kernel
theorem dX11_init_0 : decode cX11_init 0 = .ok (.aload_n 0, 1) := by decide +kernel
theorem dX11_init_1 : decode cX11_init 1 = .ok (.invokespecial 3, 3) := by decide +kernel
theorem dX11_init_4 : decode cX11_init 4 = .ok (.aload_n 0, 1) := by decide +kernel
theorem dX11_init_5 : decode cX11_init 5 = .ok (.new 9, 3) := by decide +kernel
theorem dX11_init_8 : decode cX11_init 8 = .ok (.dup, 1) := by decide +kernel
theorem dX11_init_9 : decode cX11_init 9 = .ok (.invokespecial 11, 3) := by decide +kernel
theorem dX11_init_12 : decode cX11_init 12 = .ok (.putfield 12, 3) := by decide +kernel
theorem dX11_init_15 : decode cX11_init 15 = .ok (.aload_n 0, 1) := by decide +kernel
theorem dX11_init_16 : decode cX11_init 16 = .ok (.new 9, 3) := by decide +kernel
theorem dX11_init_19 : decode cX11_init 19 = .ok (.dup, 1) := by decide +kernel
theorem dX11_init_20 : decode cX11_init 20 = .ok (.invokespecial 11, 3) := by decide +kernel
theorem dX11_init_23 : decode cX11_init 23 = .ok (.putfield 16, 3) := by decide +kernel
theorem dX11_init_26 : decode cX11_init 26 = .ok (.aload_n 0, 1) := by decide +kernel
theorem dX11_init_27 : decode cX11_init 27 = .ok (.new 9, 3) := by decide +kernel
theorem dX11_init_30 : decode cX11_init 30 = .ok (.dup, 1) := by decide +kernel
theorem dX11_init_31 : decode cX11_init 31 = .ok (.invokespecial 11, 3) := by decide +kernel
theorem dX11_init_34 : decode cX11_init 34 = .ok (.putfield 19, 3) := by decide +kernel
theorem dX11_init_37 : decode cX11_init 37 = .ok (.aload_n 0, 1) := by decide +kernel
theorem dX11_init_38 : decode cX11_init 38 = .ok (.iconst 0, 1) := by decide +kernel
theorem dX11_init_39 : decode cX11_init 39 = .ok (.putfield 22, 3) := by decide +kernel
theorem dX11_init_42 : decode cX11_init 42 = .ok (.aload_n 0, 1) := by decide +kernel
theorem dX11_init_43 : decode cX11_init 43 = .ok (.new 26, 3) := by decide +kernel
theorem dX11_init_46 : decode cX11_init 46 = .ok (.dup, 1) := by decide +kernel
theorem dX11_init_47 : decode cX11_init 47 = .ok (.invokespecial 28, 3) := by decide +kernel
theorem dX11_init_50 : decode cX11_init 50 = .ok (.putfield 29, 3) := by decide +kernel
theorem dX11_init_53 : decode cX11_init 53 = .ok (.aload_n 0, 1) := by decide +kernel
theorem dX11_init_54 : decode cX11_init 54 = .ok (.iconst 5, 1) := by decide +kernel
theorem dX11_init_55 : decode cX11_init 55 = .ok (.newarray .int, 2) := by decide +kernel
theorem dX11_init_57 : decode cX11_init 57 = .ok (.putfield 33, 3) := by decide +kernel
theorem dX11_init_60 : decode cX11_init 60 = .ok (.aload_n 0, 1) := by decide +kernel
theorem dX11_init_61 : decode cX11_init 61 = .ok (.bipush 6, 2) := by decide +kernel
theorem dX11_init_63 : decode cX11_init 63 = .ok (.newarray .int, 2) := by decide +kernel
theorem dX11_init_65 : decode cX11_init 65 = .ok (.putfield 37, 3) := by decide +kernel
theorem dX11_init_68 : decode cX11_init 68 = .ok (.aload_n 0, 1) := by decide +kernel
theorem dX11_init_69 : decode cX11_init 69 = .ok (.bipush 8, 2) := by decide +kernel
theorem dX11_init_71 : decode cX11_init 71 = .ok (.newarray .int, 2) := by decide +kernel
theorem dX11_init_73 : decode cX11_init 73 = .ok (.putfield 40, 3) := by decide +kernel
theorem dX11_init_76 : decode cX11_init 76 = .ok (.aload_n 0, 1) := by decide +kernel
theorem dX11_init_77 : decode cX11_init 77 = .ok (.bipush 8, 2) := by decide +kernel
theorem dX11_init_79 : decode cX11_init 79 = .ok (.anewarray 43, 3) := by decide +kernel
theorem dX11_init_82 : decode cX11_init 82 = .ok (.putfield 45, 3) := by decide +kernel
theorem dX11_init_85 : decode cX11_init 85 = .ok (.aload_n 0, 1) := by decide +kernel
theorem dX11_init_86 : decode cX11_init 86 = .ok (.bipush 8, 2) := by decide +kernel
theorem dX11_init_88 : decode cX11_init 88 = .ok (.anewarray 49, 3) := by decide +kernel
theorem dX11_init_91 : decode cX11_init 91 = .ok (.putfield 51, 3) := by decide +kernel
theorem dX11_init_94 : decode cX11_init 94 = .ok (.iconst 0, 1) := by decide +kernel
theorem dX11_init_95 : decode cX11_init 95 = .ok (.istore_n 1, 1) := by decide +kernel
theorem dX11_init_96 : decode cX11_init 96 = .ok (.iload_n 1, 1) := by decide +kernel
theorem dX11_init_97 : decode cX11_init 97 = .ok (.bipush 8, 2) := by decide +kernel
theorem dX11_init_99 : decode cX11_init 99 = .ok (.if_icmp .ge 22, 3) := by decide +kernel
theorem dX11_init_102 : decode cX11_init 102 = .ok (.aload_n 0, 1) := by decide +kernel
theorem dX11_init_103 : decode cX11_init 103 = .ok (.getfield 51, 3) := by decide +kernel
theorem dX11_init_106 : decode cX11_init 106 = .ok (.iload_n 1, 1) := by decide +kernel
theorem dX11_init_107 : decode cX11_init 107 = .ok (.new 49, 3) := by decide +kernel
theorem dX11_init_110 : decode cX11_init 110 = .ok (.dup, 1) := by decide +kernel
theorem dX11_init_111 : decode cX11_init 111 = .ok (.invokespecial 55, 3) := by decide +kernel
theorem dX11_init_114 : decode cX11_init 114 = .ok (.aastore, 1) := by decide +kernel
theorem dX11_init_115 : decode cX11_init 115 = .ok (.iinc 1 1, 3) := by decide +kernel
theorem dX11_init_118 : decode cX11_init 118 = .ok (.goto (-22), 3) := by decide +kernel
theorem dX11_init_121 : decode cX11_init 121 = .ok (.return_, 1) := by decide +kernel
theorem dX11_town_0 : decode cX11_town 0 = .ok (.aload_n 0, 1) := by decide +kernel
theorem dX11_town_1 : decode cX11_town 1 = .ok (.iload_n 1, 1) := by decide +kernel
theorem dX11_town_2 : decode cX11_town 2 = .ok (.iconst 0, 1) := by decide +kernel
theorem dX11_town_3 : decode cX11_town 3 = .ok (.invokevirtual 56, 3) := by decide +kernel
theorem dX11_town_6 : decode cX11_town 6 = .ok (.istore_n 2, 1) := by decide +kernel
theorem dX11_town_7 : decode cX11_town 7 = .ok (.iload_n 2, 1) := by decide +kernel
theorem dX11_town_8 : decode cX11_town 8 = .ok (.ifCond .eq 5, 3) := by decide +kernel
theorem dX11_town_11 : decode cX11_town 11 = .ok (.iload_n 2, 1) := by decide +kernel
theorem dX11_town_12 : decode cX11_town 12 = .ok (.ireturn, 1) := by decide +kernel
theorem dX11_town_13 : decode cX11_town 13 = .ok (.aload_n 0, 1) := by decide +kernel
theorem dX11_town_14 : decode cX11_town 14 = .ok (.getfield 51, 3) := by decide +kernel
theorem dX11_town_17 : decode cX11_town 17 = .ok (.iload_n 1, 1) := by decide +kernel
theorem dX11_town_18 : decode cX11_town 18 = .ok (.aaload, 1) := by decide +kernel
theorem dX11_town_19 : decode cX11_town 19 = .ok (.astore_n 3, 1) := by decide +kernel
theorem dX11_town_20 : decode cX11_town 20 = .ok (.aload_n 0, 1) := by decide +kernel
theorem dX11_town_21 : decode cX11_town 21 = .ok (.aload_n 3, 1) := by decide +kernel
theorem dX11_town_22 : decode cX11_town 22 = .ok (.invokevirtual 60, 3) := by decide +kernel
theorem dX11_town_25 : decode cX11_town 25 = .ok (.istore 4, 2) := by decide +kernel
theorem dX11_town_27 : decode cX11_town 27 = .ok (.iload 4, 2) := by decide +kernel
theorem dX11_town_29 : decode cX11_town 29 = .ok (.ifCond .lt 10, 3) := by decide +kernel
theorem dX11_town_32 : decode cX11_town 32 = .ok (.sipush (-1000), 3) := by decide +kernel
theorem dX11_town_35 : decode cX11_town 35 = .ok (.iload 4, 2) := by decide +kernel
theorem dX11_town_37 : decode cX11_town 37 = .ok (.isub, 1) := by decide +kernel
theorem dX11_town_38 : decode cX11_town 38 = .ok (.ireturn, 1) := by decide +kernel
theorem dX11_town_39 : decode cX11_town 39 = .ok (.aload_n 0, 1) := by decide +kernel
theorem dX11_town_40 : decode cX11_town 40 = .ok (.getfield 16, 3) := by decide +kernel
theorem dX11_town_43 : decode cX11_town 43 = .ok (.aload_n 0, 1) := by decide +kernel
theorem dX11_town_44 : decode cX11_town 44 = .ok (.getfield 12, 3) := by decide +kernel
theorem dX11_town_47 : decode cX11_town 47 = .ok (.invokevirtual 64, 3) := by decide +kernel
theorem dX11_town_50 : decode cX11_town 50 = .ok (.iconst 0, 1) := by decide +kernel
theorem dX11_town_51 : decode cX11_town 51 = .ok (.istore 5, 2) := by decide +kernel
theorem dX11_town_53 : decode cX11_town 53 = .ok (.iconst 0, 1) := by decide +kernel
theorem dX11_town_54 : decode cX11_town 54 = .ok (.istore 6, 2) := by decide +kernel
theorem dX11_town_56 : decode cX11_town 56 = .ok (.iload 6, 2) := by decide +kernel
theorem dX11_town_58 : decode cX11_town 58 = .ok (.bipush 100, 2) := by decide +kernel
theorem dX11_town_60 : decode cX11_town 60 = .ok (.if_icmp .ge 63, 3) := by decide +kernel
theorem dX11_town_63 : decode cX11_town 63 = .ok (.iload 5, 2) := by decide +kernel
theorem dX11_town_65 : decode cX11_town 65 = .ok (.aload_n 3, 1) := by decide +kernel
theorem dX11_town_66 : decode cX11_town 66 = .ok (.getfield 68, 3) := by decide +kernel
theorem dX11_town_69 : decode cX11_town 69 = .ok (.if_icmp .ge 54, 3) := by decide +kernel
theorem dX11_town_72 : decode cX11_town 72 = .ok (.aload_n 0, 1) := by decide +kernel
theorem dX11_town_73 : decode cX11_town 73 = .ok (.aload_n 3, 1) := by decide +kernel
theorem dX11_town_74 : decode cX11_town 74 = .ok (.iload 5, 2) := by decide +kernel
theorem dX11_town_76 : decode cX11_town 76 = .ok (.invokevirtual 72, 3) := by decide +kernel
theorem dX11_town_79 : decode cX11_town 79 = .ok (.istore 7, 2) := by decide +kernel
theorem dX11_town_81 : decode cX11_town 81 = .ok (.iload 7, 2) := by decide +kernel
theorem dX11_town_83 : decode cX11_town 83 = .ok (.ifCond .lt 23, 3) := by decide +kernel
theorem dX11_town_86 : decode cX11_town 86 = .ok (.aload_n 0, 1) := by decide +kernel
theorem dX11_town_87 : decode cX11_town 87 = .ok (.getfield 16, 3) := by decide +kernel
theorem dX11_town_90 : decode cX11_town 90 = .ok (.aload_n 3, 1) := by decide +kernel
theorem dX11_town_91 : decode cX11_town 91 = .ok (.iload 5, 2) := by decide +kernel
theorem dX11_town_93 : decode cX11_town 93 = .ok (.invokevirtual 76, 3) := by decide +kernel
theorem dX11_town_96 : decode cX11_town 96 = .ok (.aload_n 0, 1) := by decide +kernel
theorem dX11_town_97 : decode cX11_town 97 = .ok (.getfield 33, 3) := by decide +kernel
theorem dX11_town_100 : decode cX11_town 100 = .ok (.invokevirtual 80, 3) := by decide +kernel
theorem dX11_town_103 : decode cX11_town 103 = .ok (.ifCond .ne 10, 3) := by decide +kernel
theorem dX11_town_106 : decode cX11_town 106 = .ok (.sipush (-2000), 3) := by decide +kernel
theorem dX11_town_109 : decode cX11_town 109 = .ok (.iload 5, 2) := by decide +kernel
theorem dX11_town_111 : decode cX11_town 111 = .ok (.isub, 1) := by decide +kernel
theorem dX11_town_112 : decode cX11_town 112 = .ok (.ireturn, 1) := by decide +kernel
theorem dX11_town_113 : decode cX11_town 113 = .ok (.iload 7, 2) := by decide +kernel
theorem dX11_town_115 : decode cX11_town 115 = .ok (.istore 5, 2) := by decide +kernel
theorem dX11_town_117 : decode cX11_town 117 = .ok (.iinc 6 1, 3) := by decide +kernel
theorem dX11_town_120 : decode cX11_town 120 = .ok (.goto (-64), 3) := by decide +kernel
theorem dX11_town_123 : decode cX11_town 123 = .ok (.aload_n 0, 1) := by decide +kernel
theorem dX11_town_124 : decode cX11_town 124 = .ok (.getfield 12, 3) := by decide +kernel
theorem dX11_town_127 : decode cX11_town 127 = .ok (.aload_n 0, 1) := by decide +kernel
theorem dX11_town_128 : decode cX11_town 128 = .ok (.getfield 16, 3) := by decide +kernel
theorem dX11_town_131 : decode cX11_town 131 = .ok (.invokevirtual 64, 3) := by decide +kernel
theorem dX11_town_134 : decode cX11_town 134 = .ok (.iload 6, 2) := by decide +kernel
theorem dX11_town_136 : decode cX11_town 136 = .ok (.ireturn, 1) := by decide +kernel
theorem dX11_price_0 : decode cX11_price 0 = .ok (.iload_n 1, 1) := by decide +kernel
theorem dX11_price_1 : decode cX11_price 1 = .ok (.invokestatic 84, 3) := by decide +kernel
theorem dX11_price_4 : decode cX11_price 4 = .ok (.ifCond .eq 17, 3) := by decide +kernel
theorem dX11_price_7 : decode cX11_price 7 = .ok (.iload_n 1, 1) := by decide +kernel
theorem dX11_price_8 : decode cX11_price 8 = .ok (.aload_n 0, 1) := by decide +kernel
theorem dX11_price_9 : decode cX11_price 9 = .ok (.getfield 12, 3) := by decide +kernel
theorem dX11_price_12 : decode cX11_price 12 = .ok (.getfield 88, 3) := by decide +kernel
theorem dX11_price_15 : decode cX11_price 15 = .ok (.invokestatic 91, 3) := by decide +kernel
theorem dX11_price_18 : decode cX11_price 18 = .ok (.goto 4, 3) := by decide +kernel
theorem dX11_price_21 : decode cX11_price 21 = .ok (.iconst (-1), 1) := by decide +kernel
theorem dX11_price_22 : decode cX11_price 22 = .ok (.ireturn, 1) := by decide +kernel
theorem dX11_law_0 : decode cX11_law 0 = .ok (.aload_n 0, 1) := by decide +kernel
theorem dX11_law_1 : decode cX11_law 1 = .ok (.getfield 12, 3) := by decide +kernel
theorem dX11_law_4 : decode cX11_law 4 = .ok (.getfield 88, 3) := by decide +kernel
theorem dX11_law_7 : decode cX11_law 7 = .ok (.istore_n 2, 1) := by decide +kernel
theorem dX11_law_8 : decode cX11_law 8 = .ok (.aload_n 0, 1) := by decide +kernel
theorem dX11_law_9 : decode cX11_law 9 = .ok (.getfield 12, 3) := by decide +kernel
theorem dX11_law_12 : decode cX11_law 12 = .ok (.iload_n 1, 1) := by decide +kernel
theorem dX11_law_13 : decode cX11_law 13 = .ok (.invokevirtual 94, 3) := by decide +kernel
theorem dX11_law_16 : decode cX11_law 16 = .ok (.ifCond .eq 7, 3) := by decide +kernel
theorem dX11_law_19 : decode cX11_law 19 = .ok (.iload_n 2, 1) := by decide +kernel
theorem dX11_law_20 : decode cX11_law 20 = .ok (.goto 4, 3) := by decide +kernel
theorem dX11_law_23 : decode cX11_law 23 = .ok (.iconst (-1), 1) := by decide +kernel
theorem dX11_law_24 : decode cX11_law 24 = .ok (.ireturn, 1) := by decide +kernel
theorem dX11_work_0 : decode cX11_work 0 = .ok (.aload_n 0, 1) := by decide +kernel
theorem dX11_work_1 : decode cX11_work 1 = .ok (.getfield 12, 3) := by decide +kernel
theorem dX11_work_4 : decode cX11_work 4 = .ok (.iload_n 1, 1) := by decide +kernel
theorem dX11_work_5 : decode cX11_work 5 = .ok (.invokevirtual 97, 3) := by decide +kernel
theorem dX11_work_8 : decode cX11_work 8 = .ok (.ifCond .ne 5, 3) := by decide +kernel
theorem dX11_work_11 : decode cX11_work 11 = .ok (.iconst (-1), 1) := by decide +kernel
theorem dX11_work_12 : decode cX11_work 12 = .ok (.ireturn, 1) := by decide +kernel
theorem dX11_work_13 : decode cX11_work 13 = .ok (.iload_n 2, 1) := by decide +kernel
theorem dX11_work_14 : decode cX11_work 14 = .ok (.tableswitch 56 0 2 #[26, 36, 46], 26) := by decide +kernel
theorem dX11_work_40 : decode cX11_work 40 = .ok (.aload_n 0, 1) := by decide +kernel
theorem dX11_work_41 : decode cX11_work 41 = .ok (.getfield 12, 3) := by decide +kernel
theorem dX11_work_44 : decode cX11_work 44 = .ok (.getfield 100, 3) := by decide +kernel
theorem dX11_work_47 : decode cX11_work 47 = .ok (.iload_n 1, 1) := by decide +kernel
theorem dX11_work_48 : decode cX11_work 48 = .ok (.iaload, 1) := by decide +kernel
theorem dX11_work_49 : decode cX11_work 49 = .ok (.ireturn, 1) := by decide +kernel
theorem dX11_work_50 : decode cX11_work 50 = .ok (.aload_n 0, 1) := by decide +kernel
theorem dX11_work_51 : decode cX11_work 51 = .ok (.getfield 12, 3) := by decide +kernel
theorem dX11_work_54 : decode cX11_work 54 = .ok (.getfield 103, 3) := by decide +kernel
theorem dX11_work_57 : decode cX11_work 57 = .ok (.iload_n 1, 1) := by decide +kernel
theorem dX11_work_58 : decode cX11_work 58 = .ok (.iaload, 1) := by decide +kernel
theorem dX11_work_59 : decode cX11_work 59 = .ok (.ireturn, 1) := by decide +kernel
theorem dX11_work_60 : decode cX11_work 60 = .ok (.aload_n 0, 1) := by decide +kernel
theorem dX11_work_61 : decode cX11_work 61 = .ok (.getfield 12, 3) := by decide +kernel
theorem dX11_work_64 : decode cX11_work 64 = .ok (.getfield 106, 3) := by decide +kernel
theorem dX11_work_67 : decode cX11_work 67 = .ok (.iload_n 1, 1) := by decide +kernel
theorem dX11_work_68 : decode cX11_work 68 = .ok (.iaload, 1) := by decide +kernel
theorem dX11_work_69 : decode cX11_work 69 = .ok (.ireturn, 1) := by decide +kernel
theorem dX11_work_70 : decode cX11_work 70 = .ok (.iconst (-1), 1) := by decide +kernel
theorem dX11_work_71 : decode cX11_work 71 = .ok (.ireturn, 1) := by decide +kernel
theorem dX11_looker_0 : decode cX11_looker 0 = .ok (.aload_n 0, 1) := by decide +kernel
theorem dX11_looker_1 : decode cX11_looker 1 = .ok (.iload_n 1, 1) := by decide +kernel
theorem dX11_looker_2 : decode cX11_looker 2 = .ok (.invokevirtual 109, 3) := by decide +kernel
theorem dX11_looker_5 : decode cX11_looker 5 = .ok (.astore_n 3, 1) := by decide +kernel
theorem dX11_looker_6 : decode cX11_looker 6 = .ok (.aload_n 3, 1) := by decide +kernel
theorem dX11_looker_7 : decode cX11_looker 7 = .ok (.ifnonnull 5, 3) := by decide +kernel
theorem dX11_looker_10 : decode cX11_looker 10 = .ok (.iconst (-1), 1) := by decide +kernel
theorem dX11_looker_11 : decode cX11_looker 11 = .ok (.ireturn, 1) := by decide +kernel
theorem dX11_looker_12 : decode cX11_looker 12 = .ok (.iload_n 2, 1) := by decide +kernel
theorem dX11_looker_13 : decode cX11_looker 13 = .ok (.tableswitch 55 0 3 #[31, 36, 41, 46], 31) := by decide +kernel
theorem dX11_looker_44 : decode cX11_looker 44 = .ok (.aload_n 3, 1) := by decide +kernel
theorem dX11_looker_45 : decode cX11_looker 45 = .ok (.invokevirtual 113, 3) := by decide +kernel
theorem dX11_looker_48 : decode cX11_looker 48 = .ok (.ireturn, 1) := by decide +kernel
theorem dX11_looker_49 : decode cX11_looker 49 = .ok (.aload_n 3, 1) := by decide +kernel
theorem dX11_looker_50 : decode cX11_looker 50 = .ok (.getfield 117, 3) := by decide +kernel
theorem dX11_looker_53 : decode cX11_looker 53 = .ok (.ireturn, 1) := by decide +kernel
theorem dX11_looker_54 : decode cX11_looker 54 = .ok (.aload_n 3, 1) := by decide +kernel
theorem dX11_looker_55 : decode cX11_looker 55 = .ok (.getfield 120, 3) := by decide +kernel
theorem dX11_looker_58 : decode cX11_looker 58 = .ok (.ireturn, 1) := by decide +kernel
theorem dX11_looker_59 : decode cX11_looker 59 = .ok (.aload_n 3, 1) := by decide +kernel
theorem dX11_looker_60 : decode cX11_looker 60 = .ok (.aload_n 3, 1) := by decide +kernel
theorem dX11_looker_61 : decode cX11_looker 61 = .ok (.getfield 117, 3) := by decide +kernel
