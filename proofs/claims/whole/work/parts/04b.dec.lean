theorem dX11_looker_64 : decode cX11_looker 64 = .ok (.invokevirtual 123, 3) := by decide +kernel
theorem dX11_looker_67 : decode cX11_looker 67 = .ok (.ireturn, 1) := by decide +kernel
theorem dX11_looker_68 : decode cX11_looker 68 = .ok (.iconst (-1), 1) := by decide +kernel
theorem dX11_looker_69 : decode cX11_looker 69 = .ok (.ireturn, 1) := by decide +kernel
theorem dX11_drift_0 : decode cX11_drift 0 = .ok (.aload_n 0, 1) := by decide +kernel
theorem dX11_drift_1 : decode cX11_drift 1 = .ok (.iload_n 1, 1) := by decide +kernel
theorem dX11_drift_2 : decode cX11_drift 2 = .ok (.invokevirtual 109, 3) := by decide +kernel
theorem dX11_drift_5 : decode cX11_drift 5 = .ok (.astore_n 2, 1) := by decide +kernel
theorem dX11_drift_6 : decode cX11_drift 6 = .ok (.aload_n 2, 1) := by decide +kernel
theorem dX11_drift_7 : decode cX11_drift 7 = .ok (.ifnonnull 8, 3) := by decide +kernel
theorem dX11_drift_10 : decode cX11_drift 10 = .ok (.ldc 126, 2) := by decide +kernel
theorem dX11_drift_12 : decode cX11_drift 12 = .ok (.goto 7, 3) := by decide +kernel
theorem dX11_drift_15 : decode cX11_drift 15 = .ok (.aload_n 2, 1) := by decide +kernel
theorem dX11_drift_16 : decode cX11_drift 16 = .ok (.getfield 127, 3) := by decide +kernel
theorem dX11_drift_19 : decode cX11_drift 19 = .ok (.ireturn, 1) := by decide +kernel
theorem dX11_thinks_0 : decode cX11_thinks 0 = .ok (.aload_n 0, 1) := by decide +kernel
theorem dX11_thinks_1 : decode cX11_thinks 1 = .ok (.iload_n 1, 1) := by decide +kernel
theorem dX11_thinks_2 : decode cX11_thinks 2 = .ok (.invokevirtual 109, 3) := by decide +kernel
theorem dX11_thinks_5 : decode cX11_thinks 5 = .ok (.astore 4, 2) := by decide +kernel
theorem dX11_thinks_7 : decode cX11_thinks 7 = .ok (.aload 4, 2) := by decide +kernel
theorem dX11_thinks_9 : decode cX11_thinks 9 = .ok (.ifnull 22, 3) := by decide +kernel
theorem dX11_thinks_12 : decode cX11_thinks 12 = .ok (.iload_n 2, 1) := by decide +kernel
theorem dX11_thinks_13 : decode cX11_thinks 13 = .ok (.invokestatic 84, 3) := by decide +kernel
theorem dX11_thinks_16 : decode cX11_thinks 16 = .ok (.ifCond .eq 15, 3) := by decide +kernel
theorem dX11_thinks_19 : decode cX11_thinks 19 = .ok (.iload_n 3, 1) := by decide +kernel
theorem dX11_thinks_20 : decode cX11_thinks 20 = .ok (.invokestatic 84, 3) := by decide +kernel
theorem dX11_thinks_23 : decode cX11_thinks 23 = .ok (.ifCond .eq 8, 3) := by decide +kernel
theorem dX11_thinks_26 : decode cX11_thinks 26 = .ok (.iload_n 2, 1) := by decide +kernel
theorem dX11_thinks_27 : decode cX11_thinks 27 = .ok (.iload_n 3, 1) := by decide +kernel
theorem dX11_thinks_28 : decode cX11_thinks 28 = .ok (.if_icmp .le 6, 3) := by decide +kernel
theorem dX11_thinks_31 : decode cX11_thinks 31 = .ok (.ldc 126, 2) := by decide +kernel
theorem dX11_thinks_33 : decode cX11_thinks 33 = .ok (.ireturn, 1) := by decide +kernel
theorem dX11_thinks_34 : decode cX11_thinks 34 = .ok (.aload 4, 2) := by decide +kernel
theorem dX11_thinks_36 : decode cX11_thinks 36 = .ok (.getfield 127, 3) := by decide +kernel
theorem dX11_thinks_39 : decode cX11_thinks 39 = .ok (.iload_n 2, 1) := by decide +kernel
theorem dX11_thinks_40 : decode cX11_thinks 40 = .ok (.iload_n 3, 1) := by decide +kernel
theorem dX11_thinks_41 : decode cX11_thinks 41 = .ok (.invokestatic 130, 3) := by decide +kernel
theorem dX11_thinks_44 : decode cX11_thinks 44 = .ok (.ireturn, 1) := by decide +kernel
theorem dX11_day_0 : decode cX11_day 0 = .ok (.aload_n 0, 1) := by decide +kernel
theorem dX11_day_1 : decode cX11_day 1 = .ok (.iload_n 1, 1) := by decide +kernel
theorem dX11_day_2 : decode cX11_day 2 = .ok (.invokevirtual 109, 3) := by decide +kernel
theorem dX11_day_5 : decode cX11_day 5 = .ok (.astore_n 3, 1) := by decide +kernel
theorem dX11_day_6 : decode cX11_day 6 = .ok (.aload_n 3, 1) := by decide +kernel
theorem dX11_day_7 : decode cX11_day 7 = .ok (.ifnonnull 5, 3) := by decide +kernel
theorem dX11_day_10 : decode cX11_day 10 = .ok (.iconst (-1), 1) := by decide +kernel
theorem dX11_day_11 : decode cX11_day 11 = .ok (.ireturn, 1) := by decide +kernel
theorem dX11_day_12 : decode cX11_day 12 = .ok (.aload_n 0, 1) := by decide +kernel
theorem dX11_day_13 : decode cX11_day 13 = .ok (.getfield 29, 3) := by decide +kernel
theorem dX11_day_16 : decode cX11_day 16 = .ok (.aload_n 0, 1) := by decide +kernel
theorem dX11_day_17 : decode cX11_day 17 = .ok (.getfield 12, 3) := by decide +kernel
theorem dX11_day_20 : decode cX11_day 20 = .ok (.aload_n 3, 1) := by decide +kernel
theorem dX11_day_21 : decode cX11_day 21 = .ok (.aload_n 3, 1) := by decide +kernel
theorem dX11_day_22 : decode cX11_day 22 = .ok (.getfield 127, 3) := by decide +kernel
theorem dX11_day_25 : decode cX11_day 25 = .ok (.aload_n 0, 1) := by decide +kernel
theorem dX11_day_26 : decode cX11_day 26 = .ok (.getfield 12, 3) := by decide +kernel
theorem dX11_day_29 : decode cX11_day 29 = .ok (.getfield 88, 3) := by decide +kernel
theorem dX11_day_32 : decode cX11_day 32 = .ok (.invokevirtual 134, 3) := by decide +kernel
theorem dX11_day_35 : decode cX11_day 35 = .ok (.iload_n 2, 1) := by decide +kernel
theorem dX11_day_36 : decode cX11_day 36 = .ok (.tableswitch 76 0 4 #[36, 44, 52, 60, 68], 36) := by decide +kernel
theorem dX11_day_72 : decode cX11_day 72 = .ok (.aload_n 0, 1) := by decide +kernel
theorem dX11_day_73 : decode cX11_day 73 = .ok (.getfield 29, 3) := by decide +kernel
theorem dX11_day_76 : decode cX11_day 76 = .ok (.getfield 138, 3) := by decide +kernel
theorem dX11_day_79 : decode cX11_day 79 = .ok (.ireturn, 1) := by decide +kernel
theorem dX11_day_80 : decode cX11_day 80 = .ok (.aload_n 0, 1) := by decide +kernel
theorem dX11_day_81 : decode cX11_day 81 = .ok (.getfield 29, 3) := by decide +kernel
theorem dX11_day_84 : decode cX11_day 84 = .ok (.getfield 141, 3) := by decide +kernel
theorem dX11_day_87 : decode cX11_day 87 = .ok (.ireturn, 1) := by decide +kernel
theorem dX11_day_88 : decode cX11_day 88 = .ok (.aload_n 0, 1) := by decide +kernel
theorem dX11_day_89 : decode cX11_day 89 = .ok (.getfield 29, 3) := by decide +kernel
theorem dX11_day_92 : decode cX11_day 92 = .ok (.getfield 144, 3) := by decide +kernel
theorem dX11_day_95 : decode cX11_day 95 = .ok (.ireturn, 1) := by decide +kernel
theorem dX11_day_96 : decode cX11_day 96 = .ok (.aload_n 0, 1) := by decide +kernel
theorem dX11_day_97 : decode cX11_day 97 = .ok (.getfield 29, 3) := by decide +kernel
theorem dX11_day_100 : decode cX11_day 100 = .ok (.getfield 146, 3) := by decide +kernel
theorem dX11_day_103 : decode cX11_day 103 = .ok (.ireturn, 1) := by decide +kernel
theorem dX11_day_104 : decode cX11_day 104 = .ok (.aload_n 0, 1) := by decide +kernel
theorem dX11_day_105 : decode cX11_day 105 = .ok (.getfield 29, 3) := by decide +kernel
theorem dX11_day_108 : decode cX11_day 108 = .ok (.getfield 149, 3) := by decide +kernel
theorem dX11_day_111 : decode cX11_day 111 = .ok (.ireturn, 1) := by decide +kernel
theorem dX11_day_112 : decode cX11_day 112 = .ok (.iconst (-1), 1) := by decide +kernel
theorem dX11_day_113 : decode cX11_day 113 = .ok (.ireturn, 1) := by decide +kernel
theorem dX11_look_0 : decode cX11_look 0 = .ok (.aload_n 0, 1) := by decide +kernel
theorem dX11_look_1 : decode cX11_look 1 = .ok (.iload_n 1, 1) := by decide +kernel
theorem dX11_look_2 : decode cX11_look 2 = .ok (.invokevirtual 109, 3) := by decide +kernel
theorem dX11_look_5 : decode cX11_look 5 = .ok (.astore_n 3, 1) := by decide +kernel
theorem dX11_look_6 : decode cX11_look 6 = .ok (.aload_n 3, 1) := by decide +kernel
theorem dX11_look_7 : decode cX11_look 7 = .ok (.ifnull 7, 3) := by decide +kernel
theorem dX11_look_10 : decode cX11_look 10 = .ok (.iload_n 2, 1) := by decide +kernel
theorem dX11_look_11 : decode cX11_look 11 = .ok (.ifCond .ge 5, 3) := by decide +kernel
theorem dX11_look_14 : decode cX11_look 14 = .ok (.iconst (-1), 1) := by decide +kernel
theorem dX11_look_15 : decode cX11_look 15 = .ok (.ireturn, 1) := by decide +kernel
theorem dX11_look_16 : decode cX11_look 16 = .ok (.aload_n 0, 1) := by decide +kernel
theorem dX11_look_17 : decode cX11_look 17 = .ok (.getfield 29, 3) := by decide +kernel
theorem dX11_look_20 : decode cX11_look 20 = .ok (.aload_n 0, 1) := by decide +kernel
theorem dX11_look_21 : decode cX11_look 21 = .ok (.getfield 12, 3) := by decide +kernel
theorem dX11_look_24 : decode cX11_look 24 = .ok (.aload_n 3, 1) := by decide +kernel
theorem dX11_look_25 : decode cX11_look 25 = .ok (.aload_n 3, 1) := by decide +kernel
theorem dX11_look_26 : decode cX11_look 26 = .ok (.getfield 127, 3) := by decide +kernel
theorem dX11_look_29 : decode cX11_look 29 = .ok (.aload_n 0, 1) := by decide +kernel
theorem dX11_look_30 : decode cX11_look 30 = .ok (.getfield 12, 3) := by decide +kernel
theorem dX11_look_33 : decode cX11_look 33 = .ok (.getfield 88, 3) := by decide +kernel
theorem dX11_look_36 : decode cX11_look 36 = .ok (.invokevirtual 134, 3) := by decide +kernel
theorem dX11_look_39 : decode cX11_look 39 = .ok (.aload_n 0, 1) := by decide +kernel
theorem dX11_look_40 : decode cX11_look 40 = .ok (.getfield 29, 3) := by decide +kernel
theorem dX11_look_43 : decode cX11_look 43 = .ok (.iload_n 2, 1) := by decide +kernel
theorem dX11_look_44 : decode cX11_look 44 = .ok (.invokevirtual 152, 3) := by decide +kernel
theorem dX11_look_47 : decode cX11_look 47 = .ok (.ireturn, 1) := by decide +kernel
theorem dX11_comes_0 : decode cX11_comes 0 = .ok (.aload_n 0, 1) := by decide +kernel
theorem dX11_comes_1 : decode cX11_comes 1 = .ok (.iload_n 1, 1) := by decide +kernel
theorem dX11_comes_2 : decode cX11_comes 2 = .ok (.invokevirtual 109, 3) := by decide +kernel
theorem dX11_comes_5 : decode cX11_comes 5 = .ok (.astore_n 3, 1) := by decide +kernel
theorem dX11_comes_6 : decode cX11_comes 6 = .ok (.aload_n 3, 1) := by decide +kernel
theorem dX11_comes_7 : decode cX11_comes 7 = .ok (.ifnull 14, 3) := by decide +kernel
theorem dX11_comes_10 : decode cX11_comes 10 = .ok (.aload_n 0, 1) := by decide +kernel
theorem dX11_comes_11 : decode cX11_comes 11 = .ok (.getfield 12, 3) := by decide +kernel
theorem dX11_comes_14 : decode cX11_comes 14 = .ok (.iload_n 2, 1) := by decide +kernel
theorem dX11_comes_15 : decode cX11_comes 15 = .ok (.invokevirtual 97, 3) := by decide +kernel
theorem dX11_comes_18 : decode cX11_comes 18 = .ok (.ifCond .ne 5, 3) := by decide +kernel
theorem dX11_comes_21 : decode cX11_comes 21 = .ok (.iconst (-1), 1) := by decide +kernel
theorem dX11_comes_22 : decode cX11_comes 22 = .ok (.ireturn, 1) := by decide +kernel
theorem dX11_comes_23 : decode cX11_comes 23 = .ok (.aload_n 0, 1) := by decide +kernel
theorem dX11_comes_24 : decode cX11_comes 24 = .ok (.getfield 29, 3) := by decide +kernel
theorem dX11_comes_27 : decode cX11_comes 27 = .ok (.aload_n 0, 1) := by decide +kernel
theorem dX11_comes_28 : decode cX11_comes 28 = .ok (.getfield 12, 3) := by decide +kernel
theorem dX11_comes_31 : decode cX11_comes 31 = .ok (.aload_n 3, 1) := by decide +kernel
theorem dX11_comes_32 : decode cX11_comes 32 = .ok (.aload_n 3, 1) := by decide +kernel
theorem dX11_comes_33 : decode cX11_comes 33 = .ok (.getfield 127, 3) := by decide +kernel
theorem dX11_comes_36 : decode cX11_comes 36 = .ok (.aload_n 0, 1) := by decide +kernel
theorem dX11_comes_37 : decode cX11_comes 37 = .ok (.getfield 12, 3) := by decide +kernel
theorem dX11_comes_40 : decode cX11_comes 40 = .ok (.getfield 88, 3) := by decide +kernel
theorem dX11_comes_43 : decode cX11_comes 43 = .ok (.invokevirtual 134, 3) := by decide +kernel
theorem dX11_comes_46 : decode cX11_comes 46 = .ok (.aload_n 0, 1) := by decide +kernel
theorem dX11_comes_47 : decode cX11_comes 47 = .ok (.getfield 29, 3) := by decide +kernel
theorem dX11_comes_50 : decode cX11_comes 50 = .ok (.getfield 155, 3) := by decide +kernel
theorem dX11_comes_53 : decode cX11_comes 53 = .ok (.iload_n 2, 1) := by decide +kernel
theorem dX11_comes_54 : decode cX11_comes 54 = .ok (.iaload, 1) := by decide +kernel
theorem dX11_comes_55 : decode cX11_comes 55 = .ok (.ireturn, 1) := by decide +kernel
theorem dX11_bestFigure_0 : decode cX11_bestFigure 0 = .ok (.aload_n 0, 1) := by decide +kernel
theorem dX11_bestFigure_1 : decode cX11_bestFigure 1 = .ok (.iload_n 1, 1) := by decide +kernel
theorem dX11_bestFigure_2 : decode cX11_bestFigure 2 = .ok (.invokevirtual 109, 3) := by decide +kernel
theorem dX11_bestFigure_5 : decode cX11_bestFigure 5 = .ok (.astore_n 2, 1) := by decide +kernel
theorem dX11_bestFigure_6 : decode cX11_bestFigure 6 = .ok (.aload_n 2, 1) := by decide +kernel
theorem dX11_bestFigure_7 : decode cX11_bestFigure 7 = .ok (.ifnonnull 5, 3) := by decide +kernel
theorem dX11_bestFigure_10 : decode cX11_bestFigure 10 = .ok (.iconst (-1), 1) := by decide +kernel
theorem dX11_bestFigure_11 : decode cX11_bestFigure 11 = .ok (.ireturn, 1) := by decide +kernel
theorem dX11_bestFigure_12 : decode cX11_bestFigure 12 = .ok (.aload_n 0, 1) := by decide +kernel
theorem dX11_bestFigure_13 : decode cX11_bestFigure 13 = .ok (.getfield 29, 3) := by decide +kernel
theorem dX11_bestFigure_16 : decode cX11_bestFigure 16 = .ok (.aload_n 0, 1) := by decide +kernel
theorem dX11_bestFigure_17 : decode cX11_bestFigure 17 = .ok (.getfield 12, 3) := by decide +kernel
theorem dX11_bestFigure_20 : decode cX11_bestFigure 20 = .ok (.new 158, 3) := by decide +kernel
theorem dX11_bestFigure_23 : decode cX11_bestFigure 23 = .ok (.dup, 1) := by decide +kernel
theorem dX11_bestFigure_24 : decode cX11_bestFigure 24 = .ok (.aload_n 2, 1) := by decide +kernel
theorem dX11_bestFigure_25 : decode cX11_bestFigure 25 = .ok (.getfield 160, 3) := by decide +kernel
theorem dX11_bestFigure_28 : decode cX11_bestFigure 28 = .ok (.aload_n 2, 1) := by decide +kernel
theorem dX11_bestFigure_29 : decode cX11_bestFigure 29 = .ok (.getfield 117, 3) := by decide +kernel
theorem dX11_bestFigure_32 : decode cX11_bestFigure 32 = .ok (.aload_n 2, 1) := by decide +kernel
theorem dX11_bestFigure_33 : decode cX11_bestFigure 33 = .ok (.getfield 127, 3) := by decide +kernel
theorem dX11_bestFigure_36 : decode cX11_bestFigure 36 = .ok (.aload_n 2, 1) := by decide +kernel
theorem dX11_bestFigure_37 : decode cX11_bestFigure 37 = .ok (.getfield 120, 3) := by decide +kernel
theorem dX11_bestFigure_40 : decode cX11_bestFigure 40 = .ok (.invokespecial 163, 3) := by decide +kernel
theorem dX11_bestFigure_43 : decode cX11_bestFigure 43 = .ok (.aload_n 2, 1) := by decide +kernel
theorem dX11_bestFigure_44 : decode cX11_bestFigure 44 = .ok (.getfield 127, 3) := by decide +kernel
theorem dX11_bestFigure_47 : decode cX11_bestFigure 47 = .ok (.aload_n 0, 1) := by decide +kernel
theorem dX11_bestFigure_48 : decode cX11_bestFigure 48 = .ok (.getfield 12, 3) := by decide +kernel
theorem dX11_bestFigure_51 : decode cX11_bestFigure 51 = .ok (.getfield 88, 3) := by decide +kernel
theorem dX11_bestFigure_54 : decode cX11_bestFigure 54 = .ok (.invokevirtual 134, 3) := by decide +kernel
theorem dX11_bestFigure_57 : decode cX11_bestFigure 57 = .ok (.aload_n 0, 1) := by decide +kernel
theorem dX11_bestFigure_58 : decode cX11_bestFigure 58 = .ok (.getfield 29, 3) := by decide +kernel
theorem dX11_bestFigure_61 : decode cX11_bestFigure 61 = .ok (.getfield 166, 3) := by decide +kernel
theorem dX11_bestFigure_64 : decode cX11_bestFigure 64 = .ok (.ireturn, 1) := by decide +kernel
theorem dX11_always_0 : decode cX11_always 0 = .ok (.aload_n 0, 1) := by decide +kernel
theorem dX11_always_1 : decode cX11_always 1 = .ok (.iload_n 1, 1) := by decide +kernel
theorem dX11_always_2 : decode cX11_always 2 = .ok (.invokevirtual 109, 3) := by decide +kernel
theorem dX11_always_5 : decode cX11_always 5 = .ok (.astore_n 2, 1) := by decide +kernel
theorem dX11_always_6 : decode cX11_always 6 = .ok (.aload_n 2, 1) := by decide +kernel
theorem dX11_always_7 : decode cX11_always 7 = .ok (.ifnonnull 5, 3) := by decide +kernel
theorem dX11_always_10 : decode cX11_always 10 = .ok (.iconst (-1), 1) := by decide +kernel
theorem dX11_always_11 : decode cX11_always 11 = .ok (.ireturn, 1) := by decide +kernel
theorem dX11_always_12 : decode cX11_always 12 = .ok (.new 167, 3) := by decide +kernel
theorem dX11_always_15 : decode cX11_always 15 = .ok (.dup, 1) := by decide +kernel
theorem dX11_always_16 : decode cX11_always 16 = .ok (.aload_n 2, 1) := by decide +kernel
theorem dX11_always_17 : decode cX11_always 17 = .ok (.getfield 160, 3) := by decide +kernel
theorem dX11_always_20 : decode cX11_always 20 = .ok (.aload_n 2, 1) := by decide +kernel
theorem dX11_always_21 : decode cX11_always 21 = .ok (.getfield 117, 3) := by decide +kernel
theorem dX11_always_24 : decode cX11_always 24 = .ok (.aload_n 2, 1) := by decide +kernel
theorem dX11_always_25 : decode cX11_always 25 = .ok (.getfield 127, 3) := by decide +kernel
theorem dX11_always_28 : decode cX11_always 28 = .ok (.aload_n 2, 1) := by decide +kernel
theorem dX11_always_29 : decode cX11_always 29 = .ok (.getfield 120, 3) := by decide +kernel
theorem dX11_always_32 : decode cX11_always 32 = .ok (.invokespecial 169, 3) := by decide +kernel
theorem dX11_always_35 : decode cX11_always 35 = .ok (.astore_n 3, 1) := by decide +kernel
theorem dX11_always_36 : decode cX11_always 36 = .ok (.iconst 0, 1) := by decide +kernel
theorem dX11_always_37 : decode cX11_always 37 = .ok (.istore 4, 2) := by decide +kernel
theorem dX11_always_39 : decode cX11_always 39 = .ok (.iload 4, 2) := by decide +kernel
theorem dX11_always_41 : decode cX11_always 41 = .ok (.bipush 9, 2) := by decide +kernel
theorem dX11_always_43 : decode cX11_always 43 = .ok (.if_icmp .gt 47, 3) := by decide +kernel
theorem dX11_always_46 : decode cX11_always 46 = .ok (.aload_n 0, 1) := by decide +kernel
theorem dX11_always_47 : decode cX11_always 47 = .ok (.getfield 29, 3) := by decide +kernel
theorem dX11_always_50 : decode cX11_always 50 = .ok (.aload_n 0, 1) := by decide +kernel
theorem dX11_always_51 : decode cX11_always 51 = .ok (.getfield 12, 3) := by decide +kernel
theorem dX11_always_54 : decode cX11_always 54 = .ok (.aload_n 3, 1) := by decide +kernel
theorem dX11_always_55 : decode cX11_always 55 = .ok (.iload 4, 2) := by decide +kernel
theorem dX11_always_57 : decode cX11_always 57 = .ok (.aload_n 2, 1) := by decide +kernel
theorem dX11_always_58 : decode cX11_always 58 = .ok (.getfield 127, 3) := by decide +kernel
theorem dX11_always_61 : decode cX11_always 61 = .ok (.aload_n 0, 1) := by decide +kernel
theorem dX11_always_62 : decode cX11_always 62 = .ok (.getfield 12, 3) := by decide +kernel
theorem dX11_always_65 : decode cX11_always 65 = .ok (.getfield 88, 3) := by decide +kernel
theorem dX11_always_68 : decode cX11_always 68 = .ok (.invokevirtual 170, 3) := by decide +kernel
theorem dX11_always_71 : decode cX11_always 71 = .ok (.aload_n 0, 1) := by decide +kernel
theorem dX11_always_72 : decode cX11_always 72 = .ok (.getfield 29, 3) := by decide +kernel
theorem dX11_always_75 : decode cX11_always 75 = .ok (.getfield 144, 3) := by decide +kernel
theorem dX11_always_78 : decode cX11_always 78 = .ok (.ifCond .ne 6, 3) := by decide +kernel
theorem dX11_always_81 : decode cX11_always 81 = .ok (.iload 4, 2) := by decide +kernel
theorem dX11_always_83 : decode cX11_always 83 = .ok (.ireturn, 1) := by decide +kernel
theorem dX11_always_84 : decode cX11_always 84 = .ok (.iinc 4 1, 3) := by decide +kernel
theorem dX11_always_87 : decode cX11_always 87 = .ok (.goto (-48), 3) := by decide +kernel
theorem dX11_always_90 : decode cX11_always 90 = .ok (.bipush (-4), 2) := by decide +kernel
theorem dX11_always_92 : decode cX11_always 92 = .ok (.ireturn, 1) := by decide +kernel
theorem dX11_pays_0 : decode cX11_pays 0 = .ok (.aload_n 0, 1) := by decide +kernel
theorem dX11_pays_1 : decode cX11_pays 1 = .ok (.iload_n 1, 1) := by decide +kernel
theorem dX11_pays_2 : decode cX11_pays 2 = .ok (.invokevirtual 109, 3) := by decide +kernel
theorem dX11_pays_5 : decode cX11_pays 5 = .ok (.astore_n 2, 1) := by decide +kernel
theorem dX11_pays_6 : decode cX11_pays 6 = .ok (.aload_n 2, 1) := by decide +kernel
theorem dX11_pays_7 : decode cX11_pays 7 = .ok (.ifnonnull 6, 3) := by decide +kernel
theorem dX11_pays_10 : decode cX11_pays 10 = .ok (.ldc 126, 2) := by decide +kernel
theorem dX11_pays_12 : decode cX11_pays 12 = .ok (.ireturn, 1) := by decide +kernel
theorem dX11_pays_13 : decode cX11_pays 13 = .ok (.aload_n 0, 1) := by decide +kernel
theorem dX11_pays_14 : decode cX11_pays 14 = .ok (.getfield 29, 3) := by decide +kernel
theorem dX11_pays_17 : decode cX11_pays 17 = .ok (.aload_n 0, 1) := by decide +kernel
theorem dX11_pays_18 : decode cX11_pays 18 = .ok (.getfield 12, 3) := by decide +kernel
theorem dX11_pays_21 : decode cX11_pays 21 = .ok (.new 43, 3) := by decide +kernel
theorem dX11_pays_24 : decode cX11_pays 24 = .ok (.dup, 1) := by decide +kernel
theorem dX11_pays_25 : decode cX11_pays 25 = .ok (.aload_n 2, 1) := by decide +kernel
theorem dX11_pays_26 : decode cX11_pays 26 = .ok (.getfield 160, 3) := by decide +kernel
theorem dX11_pays_29 : decode cX11_pays 29 = .ok (.aload_n 2, 1) := by decide +kernel
theorem dX11_pays_30 : decode cX11_pays 30 = .ok (.getfield 117, 3) := by decide +kernel
theorem dX11_pays_33 : decode cX11_pays 33 = .ok (.aload_n 2, 1) := by decide +kernel
theorem dX11_pays_34 : decode cX11_pays 34 = .ok (.getfield 127, 3) := by decide +kernel
theorem dX11_pays_37 : decode cX11_pays 37 = .ok (.aload_n 2, 1) := by decide +kernel
theorem dX11_pays_38 : decode cX11_pays 38 = .ok (.getfield 120, 3) := by decide +kernel
theorem dX11_pays_41 : decode cX11_pays 41 = .ok (.invokespecial 174, 3) := by decide +kernel
theorem dX11_pays_44 : decode cX11_pays 44 = .ok (.aload_n 2, 1) := by decide +kernel
theorem dX11_pays_45 : decode cX11_pays 45 = .ok (.getfield 127, 3) := by decide +kernel
theorem dX11_pays_48 : decode cX11_pays 48 = .ok (.aload_n 0, 1) := by decide +kernel
theorem dX11_pays_49 : decode cX11_pays 49 = .ok (.getfield 12, 3) := by decide +kernel
theorem dX11_pays_52 : decode cX11_pays 52 = .ok (.getfield 88, 3) := by decide +kernel
theorem dX11_pays_55 : decode cX11_pays 55 = .ok (.invokevirtual 134, 3) := by decide +kernel
theorem dX11_pays_58 : decode cX11_pays 58 = .ok (.aload_n 0, 1) := by decide +kernel
theorem dX11_pays_59 : decode cX11_pays 59 = .ok (.getfield 29, 3) := by decide +kernel
theorem dX11_pays_62 : decode cX11_pays 62 = .ok (.getfield 138, 3) := by decide +kernel
theorem dX11_pays_65 : decode cX11_pays 65 = .ok (.istore_n 3, 1) := by decide +kernel
theorem dX11_pays_66 : decode cX11_pays 66 = .ok (.aload_n 0, 1) := by decide +kernel
theorem dX11_pays_67 : decode cX11_pays 67 = .ok (.getfield 29, 3) := by decide +kernel
theorem dX11_pays_70 : decode cX11_pays 70 = .ok (.aload_n 0, 1) := by decide +kernel
theorem dX11_pays_71 : decode cX11_pays 71 = .ok (.getfield 12, 3) := by decide +kernel
theorem dX11_pays_74 : decode cX11_pays 74 = .ok (.aload_n 2, 1) := by decide +kernel
theorem dX11_pays_75 : decode cX11_pays 75 = .ok (.aload_n 2, 1) := by decide +kernel
theorem dX11_pays_76 : decode cX11_pays 76 = .ok (.getfield 127, 3) := by decide +kernel
theorem dX11_pays_79 : decode cX11_pays 79 = .ok (.aload_n 0, 1) := by decide +kernel
theorem dX11_pays_80 : decode cX11_pays 80 = .ok (.getfield 12, 3) := by decide +kernel
theorem dX11_pays_83 : decode cX11_pays 83 = .ok (.getfield 88, 3) := by decide +kernel
theorem dX11_pays_86 : decode cX11_pays 86 = .ok (.invokevirtual 134, 3) := by decide +kernel
theorem dX11_pays_89 : decode cX11_pays 89 = .ok (.iload_n 3, 1) := by decide +kernel
theorem dX11_pays_90 : decode cX11_pays 90 = .ok (.aload_n 0, 1) := by decide +kernel
theorem dX11_pays_91 : decode cX11_pays 91 = .ok (.getfield 29, 3) := by decide +kernel
theorem dX11_pays_94 : decode cX11_pays 94 = .ok (.getfield 138, 3) := by decide +kernel
theorem dX11_pays_97 : decode cX11_pays 97 = .ok (.isub, 1) := by decide +kernel
theorem dX11_pays_98 : decode cX11_pays 98 = .ok (.ireturn, 1) := by decide +kernel
theorem dX11_bestKind_0 : decode cX11_bestKind 0 = .ok (.aload_n 0, 1) := by decide +kernel
theorem dX11_bestKind_1 : decode cX11_bestKind 1 = .ok (.iload_n 1, 1) := by decide +kernel
theorem dX11_bestKind_2 : decode cX11_bestKind 2 = .ok (.invokevirtual 109, 3) := by decide +kernel
theorem dX11_bestKind_5 : decode cX11_bestKind 5 = .ok (.astore_n 2, 1) := by decide +kernel
theorem dX11_bestKind_6 : decode cX11_bestKind 6 = .ok (.aload_n 2, 1) := by decide +kernel
theorem dX11_bestKind_7 : decode cX11_bestKind 7 = .ok (.ifnonnull 5, 3) := by decide +kernel
theorem dX11_bestKind_10 : decode cX11_bestKind 10 = .ok (.iconst (-1), 1) := by decide +kernel
theorem dX11_bestKind_11 : decode cX11_bestKind 11 = .ok (.ireturn, 1) := by decide +kernel
theorem dX11_bestKind_12 : decode cX11_bestKind 12 = .ok (.iconst 0, 1) := by decide +kernel
theorem dX11_bestKind_13 : decode cX11_bestKind 13 = .ok (.istore_n 3, 1) := by decide +kernel
theorem dX11_bestKind_14 : decode cX11_bestKind 14 = .ok (.iconst 0, 1) := by decide +kernel
theorem dX11_bestKind_15 : decode cX11_bestKind 15 = .ok (.istore 4, 2) := by decide +kernel
theorem dX11_bestKind_17 : decode cX11_bestKind 17 = .ok (.iconst 0, 1) := by decide +kernel
theorem dX11_bestKind_18 : decode cX11_bestKind 18 = .ok (.istore 5, 2) := by decide +kernel
theorem dX11_bestKind_20 : decode cX11_bestKind 20 = .ok (.iload 5, 2) := by decide +kernel
theorem dX11_bestKind_22 : decode cX11_bestKind 22 = .ok (.bipush 8, 2) := by decide +kernel
theorem dX11_bestKind_24 : decode cX11_bestKind 24 = .ok (.if_icmp .ge 81, 3) := by decide +kernel
theorem dX11_bestKind_27 : decode cX11_bestKind 27 = .ok (.aload_n 0, 1) := by decide +kernel
theorem dX11_bestKind_28 : decode cX11_bestKind 28 = .ok (.getfield 29, 3) := by decide +kernel
theorem dX11_bestKind_31 : decode cX11_bestKind 31 = .ok (.aload_n 0, 1) := by decide +kernel
theorem dX11_bestKind_32 : decode cX11_bestKind 32 = .ok (.getfield 12, 3) := by decide +kernel
theorem dX11_bestKind_35 : decode cX11_bestKind 35 = .ok (.iload 5, 2) := by decide +kernel
theorem dX11_bestKind_37 : decode cX11_bestKind 37 = .ok (.aload_n 2, 1) := by decide +kernel
theorem dX11_bestKind_38 : decode cX11_bestKind 38 = .ok (.getfield 160, 3) := by decide +kernel
theorem dX11_bestKind_41 : decode cX11_bestKind 41 = .ok (.aload_n 2, 1) := by decide +kernel
theorem dX11_bestKind_42 : decode cX11_bestKind 42 = .ok (.getfield 117, 3) := by decide +kernel
theorem dX11_bestKind_45 : decode cX11_bestKind 45 = .ok (.aload_n 2, 1) := by decide +kernel
theorem dX11_bestKind_46 : decode cX11_bestKind 46 = .ok (.getfield 127, 3) := by decide +kernel
theorem dX11_bestKind_49 : decode cX11_bestKind 49 = .ok (.aload_n 2, 1) := by decide +kernel
theorem dX11_bestKind_50 : decode cX11_bestKind 50 = .ok (.getfield 120, 3) := by decide +kernel
theorem dX11_bestKind_53 : decode cX11_bestKind 53 = .ok (.invokestatic 175, 3) := by decide +kernel
theorem dX11_bestKind_56 : decode cX11_bestKind 56 = .ok (.aload_n 2, 1) := by decide +kernel
theorem dX11_bestKind_57 : decode cX11_bestKind 57 = .ok (.getfield 127, 3) := by decide +kernel
theorem dX11_bestKind_60 : decode cX11_bestKind 60 = .ok (.aload_n 0, 1) := by decide +kernel
theorem dX11_bestKind_61 : decode cX11_bestKind 61 = .ok (.getfield 12, 3) := by decide +kernel
theorem dX11_bestKind_64 : decode cX11_bestKind 64 = .ok (.getfield 88, 3) := by decide +kernel
theorem dX11_bestKind_67 : decode cX11_bestKind 67 = .ok (.invokevirtual 134, 3) := by decide +kernel
theorem dX11_bestKind_70 : decode cX11_bestKind 70 = .ok (.iload 5, 2) := by decide +kernel
theorem dX11_bestKind_72 : decode cX11_bestKind 72 = .ok (.ifCond .eq 15, 3) := by decide +kernel
theorem dX11_bestKind_75 : decode cX11_bestKind 75 = .ok (.aload_n 0, 1) := by decide +kernel
theorem dX11_bestKind_76 : decode cX11_bestKind 76 = .ok (.getfield 29, 3) := by decide +kernel
theorem dX11_bestKind_79 : decode cX11_bestKind 79 = .ok (.getfield 138, 3) := by decide +kernel
theorem dX11_bestKind_82 : decode cX11_bestKind 82 = .ok (.iload 4, 2) := by decide +kernel
theorem dX11_bestKind_84 : decode cX11_bestKind 84 = .ok (.if_icmp .ge 15, 3) := by decide +kernel
theorem dX11_bestKind_87 : decode cX11_bestKind 87 = .ok (.iload 5, 2) := by decide +kernel
theorem dX11_bestKind_89 : decode cX11_bestKind 89 = .ok (.istore_n 3, 1) := by decide +kernel
theorem dX11_bestKind_90 : decode cX11_bestKind 90 = .ok (.aload_n 0, 1) := by decide +kernel
theorem dX11_bestKind_91 : decode cX11_bestKind 91 = .ok (.getfield 29, 3) := by decide +kernel
theorem dX11_bestKind_94 : decode cX11_bestKind 94 = .ok (.getfield 138, 3) := by decide +kernel
theorem dX11_bestKind_97 : decode cX11_bestKind 97 = .ok (.istore 4, 2) := by decide +kernel
theorem dX11_bestKind_99 : decode cX11_bestKind 99 = .ok (.iinc 5 1, 3) := by decide +kernel
theorem dX11_bestKind_102 : decode cX11_bestKind 102 = .ok (.goto (-82), 3) := by decide +kernel
theorem dX11_bestKind_105 : decode cX11_bestKind 105 = .ok (.iload_n 3, 1) := by decide +kernel
theorem dX11_bestKind_106 : decode cX11_bestKind 106 = .ok (.ireturn, 1) := by decide +kernel
theorem dX11_edge_0 : decode cX11_edge 0 = .ok (.aload_n 0, 1) := by decide +kernel
theorem dX11_edge_1 : decode cX11_edge 1 = .ok (.iload_n 1, 1) := by decide +kernel
theorem dX11_edge_2 : decode cX11_edge 2 = .ok (.invokevirtual 109, 3) := by decide +kernel
theorem dX11_edge_5 : decode cX11_edge 5 = .ok (.astore_n 3, 1) := by decide +kernel
theorem dX11_edge_6 : decode cX11_edge 6 = .ok (.aload_n 3, 1) := by decide +kernel
theorem dX11_edge_7 : decode cX11_edge 7 = .ok (.ifnull 14, 3) := by decide +kernel
theorem dX11_edge_10 : decode cX11_edge 10 = .ok (.aload_n 0, 1) := by decide +kernel
theorem dX11_edge_11 : decode cX11_edge 11 = .ok (.getfield 12, 3) := by decide +kernel
theorem dX11_edge_14 : decode cX11_edge 14 = .ok (.iload_n 2, 1) := by decide +kernel
theorem dX11_edge_15 : decode cX11_edge 15 = .ok (.invokevirtual 97, 3) := by decide +kernel
theorem dX11_edge_18 : decode cX11_edge 18 = .ok (.ifCond .ne 5, 3) := by decide +kernel
theorem dX11_edge_21 : decode cX11_edge 21 = .ok (.iconst (-1), 1) := by decide +kernel
theorem dX11_edge_22 : decode cX11_edge 22 = .ok (.ireturn, 1) := by decide +kernel
theorem dX11_edge_23 : decode cX11_edge 23 = .ok (.new 179, 3) := by decide +kernel
theorem dX11_edge_26 : decode cX11_edge 26 = .ok (.dup, 1) := by decide +kernel
theorem dX11_edge_27 : decode cX11_edge 27 = .ok (.aload_n 3, 1) := by decide +kernel
theorem dX11_edge_28 : decode cX11_edge 28 = .ok (.getfield 160, 3) := by decide +kernel
theorem dX11_edge_31 : decode cX11_edge 31 = .ok (.aload_n 3, 1) := by decide +kernel
theorem dX11_edge_32 : decode cX11_edge 32 = .ok (.getfield 117, 3) := by decide +kernel
theorem dX11_edge_35 : decode cX11_edge 35 = .ok (.aload_n 3, 1) := by decide +kernel
theorem dX11_edge_36 : decode cX11_edge 36 = .ok (.getfield 127, 3) := by decide +kernel
theorem dX11_edge_39 : decode cX11_edge 39 = .ok (.aload_n 3, 1) := by decide +kernel
theorem dX11_edge_40 : decode cX11_edge 40 = .ok (.getfield 120, 3) := by decide +kernel
theorem dX11_edge_43 : decode cX11_edge 43 = .ok (.invokespecial 181, 3) := by decide +kernel
theorem dX11_edge_46 : decode cX11_edge 46 = .ok (.astore 4, 2) := by decide +kernel
theorem dX11_edge_48 : decode cX11_edge 48 = .ok (.iconst 0, 1) := by decide +kernel
theorem dX11_edge_49 : decode cX11_edge 49 = .ok (.istore 5, 2) := by decide +kernel
theorem dX11_edge_51 : decode cX11_edge 51 = .ok (.iload 5, 2) := by decide +kernel
theorem dX11_edge_53 : decode cX11_edge 53 = .ok (.bipush 9, 2) := by decide +kernel
theorem dX11_edge_55 : decode cX11_edge 55 = .ok (.if_icmp .gt 73, 3) := by decide +kernel
theorem dX11_edge_58 : decode cX11_edge 58 = .ok (.aload_n 0, 1) := by decide +kernel
theorem dX11_edge_59 : decode cX11_edge 59 = .ok (.getfield 29, 3) := by decide +kernel
theorem dX11_edge_62 : decode cX11_edge 62 = .ok (.aload_n 0, 1) := by decide +kernel
theorem dX11_edge_63 : decode cX11_edge 63 = .ok (.getfield 12, 3) := by decide +kernel
theorem dX11_edge_66 : decode cX11_edge 66 = .ok (.aload 4, 2) := by decide +kernel
theorem dX11_edge_68 : decode cX11_edge 68 = .ok (.iload 5, 2) := by decide +kernel
theorem dX11_edge_70 : decode cX11_edge 70 = .ok (.aload_n 3, 1) := by decide +kernel
theorem dX11_edge_71 : decode cX11_edge 71 = .ok (.getfield 127, 3) := by decide +kernel
theorem dX11_edge_74 : decode cX11_edge 74 = .ok (.aload_n 0, 1) := by decide +kernel
theorem dX11_edge_75 : decode cX11_edge 75 = .ok (.getfield 12, 3) := by decide +kernel
theorem dX11_edge_78 : decode cX11_edge 78 = .ok (.getfield 88, 3) := by decide +kernel
theorem dX11_edge_81 : decode cX11_edge 81 = .ok (.invokevirtual 170, 3) := by decide +kernel
theorem dX11_edge_84 : decode cX11_edge 84 = .ok (.aload_n 0, 1) := by decide +kernel
theorem dX11_edge_85 : decode cX11_edge 85 = .ok (.getfield 29, 3) := by decide +kernel
theorem dX11_edge_88 : decode cX11_edge 88 = .ok (.getfield 155, 3) := by decide +kernel
theorem dX11_edge_91 : decode cX11_edge 91 = .ok (.iload_n 2, 1) := by decide +kernel
theorem dX11_edge_92 : decode cX11_edge 92 = .ok (.iaload, 1) := by decide +kernel
theorem dX11_edge_93 : decode cX11_edge 93 = .ok (.bipush (-4), 2) := by decide +kernel
theorem dX11_edge_95 : decode cX11_edge 95 = .ok (.if_icmp .eq 24, 3) := by decide +kernel
theorem dX11_edge_98 : decode cX11_edge 98 = .ok (.aload_n 0, 1) := by decide +kernel
theorem dX11_edge_99 : decode cX11_edge 99 = .ok (.getfield 29, 3) := by decide +kernel
theorem dX11_edge_102 : decode cX11_edge 102 = .ok (.getfield 155, 3) := by decide +kernel
theorem dX11_edge_105 : decode cX11_edge 105 = .ok (.iload_n 2, 1) := by decide +kernel
theorem dX11_edge_106 : decode cX11_edge 106 = .ok (.iaload, 1) := by decide +kernel
theorem dX11_edge_107 : decode cX11_edge 107 = .ok (.aload_n 0, 1) := by decide +kernel
theorem dX11_edge_108 : decode cX11_edge 108 = .ok (.getfield 12, 3) := by decide +kernel
theorem dX11_edge_111 : decode cX11_edge 111 = .ok (.getfield 100, 3) := by decide +kernel
theorem dX11_edge_114 : decode cX11_edge 114 = .ok (.iload_n 2, 1) := by decide +kernel
theorem dX11_edge_115 : decode cX11_edge 115 = .ok (.iaload, 1) := by decide +kernel
theorem dX11_edge_116 : decode cX11_edge 116 = .ok (.if_icmp .gt 6, 3) := by decide +kernel
theorem dX11_edge_119 : decode cX11_edge 119 = .ok (.iload 5, 2) := by decide +kernel
theorem dX11_edge_121 : decode cX11_edge 121 = .ok (.ireturn, 1) := by decide +kernel
theorem dX11_edge_122 : decode cX11_edge 122 = .ok (.iinc 5 1, 3) := by decide +kernel
theorem dX11_edge_125 : decode cX11_edge 125 = .ok (.goto (-74), 3) := by decide +kernel
theorem dX11_edge_128 : decode cX11_edge 128 = .ok (.bipush (-4), 2) := by decide +kernel
theorem dX11_edge_130 : decode cX11_edge 130 = .ok (.ireturn, 1) := by decide +kernel
theorem dX11_waits_0 : decode cX11_waits 0 = .ok (.iload_n 1, 1) := by decide +kernel
theorem dX11_waits_1 : decode cX11_waits 1 = .ok (.invokestatic 84, 3) := by decide +kernel
theorem dX11_waits_4 : decode cX11_waits 4 = .ok (.ifCond .eq 13, 3) := by decide +kernel
theorem dX11_waits_7 : decode cX11_waits 7 = .ok (.iload_n 2, 1) := by decide +kernel
theorem dX11_waits_8 : decode cX11_waits 8 = .ok (.ifCond .lt 9, 3) := by decide +kernel
theorem dX11_waits_11 : decode cX11_waits 11 = .ok (.iload_n 2, 1) := by decide +kernel
theorem dX11_waits_12 : decode cX11_waits 12 = .ok (.bipush 20, 2) := by decide +kernel
theorem dX11_waits_14 : decode cX11_waits 14 = .ok (.if_icmp .le 5, 3) := by decide +kernel
theorem dX11_waits_17 : decode cX11_waits 17 = .ok (.iconst (-1), 1) := by decide +kernel
theorem dX11_waits_18 : decode cX11_waits 18 = .ok (.ireturn, 1) := by decide +kernel
theorem dX11_waits_19 : decode cX11_waits 19 = .ok (.iload_n 1, 1) := by decide +kernel
theorem dX11_waits_20 : decode cX11_waits 20 = .ok (.iload_n 2, 1) := by decide +kernel
theorem dX11_waits_21 : decode cX11_waits 21 = .ok (.aload_n 0, 1) := by decide +kernel
theorem dX11_waits_22 : decode cX11_waits 22 = .ok (.getfield 12, 3) := by decide +kernel
theorem dX11_waits_25 : decode cX11_waits 25 = .ok (.getfield 88, 3) := by decide +kernel
theorem dX11_waits_28 : decode cX11_waits 28 = .ok (.invokestatic 182, 3) := by decide +kernel
theorem dX11_waits_31 : decode cX11_waits 31 = .ok (.istore_n 3, 1) := by decide +kernel
theorem dX11_waits_32 : decode cX11_waits 32 = .ok (.iload_n 3, 1) := by decide +kernel
theorem dX11_waits_33 : decode cX11_waits 33 = .ok (.sipush 720, 3) := by decide +kernel
theorem dX11_waits_36 : decode cX11_waits 36 = .ok (.if_icmp .ne 8, 3) := by decide +kernel
theorem dX11_waits_39 : decode cX11_waits 39 = .ok (.bipush (-4), 2) := by decide +kernel
theorem dX11_waits_41 : decode cX11_waits 41 = .ok (.goto 6, 3) := by decide +kernel
theorem dX11_waits_44 : decode cX11_waits 44 = .ok (.iload_n 3, 1) := by decide +kernel
theorem dX11_waits_45 : decode cX11_waits 45 = .ok (.iload_n 1, 1) := by decide +kernel
theorem dX11_waits_46 : decode cX11_waits 46 = .ok (.isub, 1) := by decide +kernel
theorem dX11_waits_47 : decode cX11_waits 47 = .ok (.ireturn, 1) := by decide +kernel
theorem dX11_learn_0 : decode cX11_learn 0 = .ok (.iload_n 2, 1) := by decide +kernel
theorem dX11_learn_1 : decode cX11_learn 1 = .ok (.ifCond .lt 8, 3) := by decide +kernel
theorem dX11_learn_4 : decode cX11_learn 4 = .ok (.iload_n 2, 1) := by decide +kernel
theorem dX11_learn_5 : decode cX11_learn 5 = .ok (.iconst 2, 1) := by decide +kernel
theorem dX11_learn_6 : decode cX11_learn 6 = .ok (.if_icmp .le 5, 3) := by decide +kernel
theorem dX11_learn_9 : decode cX11_learn 9 = .ok (.iconst (-1), 1) := by decide +kernel
theorem dX11_learn_10 : decode cX11_learn 10 = .ok (.ireturn, 1) := by decide +kernel
theorem dX11_learn_11 : decode cX11_learn 11 = .ok (.aload_n 0, 1) := by decide +kernel
theorem dX11_learn_12 : decode cX11_learn 12 = .ok (.iload_n 1, 1) := by decide +kernel
theorem dX11_learn_13 : decode cX11_learn 13 = .ok (.iconst 2, 1) := by decide +kernel
theorem dX11_learn_14 : decode cX11_learn 14 = .ok (.invokevirtual 56, 3) := by decide +kernel
theorem dX11_learn_17 : decode cX11_learn 17 = .ok (.istore_n 3, 1) := by decide +kernel
theorem dX11_learn_18 : decode cX11_learn 18 = .ok (.iload_n 3, 1) := by decide +kernel
theorem dX11_learn_19 : decode cX11_learn 19 = .ok (.ifCond .eq 5, 3) := by decide +kernel
theorem dX11_learn_22 : decode cX11_learn 22 = .ok (.iload_n 3, 1) := by decide +kernel
theorem dX11_learn_23 : decode cX11_learn 23 = .ok (.ireturn, 1) := by decide +kernel
theorem dX11_learn_24 : decode cX11_learn 24 = .ok (.aload_n 0, 1) := by decide +kernel
theorem dX11_learn_25 : decode cX11_learn 25 = .ok (.getfield 51, 3) := by decide +kernel
theorem dX11_learn_28 : decode cX11_learn 28 = .ok (.iload_n 1, 1) := by decide +kernel
theorem dX11_learn_29 : decode cX11_learn 29 = .ok (.aaload, 1) := by decide +kernel
theorem dX11_learn_30 : decode cX11_learn 30 = .ok (.astore 4, 2) := by decide +kernel
theorem dX11_learn_32 : decode cX11_learn 32 = .ok (.aload 4, 2) := by decide +kernel
theorem dX11_learn_34 : decode cX11_learn 34 = .ok (.invokestatic 185, 3) := by decide +kernel
theorem dX11_learn_37 : decode cX11_learn 37 = .ok (.ifCond .ne 6, 3) := by decide +kernel
theorem dX11_learn_40 : decode cX11_learn 40 = .ok (.bipush (-13), 2) := by decide +kernel
theorem dX11_learn_42 : decode cX11_learn 42 = .ok (.ireturn, 1) := by decide +kernel
theorem dX11_learn_43 : decode cX11_learn 43 = .ok (.iconst 0, 1) := by decide +kernel
theorem dX11_learn_44 : decode cX11_learn 44 = .ok (.istore 5, 2) := by decide +kernel
theorem dX11_learn_46 : decode cX11_learn 46 = .ok (.bipush (-4), 2) := by decide +kernel
theorem dX11_learn_48 : decode cX11_learn 48 = .ok (.istore 6, 2) := by decide +kernel
theorem dX11_learn_50 : decode cX11_learn 50 = .ok (.bipush (-4), 2) := by decide +kernel
theorem dX11_learn_52 : decode cX11_learn 52 = .ok (.istore 7, 2) := by decide +kernel
theorem dX11_learn_54 : decode cX11_learn 54 = .ok (.bipush (-20), 2) := by decide +kernel
theorem dX11_learn_56 : decode cX11_learn 56 = .ok (.istore 8, 2) := by decide +kernel
theorem dX11_learn_58 : decode cX11_learn 58 = .ok (.iload 8, 2) := by decide +kernel
theorem dX11_learn_60 : decode cX11_learn 60 = .ok (.bipush 20, 2) := by decide +kernel
theorem dX11_learn_62 : decode cX11_learn 62 = .ok (.if_icmp .gt 44, 3) := by decide +kernel
theorem dX11_learn_65 : decode cX11_learn 65 = .ok (.aload 4, 2) := by decide +kernel
theorem dX11_learn_67 : decode cX11_learn 67 = .ok (.iload 8, 2) := by decide +kernel
theorem dX11_learn_69 : decode cX11_learn 69 = .ok (.invokestatic 189, 3) := by decide +kernel
theorem dX11_learn_72 : decode cX11_learn 72 = .ok (.ifCond .ne 6, 3) := by decide +kernel
theorem dX11_learn_75 : decode cX11_learn 75 = .ok (.goto 25, 3) := by decide +kernel
theorem dX11_learn_78 : decode cX11_learn 78 = .ok (.iload 5, 2) := by decide +kernel
theorem dX11_learn_80 : decode cX11_learn 80 = .ok (.ifCond .ne 10, 3) := by decide +kernel
theorem dX11_learn_83 : decode cX11_learn 83 = .ok (.iload 8, 2) := by decide +kernel
theorem dX11_learn_85 : decode cX11_learn 85 = .ok (.bipush 20, 2) := by decide +kernel
theorem dX11_learn_87 : decode cX11_learn 87 = .ok (.iadd, 1) := by decide +kernel
theorem dX11_learn_88 : decode cX11_learn 88 = .ok (.istore 6, 2) := by decide +kernel
theorem dX11_learn_90 : decode cX11_learn 90 = .ok (.iload 8, 2) := by decide +kernel
theorem dX11_learn_92 : decode cX11_learn 92 = .ok (.bipush 20, 2) := by decide +kernel
theorem dX11_learn_94 : decode cX11_learn 94 = .ok (.iadd, 1) := by decide +kernel
theorem dX11_learn_95 : decode cX11_learn 95 = .ok (.istore 7, 2) := by decide +kernel
theorem dX11_learn_97 : decode cX11_learn 97 = .ok (.iinc 5 1, 3) := by decide +kernel
theorem dX11_learn_100 : decode cX11_learn 100 = .ok (.iinc 8 1, 3) := by decide +kernel
theorem dX11_learn_103 : decode cX11_learn 103 = .ok (.goto (-45), 3) := by decide +kernel
theorem dX11_learn_106 : decode cX11_learn 106 = .ok (.iload_n 2, 1) := by decide +kernel
theorem dX11_learn_107 : decode cX11_learn 107 = .ok (.ifCond .ne 8, 3) := by decide +kernel
theorem dX11_learn_110 : decode cX11_learn 110 = .ok (.iload 5, 2) := by decide +kernel
theorem dX11_learn_112 : decode cX11_learn 112 = .ok (.goto 15, 3) := by decide +kernel
theorem dX11_learn_115 : decode cX11_learn 115 = .ok (.iload_n 2, 1) := by decide +kernel
theorem dX11_learn_116 : decode cX11_learn 116 = .ok (.iconst 1, 1) := by decide +kernel
theorem dX11_learn_117 : decode cX11_learn 117 = .ok (.if_icmp .ne 8, 3) := by decide +kernel
theorem dX11_learn_120 : decode cX11_learn 120 = .ok (.iload 6, 2) := by decide +kernel
theorem dX11_learn_122 : decode cX11_learn 122 = .ok (.goto 5, 3) := by decide +kernel
theorem dX11_learn_125 : decode cX11_learn 125 = .ok (.iload 7, 2) := by decide +kernel
theorem dX11_learn_127 : decode cX11_learn 127 = .ok (.ireturn, 1) := by decide +kernel
theorem dX11_shared_0 : decode cX11_shared 0 = .ok (.iload_n 1, 1) := by decide +kernel
theorem dX11_shared_1 : decode cX11_shared 1 = .ok (.invokestatic 84, 3) := by decide +kernel
theorem dX11_shared_4 : decode cX11_shared 4 = .ok (.ifCond .eq 14, 3) := by decide +kernel
theorem dX11_shared_7 : decode cX11_shared 7 = .ok (.iload_n 2, 1) := by decide +kernel
theorem dX11_shared_8 : decode cX11_shared 8 = .ok (.iconst 1, 1) := by decide +kernel
theorem dX11_shared_9 : decode cX11_shared 9 = .ok (.if_icmp .lt 9, 3) := by decide +kernel
theorem dX11_shared_12 : decode cX11_shared 12 = .ok (.iload_n 2, 1) := by decide +kernel
theorem dX11_shared_13 : decode cX11_shared 13 = .ok (.bipush 9, 2) := by decide +kernel
theorem dX11_shared_15 : decode cX11_shared 15 = .ok (.if_icmp .le 5, 3) := by decide +kernel
theorem dX11_shared_18 : decode cX11_shared 18 = .ok (.iconst (-1), 1) := by decide +kernel
theorem dX11_shared_19 : decode cX11_shared 19 = .ok (.ireturn, 1) := by decide +kernel
theorem dX11_shared_20 : decode cX11_shared 20 = .ok (.iload_n 1, 1) := by decide +kernel
theorem dX11_shared_21 : decode cX11_shared 21 = .ok (.aload_n 0, 1) := by decide +kernel
theorem dX11_shared_22 : decode cX11_shared 22 = .ok (.getfield 12, 3) := by decide +kernel
theorem dX11_shared_25 : decode cX11_shared 25 = .ok (.getfield 88, 3) := by decide +kernel
theorem dX11_shared_28 : decode cX11_shared 28 = .ok (.invokestatic 91, 3) := by decide +kernel
theorem dX11_shared_31 : decode cX11_shared 31 = .ok (.iload_n 2, 1) := by decide +kernel
theorem dX11_shared_32 : decode cX11_shared 32 = .ok (.invokestatic 193, 3) := by decide +kernel
theorem dX11_shared_35 : decode cX11_shared 35 = .ok (.ireturn, 1) := by decide +kernel
theorem dX11_nine_0 : decode cX11_nine 0 = .ok (.iload_n 1, 1) := by decide +kernel
theorem dX11_nine_1 : decode cX11_nine 1 = .ok (.invokestatic 84, 3) := by decide +kernel
theorem dX11_nine_4 : decode cX11_nine 4 = .ok (.ifCond .eq 14, 3) := by decide +kernel
theorem dX11_nine_7 : decode cX11_nine 7 = .ok (.iload_n 2, 1) := by decide +kernel
theorem dX11_nine_8 : decode cX11_nine 8 = .ok (.iconst 1, 1) := by decide +kernel
theorem dX11_nine_9 : decode cX11_nine 9 = .ok (.if_icmp .lt 9, 3) := by decide +kernel
theorem dX11_nine_12 : decode cX11_nine 12 = .ok (.iload_n 2, 1) := by decide +kernel
theorem dX11_nine_13 : decode cX11_nine 13 = .ok (.bipush 20, 2) := by decide +kernel
theorem dX11_nine_15 : decode cX11_nine 15 = .ok (.if_icmp .le 5, 3) := by decide +kernel
theorem dX11_nine_18 : decode cX11_nine 18 = .ok (.iconst (-1), 1) := by decide +kernel
theorem dX11_nine_19 : decode cX11_nine 19 = .ok (.ireturn, 1) := by decide +kernel
theorem dX11_nine_20 : decode cX11_nine 20 = .ok (.iload_n 1, 1) := by decide +kernel
theorem dX11_nine_21 : decode cX11_nine 21 = .ok (.aload_n 0, 1) := by decide +kernel
theorem dX11_nine_22 : decode cX11_nine 22 = .ok (.getfield 12, 3) := by decide +kernel
theorem dX11_nine_25 : decode cX11_nine 25 = .ok (.getfield 88, 3) := by decide +kernel
theorem dX11_nine_28 : decode cX11_nine 28 = .ok (.invokestatic 91, 3) := by decide +kernel
theorem dX11_nine_31 : decode cX11_nine 31 = .ok (.istore_n 3, 1) := by decide +kernel
theorem dX11_nine_32 : decode cX11_nine 32 = .ok (.iconst 1, 1) := by decide +kernel
theorem dX11_nine_33 : decode cX11_nine 33 = .ok (.istore 4, 2) := by decide +kernel
theorem dX11_nine_35 : decode cX11_nine 35 = .ok (.iload 4, 2) := by decide +kernel
theorem dX11_nine_37 : decode cX11_nine 37 = .ok (.bipush 9, 2) := by decide +kernel
theorem dX11_nine_39 : decode cX11_nine 39 = .ok (.if_icmp .gt 22, 3) := by decide +kernel
theorem dX11_nine_42 : decode cX11_nine 42 = .ok (.iload_n 3, 1) := by decide +kernel
theorem dX11_nine_43 : decode cX11_nine 43 = .ok (.iload 4, 2) := by decide +kernel
theorem dX11_nine_45 : decode cX11_nine 45 = .ok (.invokestatic 193, 3) := by decide +kernel
theorem dX11_nine_48 : decode cX11_nine 48 = .ok (.iload_n 2, 1) := by decide +kernel
theorem dX11_nine_49 : decode cX11_nine 49 = .ok (.if_icmp .gt 6, 3) := by decide +kernel
theorem dX11_nine_52 : decode cX11_nine 52 = .ok (.iload 4, 2) := by decide +kernel
theorem dX11_nine_54 : decode cX11_nine 54 = .ok (.ireturn, 1) := by decide +kernel
theorem dX11_nine_55 : decode cX11_nine 55 = .ok (.iinc 4 1, 3) := by decide +kernel
theorem dX11_nine_58 : decode cX11_nine 58 = .ok (.goto (-23), 3) := by decide +kernel
theorem dX11_nine_61 : decode cX11_nine 61 = .ok (.bipush (-4), 2) := by decide +kernel
theorem dX11_nine_63 : decode cX11_nine 63 = .ok (.ireturn, 1) := by decide +kernel
theorem dX11_buys_0 : decode cX11_buys 0 = .ok (.iload_n 1, 1) := by decide +kernel
theorem dX11_buys_1 : decode cX11_buys 1 = .ok (.iload_n 2, 1) := by decide +kernel
theorem dX11_buys_2 : decode cX11_buys 2 = .ok (.iload 4, 2) := by decide +kernel
theorem dX11_buys_4 : decode cX11_buys 4 = .ok (.invokestatic 196, 3) := by decide +kernel
theorem dX11_buys_7 : decode cX11_buys 7 = .ok (.ifCond .eq 13, 3) := by decide +kernel
theorem dX11_buys_10 : decode cX11_buys 10 = .ok (.iload_n 3, 1) := by decide +kernel
theorem dX11_buys_11 : decode cX11_buys 11 = .ok (.ifCond .lt 9, 3) := by decide +kernel
theorem dX11_buys_14 : decode cX11_buys 14 = .ok (.iload_n 3, 1) := by decide +kernel
theorem dX11_buys_15 : decode cX11_buys 15 = .ok (.bipush 12, 2) := by decide +kernel
theorem dX11_buys_17 : decode cX11_buys 17 = .ok (.if_icmp .le 5, 3) := by decide +kernel
theorem dX11_buys_20 : decode cX11_buys 20 = .ok (.iconst (-1), 1) := by decide +kernel
theorem dX11_buys_21 : decode cX11_buys 21 = .ok (.ireturn, 1) := by decide +kernel
theorem dX11_buys_22 : decode cX11_buys 22 = .ok (.iload_n 3, 1) := by decide +kernel
theorem dX11_buys_23 : decode cX11_buys 23 = .ok (.iload_n 2, 1) := by decide +kernel
theorem dX11_buys_24 : decode cX11_buys 24 = .ok (.iload 4, 2) := by decide +kernel
theorem dX11_buys_26 : decode cX11_buys 26 = .ok (.imul, 1) := by decide +kernel
theorem dX11_buys_27 : decode cX11_buys 27 = .ok (.iadd, 1) := by decide +kernel
theorem dX11_buys_28 : decode cX11_buys 28 = .ok (.iload_n 1, 1) := by decide +kernel
theorem dX11_buys_29 : decode cX11_buys 29 = .ok (.aload_n 0, 1) := by decide +kernel
theorem dX11_buys_30 : decode cX11_buys 30 = .ok (.getfield 12, 3) := by decide +kernel
theorem dX11_buys_33 : decode cX11_buys 33 = .ok (.getfield 88, 3) := by decide +kernel
theorem dX11_buys_36 : decode cX11_buys 36 = .ok (.invokestatic 91, 3) := by decide +kernel
theorem dX11_buys_39 : decode cX11_buys 39 = .ok (.if_icmp .ge 7, 3) := by decide +kernel
theorem dX11_buys_42 : decode cX11_buys 42 = .ok (.iconst 1, 1) := by decide +kernel
theorem dX11_buys_43 : decode cX11_buys 43 = .ok (.goto 4, 3) := by decide +kernel
theorem dX11_buys_46 : decode cX11_buys 46 = .ok (.iconst 0, 1) := by decide +kernel
theorem dX11_buys_47 : decode cX11_buys 47 = .ok (.ireturn, 1) := by decide +kernel
theorem dX11_rest_0 : decode cX11_rest 0 = .ok (.iload_n 1, 1) := by decide +kernel
theorem dX11_rest_1 : decode cX11_rest 1 = .ok (.iload_n 2, 1) := by decide +kernel
theorem dX11_rest_2 : decode cX11_rest 2 = .ok (.iload_n 3, 1) := by decide +kernel
theorem dX11_rest_3 : decode cX11_rest 3 = .ok (.invokestatic 196, 3) := by decide +kernel
theorem dX11_rest_6 : decode cX11_rest 6 = .ok (.ifCond .ne 5, 3) := by decide +kernel
theorem dX11_rest_9 : decode cX11_rest 9 = .ok (.iconst (-1), 1) := by decide +kernel
theorem dX11_rest_10 : decode cX11_rest 10 = .ok (.ireturn, 1) := by decide +kernel
theorem dX11_rest_11 : decode cX11_rest 11 = .ok (.iload_n 1, 1) := by decide +kernel
theorem dX11_rest_12 : decode cX11_rest 12 = .ok (.aload_n 0, 1) := by decide +kernel
theorem dX11_rest_13 : decode cX11_rest 13 = .ok (.getfield 12, 3) := by decide +kernel
theorem dX11_rest_16 : decode cX11_rest 16 = .ok (.getfield 88, 3) := by decide +kernel
theorem dX11_rest_19 : decode cX11_rest 19 = .ok (.invokestatic 91, 3) := by decide +kernel
theorem dX11_rest_22 : decode cX11_rest 22 = .ok (.iload_n 2, 1) := by decide +kernel
theorem dX11_rest_23 : decode cX11_rest 23 = .ok (.iload_n 3, 1) := by decide +kernel
theorem dX11_rest_24 : decode cX11_rest 24 = .ok (.imul, 1) := by decide +kernel
theorem dX11_rest_25 : decode cX11_rest 25 = .ok (.isub, 1) := by decide +kernel
theorem dX11_rest_26 : decode cX11_rest 26 = .ok (.iconst 1, 1) := by decide +kernel
theorem dX11_rest_27 : decode cX11_rest 27 = .ok (.isub, 1) := by decide +kernel
theorem dX11_rest_28 : decode cX11_rest 28 = .ok (.istore 4, 2) := by decide +kernel
theorem dX11_rest_30 : decode cX11_rest 30 = .ok (.iload 4, 2) := by decide +kernel
theorem dX11_rest_32 : decode cX11_rest 32 = .ok (.ifCond .ge 8, 3) := by decide +kernel
theorem dX11_rest_35 : decode cX11_rest 35 = .ok (.bipush (-4), 2) := by decide +kernel
theorem dX11_rest_37 : decode cX11_rest 37 = .ok (.goto 10, 3) := by decide +kernel
theorem dX11_rest_40 : decode cX11_rest 40 = .ok (.iload 4, 2) := by decide +kernel
theorem dX11_rest_42 : decode cX11_rest 42 = .ok (.bipush 12, 2) := by decide +kernel
theorem dX11_rest_44 : decode cX11_rest 44 = .ok (.invokestatic 200, 3) := by decide +kernel
theorem dX11_rest_47 : decode cX11_rest 47 = .ok (.ireturn, 1) := by decide +kernel
theorem dX11_cheaper_0 : decode cX11_cheaper 0 = .ok (.iload_n 1, 1) := by decide +kernel
theorem dX11_cheaper_1 : decode cX11_cheaper 1 = .ok (.invokestatic 84, 3) := by decide +kernel
theorem dX11_cheaper_4 : decode cX11_cheaper 4 = .ok (.ifCond .ne 5, 3) := by decide +kernel
theorem dX11_cheaper_7 : decode cX11_cheaper 7 = .ok (.iconst (-1), 1) := by decide +kernel
theorem dX11_cheaper_8 : decode cX11_cheaper 8 = .ok (.ireturn, 1) := by decide +kernel
theorem dX11_cheaper_9 : decode cX11_cheaper 9 = .ok (.iload_n 1, 1) := by decide +kernel
theorem dX11_cheaper_10 : decode cX11_cheaper 10 = .ok (.aload_n 0, 1) := by decide +kernel
theorem dX11_cheaper_11 : decode cX11_cheaper 11 = .ok (.getfield 12, 3) := by decide +kernel
theorem dX11_cheaper_14 : decode cX11_cheaper 14 = .ok (.getfield 88, 3) := by decide +kernel
theorem dX11_cheaper_17 : decode cX11_cheaper 17 = .ok (.invokestatic 91, 3) := by decide +kernel
theorem dX11_cheaper_20 : decode cX11_cheaper 20 = .ok (.iload_n 1, 1) := by decide +kernel
theorem dX11_cheaper_21 : decode cX11_cheaper 21 = .ok (.aload_n 0, 1) := by decide +kernel
theorem dX11_cheaper_22 : decode cX11_cheaper 22 = .ok (.getfield 12, 3) := by decide +kernel
theorem dX11_cheaper_25 : decode cX11_cheaper 25 = .ok (.getfield 88, 3) := by decide +kernel
theorem dX11_cheaper_28 : decode cX11_cheaper 28 = .ok (.invokestatic 205, 3) := by decide +kernel
theorem dX11_cheaper_31 : decode cX11_cheaper 31 = .ok (.invokestatic 200, 3) := by decide +kernel
theorem dX11_cheaper_34 : decode cX11_cheaper 34 = .ok (.ireturn, 1) := by decide +kernel
theorem dX11_otherCheaper_0 : decode cX11_otherCheaper 0 = .ok (.iconst 0, 1) := by decide +kernel
theorem dX11_otherCheaper_1 : decode cX11_otherCheaper 1 = .ok (.istore_n 1, 1) := by decide +kernel
theorem dX11_otherCheaper_2 : decode cX11_otherCheaper 2 = .ok (.iconst 0, 1) := by decide +kernel
theorem dX11_otherCheaper_3 : decode cX11_otherCheaper 3 = .ok (.istore_n 2, 1) := by decide +kernel
theorem dX11_otherCheaper_4 : decode cX11_otherCheaper 4 = .ok (.iload_n 2, 1) := by decide +kernel
theorem dX11_otherCheaper_5 : decode cX11_otherCheaper 5 = .ok (.sipush 719, 3) := by decide +kernel
theorem dX11_otherCheaper_8 : decode cX11_otherCheaper 8 = .ok (.if_icmp .gt 37, 3) := by decide +kernel
theorem dX11_otherCheaper_11 : decode cX11_otherCheaper 11 = .ok (.iload_n 2, 1) := by decide +kernel
theorem dX11_otherCheaper_12 : decode cX11_otherCheaper 12 = .ok (.aload_n 0, 1) := by decide +kernel
theorem dX11_otherCheaper_13 : decode cX11_otherCheaper 13 = .ok (.getfield 12, 3) := by decide +kernel
theorem dX11_otherCheaper_16 : decode cX11_otherCheaper 16 = .ok (.getfield 88, 3) := by decide +kernel
theorem dX11_otherCheaper_19 : decode cX11_otherCheaper 19 = .ok (.invokestatic 205, 3) := by decide +kernel
theorem dX11_otherCheaper_22 : decode cX11_otherCheaper 22 = .ok (.iload_n 2, 1) := by decide +kernel
theorem dX11_otherCheaper_23 : decode cX11_otherCheaper 23 = .ok (.aload_n 0, 1) := by decide +kernel
theorem dX11_otherCheaper_24 : decode cX11_otherCheaper 24 = .ok (.getfield 12, 3) := by decide +kernel
theorem dX11_otherCheaper_27 : decode cX11_otherCheaper 27 = .ok (.getfield 88, 3) := by decide +kernel
theorem dX11_otherCheaper_30 : decode cX11_otherCheaper 30 = .ok (.invokestatic 91, 3) := by decide +kernel
theorem dX11_otherCheaper_33 : decode cX11_otherCheaper 33 = .ok (.if_icmp .ge 6, 3) := by decide +kernel
theorem dX11_otherCheaper_36 : decode cX11_otherCheaper 36 = .ok (.iinc 1 1, 3) := by decide +kernel
theorem dX11_otherCheaper_39 : decode cX11_otherCheaper 39 = .ok (.iinc 2 1, 3) := by decide +kernel
theorem dX11_otherCheaper_42 : decode cX11_otherCheaper 42 = .ok (.goto (-38), 3) := by decide +kernel
theorem dX11_otherCheaper_45 : decode cX11_otherCheaper 45 = .ok (.iload_n 1, 1) := by decide +kernel
theorem dX11_otherCheaper_46 : decode cX11_otherCheaper 46 = .ok (.ireturn, 1) := by decide +kernel
theorem dX11_byLaw_0 : decode cX11_byLaw 0 = .ok (.aload_n 0, 1) := by decide +kernel
theorem dX11_byLaw_1 : decode cX11_byLaw 1 = .ok (.iload_n 1, 1) := by decide +kernel
theorem dX11_byLaw_2 : decode cX11_byLaw 2 = .ok (.invokevirtual 109, 3) := by decide +kernel
theorem dX11_byLaw_5 : decode cX11_byLaw 5 = .ok (.astore_n 3, 1) := by decide +kernel
theorem dX11_byLaw_6 : decode cX11_byLaw 6 = .ok (.aload_n 3, 1) := by decide +kernel
theorem dX11_byLaw_7 : decode cX11_byLaw 7 = .ok (.ifnull 12, 3) := by decide +kernel
theorem dX11_byLaw_10 : decode cX11_byLaw 10 = .ok (.iload_n 2, 1) := by decide +kernel
theorem dX11_byLaw_11 : decode cX11_byLaw 11 = .ok (.ifCond .lt 8, 3) := by decide +kernel
theorem dX11_byLaw_14 : decode cX11_byLaw 14 = .ok (.iload_n 2, 1) := by decide +kernel
theorem dX11_byLaw_15 : decode cX11_byLaw 15 = .ok (.iconst 3, 1) := by decide +kernel
theorem dX11_byLaw_16 : decode cX11_byLaw 16 = .ok (.if_icmp .lt 5, 3) := by decide +kernel
theorem dX11_byLaw_19 : decode cX11_byLaw 19 = .ok (.iconst (-1), 1) := by decide +kernel
theorem dX11_byLaw_20 : decode cX11_byLaw 20 = .ok (.ireturn, 1) := by decide +kernel
theorem dX11_byLaw_21 : decode cX11_byLaw 21 = .ok (.aload_n 0, 1) := by decide +kernel
theorem dX11_byLaw_22 : decode cX11_byLaw 22 = .ok (.getfield 29, 3) := by decide +kernel
theorem dX11_byLaw_25 : decode cX11_byLaw 25 = .ok (.aload_n 0, 1) := by decide +kernel
theorem dX11_byLaw_26 : decode cX11_byLaw 26 = .ok (.getfield 12, 3) := by decide +kernel
theorem dX11_byLaw_29 : decode cX11_byLaw 29 = .ok (.aload_n 3, 1) := by decide +kernel
theorem dX11_byLaw_30 : decode cX11_byLaw 30 = .ok (.aload_n 3, 1) := by decide +kernel
theorem dX11_byLaw_31 : decode cX11_byLaw 31 = .ok (.getfield 127, 3) := by decide +kernel
theorem dX11_byLaw_34 : decode cX11_byLaw 34 = .ok (.iload_n 2, 1) := by decide +kernel
theorem dX11_byLaw_35 : decode cX11_byLaw 35 = .ok (.invokevirtual 134, 3) := by decide +kernel
theorem dX11_byLaw_38 : decode cX11_byLaw 38 = .ok (.aload_n 0, 1) := by decide +kernel
theorem dX11_byLaw_39 : decode cX11_byLaw 39 = .ok (.getfield 29, 3) := by decide +kernel
theorem dX11_byLaw_42 : decode cX11_byLaw 42 = .ok (.getfield 138, 3) := by decide +kernel
theorem dX11_byLaw_45 : decode cX11_byLaw 45 = .ok (.ireturn, 1) := by decide +kernel
theorem dX11_sum_0 : decode cX11_sum 0 = .ok (.aload_n 0, 1) := by decide +kernel
theorem dX11_sum_1 : decode cX11_sum 1 = .ok (.invokevirtual 208, 3) := by decide +kernel
theorem dX11_sum_4 : decode cX11_sum 4 = .ok (.iconst 0, 1) := by decide +kernel
theorem dX11_sum_5 : decode cX11_sum 5 = .ok (.istore_n 1, 1) := by decide +kernel
theorem dX11_sum_6 : decode cX11_sum 6 = .ok (.iconst 0, 1) := by decide +kernel
theorem dX11_sum_7 : decode cX11_sum 7 = .ok (.istore_n 2, 1) := by decide +kernel
theorem dX11_sum_8 : decode cX11_sum 8 = .ok (.iload_n 2, 1) := by decide +kernel
theorem dX11_sum_9 : decode cX11_sum 9 = .ok (.bipush 6, 2) := by decide +kernel
theorem dX11_sum_11 : decode cX11_sum 11 = .ok (.if_icmp .ge 29, 3) := by decide +kernel
theorem dX11_sum_14 : decode cX11_sum 14 = .ok (.iload_n 2, 1) := by decide +kernel
theorem dX11_sum_15 : decode cX11_sum 15 = .ok (.aload_n 0, 1) := by decide +kernel
theorem dX11_sum_16 : decode cX11_sum 16 = .ok (.getfield 12, 3) := by decide +kernel
theorem dX11_sum_19 : decode cX11_sum 19 = .ok (.getfield 211, 3) := by decide +kernel
theorem dX11_sum_22 : decode cX11_sum 22 = .ok (.if_icmp .ge 18, 3) := by decide +kernel
theorem dX11_sum_25 : decode cX11_sum 25 = .ok (.iload_n 1, 1) := by decide +kernel
theorem dX11_sum_26 : decode cX11_sum 26 = .ok (.aload_n 0, 1) := by decide +kernel
theorem dX11_sum_27 : decode cX11_sum 27 = .ok (.getfield 37, 3) := by decide +kernel
theorem dX11_sum_30 : decode cX11_sum 30 = .ok (.iload_n 2, 1) := by decide +kernel
theorem dX11_sum_31 : decode cX11_sum 31 = .ok (.iaload, 1) := by decide +kernel
theorem dX11_sum_32 : decode cX11_sum 32 = .ok (.iadd, 1) := by decide +kernel
theorem dX11_sum_33 : decode cX11_sum 33 = .ok (.istore_n 1, 1) := by decide +kernel
theorem dX11_sum_34 : decode cX11_sum 34 = .ok (.iinc 2 1, 3) := by decide +kernel
theorem dX11_sum_37 : decode cX11_sum 37 = .ok (.goto (-29), 3) := by decide +kernel
theorem dX11_sum_40 : decode cX11_sum 40 = .ok (.iload_n 1, 1) := by decide +kernel
theorem dX11_sum_41 : decode cX11_sum 41 = .ok (.ireturn, 1) := by decide +kernel
theorem dX11_order_0 : decode cX11_order 0 = .ok (.aload_n 0, 1) := by decide +kernel
theorem dX11_order_1 : decode cX11_order 1 = .ok (.invokevirtual 208, 3) := by decide +kernel
theorem dX11_order_4 : decode cX11_order 4 = .ok (.iconst 0, 1) := by decide +kernel
theorem dX11_order_5 : decode cX11_order 5 = .ok (.istore_n 1, 1) := by decide +kernel
theorem dX11_order_6 : decode cX11_order 6 = .ok (.iconst 0, 1) := by decide +kernel
theorem dX11_order_7 : decode cX11_order 7 = .ok (.istore_n 2, 1) := by decide +kernel
theorem dX11_order_8 : decode cX11_order 8 = .ok (.iload_n 2, 1) := by decide +kernel
theorem dX11_order_9 : decode cX11_order 9 = .ok (.bipush 6, 2) := by decide +kernel
theorem dX11_order_11 : decode cX11_order 11 = .ok (.if_icmp .ge 30, 3) := by decide +kernel
theorem dX11_order_14 : decode cX11_order 14 = .ok (.iload_n 2, 1) := by decide +kernel
theorem dX11_order_15 : decode cX11_order 15 = .ok (.aload_n 0, 1) := by decide +kernel
theorem dX11_order_16 : decode cX11_order 16 = .ok (.getfield 12, 3) := by decide +kernel
theorem dX11_order_19 : decode cX11_order 19 = .ok (.getfield 211, 3) := by decide +kernel
theorem dX11_order_22 : decode cX11_order 22 = .ok (.if_icmp .ge 19, 3) := by decide +kernel
theorem dX11_order_25 : decode cX11_order 25 = .ok (.iload_n 1, 1) := by decide +kernel
theorem dX11_order_26 : decode cX11_order 26 = .ok (.iload_n 2, 1) := by decide +kernel
theorem dX11_order_27 : decode cX11_order 27 = .ok (.aload_n 0, 1) := by decide +kernel
theorem dX11_order_28 : decode cX11_order 28 = .ok (.iload_n 2, 1) := by decide +kernel
theorem dX11_order_29 : decode cX11_order 29 = .ok (.invokevirtual 214, 3) := by decide +kernel
theorem dX11_order_32 : decode cX11_order 32 = .ok (.imul, 1) := by decide +kernel
theorem dX11_order_33 : decode cX11_order 33 = .ok (.iadd, 1) := by decide +kernel
theorem dX11_order_34 : decode cX11_order 34 = .ok (.istore_n 1, 1) := by decide +kernel
theorem dX11_order_35 : decode cX11_order 35 = .ok (.iinc 2 1, 3) := by decide +kernel
theorem dX11_order_38 : decode cX11_order 38 = .ok (.goto (-30), 3) := by decide +kernel
theorem dX11_order_41 : decode cX11_order 41 = .ok (.iload_n 1, 1) := by decide +kernel
theorem dX11_order_42 : decode cX11_order 42 = .ok (.ireturn, 1) := by decide +kernel
theorem dX11_seeded_0 : decode cX11_seeded 0 = .ok (.aload_n 0, 1) := by decide +kernel
theorem dX11_seeded_1 : decode cX11_seeded 1 = .ok (.iload_n 1, 1) := by decide +kernel
theorem dX11_seeded_2 : decode cX11_seeded 2 = .ok (.invokevirtual 109, 3) := by decide +kernel
theorem dX11_seeded_5 : decode cX11_seeded 5 = .ok (.astore 5, 2) := by decide +kernel
theorem dX11_seeded_7 : decode cX11_seeded 7 = .ok (.aload 5, 2) := by decide +kernel
theorem dX11_seeded_9 : decode cX11_seeded 9 = .ok (.ifnull 25, 3) := by decide +kernel
theorem dX11_seeded_12 : decode cX11_seeded 12 = .ok (.iload_n 2, 1) := by decide +kernel
theorem dX11_seeded_13 : decode cX11_seeded 13 = .ok (.iconst 1, 1) := by decide +kernel
theorem dX11_seeded_14 : decode cX11_seeded 14 = .ok (.if_icmp .lt 20, 3) := by decide +kernel
theorem dX11_seeded_17 : decode cX11_seeded 17 = .ok (.iload_n 2, 1) := by decide +kernel
theorem dX11_seeded_18 : decode cX11_seeded 18 = .ok (.bipush 20, 2) := by decide +kernel
theorem dX11_seeded_20 : decode cX11_seeded 20 = .ok (.if_icmp .gt 14, 3) := by decide +kernel
theorem dX11_seeded_23 : decode cX11_seeded 23 = .ok (.iload 4, 2) := by decide +kernel
theorem dX11_seeded_25 : decode cX11_seeded 25 = .ok (.ifCond .lt 9, 3) := by decide +kernel
theorem dX11_seeded_28 : decode cX11_seeded 28 = .ok (.iload 4, 2) := by decide +kernel
theorem dX11_seeded_30 : decode cX11_seeded 30 = .ok (.iconst 2, 1) := by decide +kernel
theorem dX11_seeded_31 : decode cX11_seeded 31 = .ok (.if_icmp .le 5, 3) := by decide +kernel
theorem dX11_seeded_34 : decode cX11_seeded 34 = .ok (.iconst (-1), 1) := by decide +kernel
theorem dX11_seeded_35 : decode cX11_seeded 35 = .ok (.ireturn, 1) := by decide +kernel
theorem dX11_seeded_36 : decode cX11_seeded 36 = .ok (.iload_n 3, 1) := by decide +kernel
theorem dX11_seeded_37 : decode cX11_seeded 37 = .ok (.istore 6, 2) := by decide +kernel
theorem dX11_seeded_39 : decode cX11_seeded 39 = .ok (.iconst 0, 1) := by decide +kernel
theorem dX11_seeded_40 : decode cX11_seeded 40 = .ok (.istore 7, 2) := by decide +kernel
theorem dX11_seeded_42 : decode cX11_seeded 42 = .ok (.iconst 0, 1) := by decide +kernel
theorem dX11_seeded_43 : decode cX11_seeded 43 = .ok (.istore 8, 2) := by decide +kernel
theorem dX11_seeded_45 : decode cX11_seeded 45 = .ok (.iconst 0, 1) := by decide +kernel
theorem dX11_seeded_46 : decode cX11_seeded 46 = .ok (.istore 9, 2) := by decide +kernel
theorem dX11_seeded_48 : decode cX11_seeded 48 = .ok (.iconst 0, 1) := by decide +kernel
theorem dX11_seeded_49 : decode cX11_seeded 49 = .ok (.istore 10, 2) := by decide +kernel
theorem dX11_seeded_51 : decode cX11_seeded 51 = .ok (.iload 10, 2) := by decide +kernel
theorem dX11_seeded_53 : decode cX11_seeded 53 = .ok (.iload_n 2, 1) := by decide +kernel
theorem dX11_seeded_54 : decode cX11_seeded 54 = .ok (.if_icmp .ge 116, 3) := by decide +kernel
theorem dX11_seeded_57 : decode cX11_seeded 57 = .ok (.iload 6, 2) := by decide +kernel
theorem dX11_seeded_59 : decode cX11_seeded 59 = .ok (.ldc 217, 2) := by decide +kernel
theorem dX11_seeded_61 : decode cX11_seeded 61 = .ok (.imul, 1) := by decide +kernel
theorem dX11_seeded_62 : decode cX11_seeded 62 = .ok (.sipush 12345, 3) := by decide +kernel
theorem dX11_seeded_65 : decode cX11_seeded 65 = .ok (.iadd, 1) := by decide +kernel
theorem dX11_seeded_66 : decode cX11_seeded 66 = .ok (.istore 6, 2) := by decide +kernel
theorem dX11_seeded_68 : decode cX11_seeded 68 = .ok (.iload 6, 2) := by decide +kernel
theorem dX11_seeded_70 : decode cX11_seeded 70 = .ok (.ldc 218, 2) := by decide +kernel
theorem dX11_seeded_72 : decode cX11_seeded 72 = .ok (.iand, 1) := by decide +kernel
theorem dX11_seeded_73 : decode cX11_seeded 73 = .ok (.ldc 219, 2) := by decide +kernel
theorem dX11_seeded_75 : decode cX11_seeded 75 = .ok (.idiv, 1) := by decide +kernel
theorem dX11_seeded_76 : decode cX11_seeded 76 = .ok (.bipush 11, 2) := by decide +kernel
theorem dX11_seeded_78 : decode cX11_seeded 78 = .ok (.irem, 1) := by decide +kernel
theorem dX11_seeded_79 : decode cX11_seeded 79 = .ok (.istore 11, 2) := by decide +kernel
theorem dX11_seeded_81 : decode cX11_seeded 81 = .ok (.bipush (-20), 2) := by decide +kernel
theorem dX11_seeded_83 : decode cX11_seeded 83 = .ok (.bipush 20, 2) := by decide +kernel
theorem dX11_seeded_85 : decode cX11_seeded 85 = .ok (.aload 5, 2) := by decide +kernel
theorem dX11_seeded_87 : decode cX11_seeded 87 = .ok (.getfield 127, 3) := by decide +kernel
theorem dX11_seeded_90 : decode cX11_seeded 90 = .ok (.iload 11, 2) := by decide +kernel
theorem dX11_seeded_92 : decode cX11_seeded 92 = .ok (.iadd, 1) := by decide +kernel
theorem dX11_seeded_93 : decode cX11_seeded 93 = .ok (.iconst 5, 1) := by decide +kernel
theorem dX11_seeded_94 : decode cX11_seeded 94 = .ok (.isub, 1) := by decide +kernel
theorem dX11_seeded_95 : decode cX11_seeded 95 = .ok (.invokestatic 200, 3) := by decide +kernel
theorem dX11_seeded_98 : decode cX11_seeded 98 = .ok (.invokestatic 220, 3) := by decide +kernel
theorem dX11_seeded_101 : decode cX11_seeded 101 = .ok (.istore 12, 2) := by decide +kernel
theorem dX11_seeded_103 : decode cX11_seeded 103 = .ok (.aload_n 0, 1) := by decide +kernel
theorem dX11_seeded_104 : decode cX11_seeded 104 = .ok (.getfield 29, 3) := by decide +kernel
theorem dX11_seeded_107 : decode cX11_seeded 107 = .ok (.aload_n 0, 1) := by decide +kernel
theorem dX11_seeded_108 : decode cX11_seeded 108 = .ok (.getfield 12, 3) := by decide +kernel
theorem dX11_seeded_111 : decode cX11_seeded 111 = .ok (.aload 5, 2) := by decide +kernel
theorem dX11_seeded_113 : decode cX11_seeded 113 = .ok (.iload 12, 2) := by decide +kernel
theorem dX11_seeded_115 : decode cX11_seeded 115 = .ok (.aload_n 0, 1) := by decide +kernel
theorem dX11_seeded_116 : decode cX11_seeded 116 = .ok (.getfield 12, 3) := by decide +kernel
theorem dX11_seeded_119 : decode cX11_seeded 119 = .ok (.getfield 88, 3) := by decide +kernel
theorem dX11_seeded_122 : decode cX11_seeded 122 = .ok (.invokevirtual 134, 3) := by decide +kernel
theorem dX11_seeded_125 : decode cX11_seeded 125 = .ok (.iload 7, 2) := by decide +kernel
theorem dX11_seeded_127 : decode cX11_seeded 127 = .ok (.aload_n 0, 1) := by decide +kernel
theorem dX11_seeded_128 : decode cX11_seeded 128 = .ok (.getfield 29, 3) := by decide +kernel
theorem dX11_seeded_131 : decode cX11_seeded 131 = .ok (.getfield 138, 3) := by decide +kernel
theorem dX11_seeded_134 : decode cX11_seeded 134 = .ok (.iadd, 1) := by decide +kernel
theorem dX11_seeded_135 : decode cX11_seeded 135 = .ok (.istore 7, 2) := by decide +kernel
theorem dX11_seeded_137 : decode cX11_seeded 137 = .ok (.iload 8, 2) := by decide +kernel
theorem dX11_seeded_139 : decode cX11_seeded 139 = .ok (.aload_n 0, 1) := by decide +kernel
theorem dX11_seeded_140 : decode cX11_seeded 140 = .ok (.getfield 29, 3) := by decide +kernel
theorem dX11_seeded_143 : decode cX11_seeded 143 = .ok (.getfield 138, 3) := by decide +kernel
theorem dX11_seeded_146 : decode cX11_seeded 146 = .ok (.invokestatic 220, 3) := by decide +kernel
theorem dX11_seeded_149 : decode cX11_seeded 149 = .ok (.istore 8, 2) := by decide +kernel
theorem dX11_seeded_151 : decode cX11_seeded 151 = .ok (.aload_n 0, 1) := by decide +kernel
theorem dX11_seeded_152 : decode cX11_seeded 152 = .ok (.getfield 29, 3) := by decide +kernel
theorem dX11_seeded_155 : decode cX11_seeded 155 = .ok (.getfield 144, 3) := by decide +kernel
theorem dX11_seeded_158 : decode cX11_seeded 158 = .ok (.ifCond .le 6, 3) := by decide +kernel
theorem dX11_seeded_161 : decode cX11_seeded 161 = .ok (.iinc 9 1, 3) := by decide +kernel
theorem dX11_seeded_164 : decode cX11_seeded 164 = .ok (.iinc 10 1, 3) := by decide +kernel
theorem dX11_seeded_167 : decode cX11_seeded 167 = .ok (.goto (-116), 3) := by decide +kernel
theorem dX11_seeded_170 : decode cX11_seeded 170 = .ok (.iload 4, 2) := by decide +kernel
theorem dX11_seeded_172 : decode cX11_seeded 172 = .ok (.ifCond .ne 8, 3) := by decide +kernel
theorem dX11_seeded_175 : decode cX11_seeded 175 = .ok (.iload 7, 2) := by decide +kernel
theorem dX11_seeded_177 : decode cX11_seeded 177 = .ok (.goto 16, 3) := by decide +kernel
theorem dX11_seeded_180 : decode cX11_seeded 180 = .ok (.iload 4, 2) := by decide +kernel
theorem dX11_seeded_182 : decode cX11_seeded 182 = .ok (.iconst 1, 1) := by decide +kernel
theorem dX11_seeded_183 : decode cX11_seeded 183 = .ok (.if_icmp .ne 8, 3) := by decide +kernel
theorem dX11_seeded_186 : decode cX11_seeded 186 = .ok (.iload 8, 2) := by decide +kernel
theorem dX11_seeded_188 : decode cX11_seeded 188 = .ok (.goto 5, 3) := by decide +kernel
theorem dX11_seeded_191 : decode cX11_seeded 191 = .ok (.iload 9, 2) := by decide +kernel
theorem dX11_seeded_193 : decode cX11_seeded 193 = .ok (.ireturn, 1) := by decide +kernel
theorem dX11_judge_0 : decode cX11_judge 0 = .ok (.aload_n 0, 1) := by decide +kernel
theorem dX11_judge_1 : decode cX11_judge 1 = .ok (.iload_n 1, 1) := by decide +kernel
theorem dX11_judge_2 : decode cX11_judge 2 = .ok (.invokevirtual 109, 3) := by decide +kernel
theorem dX11_judge_5 : decode cX11_judge 5 = .ok (.astore_n 3, 1) := by decide +kernel
theorem dX11_judge_6 : decode cX11_judge 6 = .ok (.aload_n 3, 1) := by decide +kernel
theorem dX11_judge_7 : decode cX11_judge 7 = .ok (.ifnonnull 5, 3) := by decide +kernel
theorem dX11_judge_10 : decode cX11_judge 10 = .ok (.iconst (-1), 1) := by decide +kernel
theorem dX11_judge_11 : decode cX11_judge 11 = .ok (.ireturn, 1) := by decide +kernel
theorem dX11_judge_12 : decode cX11_judge 12 = .ok (.aload_n 0, 1) := by decide +kernel
theorem dX11_judge_13 : decode cX11_judge 13 = .ok (.iload_n 2, 1) := by decide +kernel
theorem dX11_judge_14 : decode cX11_judge 14 = .ok (.iconst (-1), 1) := by decide +kernel
theorem dX11_judge_15 : decode cX11_judge 15 = .ok (.invokevirtual 56, 3) := by decide +kernel
theorem dX11_judge_18 : decode cX11_judge 18 = .ok (.istore 4, 2) := by decide +kernel
theorem dX11_judge_20 : decode cX11_judge 20 = .ok (.iload 4, 2) := by decide +kernel
theorem dX11_judge_22 : decode cX11_judge 22 = .ok (.ifCond .eq 6, 3) := by decide +kernel
theorem dX11_judge_25 : decode cX11_judge 25 = .ok (.iload 4, 2) := by decide +kernel
theorem dX11_judge_27 : decode cX11_judge 27 = .ok (.ireturn, 1) := by decide +kernel
theorem dX11_judge_28 : decode cX11_judge 28 = .ok (.aload_n 0, 1) := by decide +kernel
theorem dX11_judge_29 : decode cX11_judge 29 = .ok (.getfield 29, 3) := by decide +kernel
theorem dX11_judge_32 : decode cX11_judge 32 = .ok (.aload_n 0, 1) := by decide +kernel
theorem dX11_judge_33 : decode cX11_judge 33 = .ok (.getfield 12, 3) := by decide +kernel
theorem dX11_judge_36 : decode cX11_judge 36 = .ok (.aload_n 3, 1) := by decide +kernel
theorem dX11_judge_37 : decode cX11_judge 37 = .ok (.aload_n 3, 1) := by decide +kernel
theorem dX11_judge_38 : decode cX11_judge 38 = .ok (.getfield 127, 3) := by decide +kernel
theorem dX11_judge_41 : decode cX11_judge 41 = .ok (.aload_n 0, 1) := by decide +kernel
theorem dX11_judge_42 : decode cX11_judge 42 = .ok (.getfield 12, 3) := by decide +kernel
theorem dX11_judge_45 : decode cX11_judge 45 = .ok (.getfield 88, 3) := by decide +kernel
theorem dX11_judge_48 : decode cX11_judge 48 = .ok (.invokevirtual 134, 3) := by decide +kernel
theorem dX11_judge_51 : decode cX11_judge 51 = .ok (.aload_n 0, 1) := by decide +kernel
theorem dX11_judge_52 : decode cX11_judge 52 = .ok (.getfield 51, 3) := by decide +kernel
theorem dX11_judge_55 : decode cX11_judge 55 = .ok (.iload_n 2, 1) := by decide +kernel
theorem dX11_judge_56 : decode cX11_judge 56 = .ok (.aaload, 1) := by decide +kernel
theorem dX11_judge_57 : decode cX11_judge 57 = .ok (.astore 5, 2) := by decide +kernel
theorem dX11_judge_59 : decode cX11_judge 59 = .ok (.aload 5, 2) := by decide +kernel
theorem dX11_judge_61 : decode cX11_judge 61 = .ok (.getfield 68, 3) := by decide +kernel
theorem dX11_judge_64 : decode cX11_judge 64 = .ok (.aload_n 0, 1) := by decide +kernel
theorem dX11_judge_65 : decode cX11_judge 65 = .ok (.getfield 29, 3) := by decide +kernel
theorem dX11_judge_68 : decode cX11_judge 68 = .ok (.getfield 141, 3) := by decide +kernel
theorem dX11_judge_71 : decode cX11_judge 71 = .ok (.invokestatic 200, 3) := by decide +kernel
theorem dX11_judge_74 : decode cX11_judge 74 = .ok (.istore 6, 2) := by decide +kernel
theorem dX11_judge_76 : decode cX11_judge 76 = .ok (.iconst 0, 1) := by decide +kernel
theorem dX11_judge_77 : decode cX11_judge 77 = .ok (.istore 7, 2) := by decide +kernel
theorem dX11_judge_79 : decode cX11_judge 79 = .ok (.iload 7, 2) := by decide +kernel
theorem dX11_judge_81 : decode cX11_judge 81 = .ok (.iload 6, 2) := by decide +kernel
theorem dX11_judge_83 : decode cX11_judge 83 = .ok (.if_icmp .ge 45, 3) := by decide +kernel
theorem dX11_judge_86 : decode cX11_judge 86 = .ok (.aload 5, 2) := by decide +kernel
theorem dX11_judge_88 : decode cX11_judge 88 = .ok (.iload 7, 2) := by decide +kernel
theorem dX11_judge_90 : decode cX11_judge 90 = .ok (.invokevirtual 76, 3) := by decide +kernel
theorem dX11_judge_93 : decode cX11_judge 93 = .ok (.istore 8, 2) := by decide +kernel
theorem dX11_judge_95 : decode cX11_judge 95 = .ok (.iload 8, 2) := by decide +kernel
theorem dX11_judge_97 : decode cX11_judge 97 = .ok (.aload 5, 2) := by decide +kernel
theorem dX11_judge_99 : decode cX11_judge 99 = .ok (.invokevirtual 223, 3) := by decide +kernel
theorem dX11_judge_102 : decode cX11_judge 102 = .ok (.if_icmp .eq 20, 3) := by decide +kernel
theorem dX11_judge_105 : decode cX11_judge 105 = .ok (.iload 8, 2) := by decide +kernel
theorem dX11_judge_107 : decode cX11_judge 107 = .ok (.aload_n 0, 1) := by decide +kernel
theorem dX11_judge_108 : decode cX11_judge 108 = .ok (.getfield 29, 3) := by decide +kernel
theorem dX11_judge_111 : decode cX11_judge 111 = .ok (.iload 7, 2) := by decide +kernel
theorem dX11_judge_113 : decode cX11_judge 113 = .ok (.invokevirtual 152, 3) := by decide +kernel
theorem dX11_judge_116 : decode cX11_judge 116 = .ok (.if_icmp .eq 6, 3) := by decide +kernel
theorem dX11_judge_119 : decode cX11_judge 119 = .ok (.iload 7, 2) := by decide +kernel
theorem dX11_judge_121 : decode cX11_judge 121 = .ok (.ireturn, 1) := by decide +kernel
theorem dX11_judge_122 : decode cX11_judge 122 = .ok (.iinc 7 1, 3) := by decide +kernel
theorem dX11_judge_125 : decode cX11_judge 125 = .ok (.goto (-46), 3) := by decide +kernel
theorem dX11_judge_128 : decode cX11_judge 128 = .ok (.aload 5, 2) := by decide +kernel
theorem dX11_judge_130 : decode cX11_judge 130 = .ok (.getfield 68, 3) := by decide +kernel
theorem dX11_judge_133 : decode cX11_judge 133 = .ok (.aload_n 0, 1) := by decide +kernel
theorem dX11_judge_134 : decode cX11_judge 134 = .ok (.getfield 29, 3) := by decide +kernel
theorem dX11_judge_137 : decode cX11_judge 137 = .ok (.getfield 141, 3) := by decide +kernel
theorem dX11_judge_140 : decode cX11_judge 140 = .ok (.if_icmp .ne 8, 3) := by decide +kernel
theorem dX11_judge_143 : decode cX11_judge 143 = .ok (.bipush (-4), 2) := by decide +kernel
theorem dX11_judge_145 : decode cX11_judge 145 = .ok (.goto 5, 3) := by decide +kernel
theorem dX11_judge_148 : decode cX11_judge 148 = .ok (.iload 6, 2) := by decide +kernel
theorem dX11_judge_150 : decode cX11_judge 150 = .ok (.ireturn, 1) := by decide +kernel
theorem dX11_image_0 : decode cX11_image 0 = .ok (.aload_n 0, 1) := by decide +kernel
theorem dX11_image_1 : decode cX11_image 1 = .ok (.getfield 19, 3) := by decide +kernel
theorem dX11_image_4 : decode cX11_image 4 = .ok (.aload_n 0, 1) := by decide +kernel
theorem dX11_image_5 : decode cX11_image 5 = .ok (.getfield 12, 3) := by decide +kernel
theorem dX11_image_8 : decode cX11_image 8 = .ok (.invokevirtual 64, 3) := by decide +kernel
theorem dX11_image_11 : decode cX11_image 11 = .ok (.aload_n 0, 1) := by decide +kernel
theorem dX11_image_12 : decode cX11_image 12 = .ok (.iconst 1, 1) := by decide +kernel
theorem dX11_image_13 : decode cX11_image 13 = .ok (.putfield 22, 3) := by decide +kernel
theorem dX11_image_16 : decode cX11_image 16 = .ok (.aload_n 0, 1) := by decide +kernel
theorem dX11_image_17 : decode cX11_image 17 = .ok (.getfield 12, 3) := by decide +kernel
theorem dX11_image_20 : decode cX11_image 20 = .ok (.getfield 211, 3) := by decide +kernel
theorem dX11_image_23 : decode cX11_image 23 = .ok (.ireturn, 1) := by decide +kernel
theorem dX11_restore_0 : decode cX11_restore 0 = .ok (.aload_n 0, 1) := by decide +kernel
theorem dX11_restore_1 : decode cX11_restore 1 = .ok (.getfield 22, 3) := by decide +kernel
theorem dX11_restore_4 : decode cX11_restore 4 = .ok (.ifCond .ne 6, 3) := by decide +kernel
theorem dX11_restore_7 : decode cX11_restore 7 = .ok (.bipush (-3), 2) := by decide +kernel
theorem dX11_restore_9 : decode cX11_restore 9 = .ok (.ireturn, 1) := by decide +kernel
theorem dX11_restore_10 : decode cX11_restore 10 = .ok (.aload_n 0, 1) := by decide +kernel
theorem dX11_restore_11 : decode cX11_restore 11 = .ok (.getfield 12, 3) := by decide +kernel
theorem dX11_restore_14 : decode cX11_restore 14 = .ok (.aload_n 0, 1) := by decide +kernel
theorem dX11_restore_15 : decode cX11_restore 15 = .ok (.getfield 19, 3) := by decide +kernel
theorem dX11_restore_18 : decode cX11_restore 18 = .ok (.invokevirtual 64, 3) := by decide +kernel
theorem dX11_restore_21 : decode cX11_restore 21 = .ok (.aload_n 0, 1) := by decide +kernel
theorem dX11_restore_22 : decode cX11_restore 22 = .ok (.getfield 12, 3) := by decide +kernel
theorem dX11_restore_25 : decode cX11_restore 25 = .ok (.getfield 211, 3) := by decide +kernel
theorem dX11_restore_28 : decode cX11_restore 28 = .ok (.ireturn, 1) := by decide +kernel
theorem dX11_count_0 : decode cX11_count 0 = .ok (.iload_n 1, 1) := by decide +kernel
theorem dX11_count_1 : decode cX11_count 1 = .ok (.tableswitch 75 0 4 #[35, 43, 51, 59, 67], 35) := by decide +kernel
theorem dX11_count_36 : decode cX11_count 36 = .ok (.aload_n 0, 1) := by decide +kernel
theorem dX11_count_37 : decode cX11_count 37 = .ok (.getfield 12, 3) := by decide +kernel
theorem dX11_count_40 : decode cX11_count 40 = .ok (.getfield 226, 3) := by decide +kernel
theorem dX11_count_43 : decode cX11_count 43 = .ok (.ireturn, 1) := by decide +kernel
theorem dX11_count_44 : decode cX11_count 44 = .ok (.aload_n 0, 1) := by decide +kernel
theorem dX11_count_45 : decode cX11_count 45 = .ok (.getfield 12, 3) := by decide +kernel
theorem dX11_count_48 : decode cX11_count 48 = .ok (.getfield 211, 3) := by decide +kernel
theorem dX11_count_51 : decode cX11_count 51 = .ok (.ireturn, 1) := by decide +kernel
theorem dX11_count_52 : decode cX11_count 52 = .ok (.aload_n 0, 1) := by decide +kernel
theorem dX11_count_53 : decode cX11_count 53 = .ok (.getfield 12, 3) := by decide +kernel
theorem dX11_count_56 : decode cX11_count 56 = .ok (.getfield 229, 3) := by decide +kernel
theorem dX11_count_59 : decode cX11_count 59 = .ok (.ireturn, 1) := by decide +kernel
theorem dX11_count_60 : decode cX11_count 60 = .ok (.aload_n 0, 1) := by decide +kernel
theorem dX11_count_61 : decode cX11_count 61 = .ok (.getfield 12, 3) := by decide +kernel
theorem dX11_count_64 : decode cX11_count 64 = .ok (.invokevirtual 232, 3) := by decide +kernel
theorem dX11_count_67 : decode cX11_count 67 = .ok (.ireturn, 1) := by decide +kernel
theorem dX11_count_68 : decode cX11_count 68 = .ok (.aload_n 0, 1) := by decide +kernel
theorem dX11_count_69 : decode cX11_count 69 = .ok (.getfield 12, 3) := by decide +kernel
theorem dX11_count_72 : decode cX11_count 72 = .ok (.getfield 88, 3) := by decide +kernel
theorem dX11_count_75 : decode cX11_count 75 = .ok (.ireturn, 1) := by decide +kernel
theorem dX11_count_76 : decode cX11_count 76 = .ok (.iconst (-1), 1) := by decide +kernel
theorem dX11_count_77 : decode cX11_count 77 = .ok (.ireturn, 1) := by decide +kernel
theorem dX11_keep_0 : decode cX11_keep 0 = .ok (.iload_n 1, 1) := by decide +kernel
theorem dX11_keep_1 : decode cX11_keep 1 = .ok (.invokestatic 235, 3) := by decide +kernel
theorem dX11_keep_4 : decode cX11_keep 4 = .ok (.ifCond .ne 5, 3) := by decide +kernel
theorem dX11_keep_7 : decode cX11_keep 7 = .ok (.iconst (-1), 1) := by decide +kernel
theorem dX11_keep_8 : decode cX11_keep 8 = .ok (.ireturn, 1) := by decide +kernel
theorem dX11_keep_9 : decode cX11_keep 9 = .ok (.iload_n 2, 1) := by decide +kernel
theorem dX11_keep_10 : decode cX11_keep 10 = .ok (.ifCond .ne 12, 3) := by decide +kernel
theorem dX11_keep_13 : decode cX11_keep 13 = .ok (.aload_n 0, 1) := by decide +kernel
theorem dX11_keep_14 : decode cX11_keep 14 = .ok (.getfield 40, 3) := by decide +kernel
theorem dX11_keep_17 : decode cX11_keep 17 = .ok (.iload_n 1, 1) := by decide +kernel
theorem dX11_keep_18 : decode cX11_keep 18 = .ok (.iconst 0, 1) := by decide +kernel
theorem dX11_keep_19 : decode cX11_keep 19 = .ok (.iastore, 1) := by decide +kernel
theorem dX11_keep_20 : decode cX11_keep 20 = .ok (.iconst 0, 1) := by decide +kernel
theorem dX11_keep_21 : decode cX11_keep 21 = .ok (.ireturn, 1) := by decide +kernel
theorem dX11_keep_22 : decode cX11_keep 22 = .ok (.aload_n 0, 1) := by decide +kernel
theorem dX11_keep_23 : decode cX11_keep 23 = .ok (.iload_n 3, 1) := by decide +kernel
theorem dX11_keep_24 : decode cX11_keep 24 = .ok (.invokevirtual 109, 3) := by decide +kernel
theorem dX11_keep_27 : decode cX11_keep 27 = .ok (.astore 4, 2) := by decide +kernel
theorem dX11_keep_29 : decode cX11_keep 29 = .ok (.iload_n 2, 1) := by decide +kernel
theorem dX11_keep_30 : decode cX11_keep 30 = .ok (.iconst 1, 1) := by decide +kernel
theorem dX11_keep_31 : decode cX11_keep 31 = .ok (.if_icmp .ne 8, 3) := by decide +kernel
theorem dX11_keep_34 : decode cX11_keep 34 = .ok (.aload 4, 2) := by decide +kernel
theorem dX11_keep_36 : decode cX11_keep 36 = .ok (.ifnonnull 5, 3) := by decide +kernel
theorem dX11_keep_39 : decode cX11_keep 39 = .ok (.iconst (-1), 1) := by decide +kernel
theorem dX11_keep_40 : decode cX11_keep 40 = .ok (.ireturn, 1) := by decide +kernel
theorem dX11_keep_41 : decode cX11_keep 41 = .ok (.aload_n 0, 1) := by decide +kernel
theorem dX11_keep_42 : decode cX11_keep 42 = .ok (.getfield 40, 3) := by decide +kernel
theorem dX11_keep_45 : decode cX11_keep 45 = .ok (.iload_n 1, 1) := by decide +kernel
theorem dX11_keep_46 : decode cX11_keep 46 = .ok (.iconst 1, 1) := by decide +kernel
theorem dX11_keep_47 : decode cX11_keep 47 = .ok (.iastore, 1) := by decide +kernel
theorem dX11_keep_48 : decode cX11_keep 48 = .ok (.aload_n 0, 1) := by decide +kernel
theorem dX11_keep_49 : decode cX11_keep 49 = .ok (.getfield 45, 3) := by decide +kernel
theorem dX11_keep_52 : decode cX11_keep 52 = .ok (.iload_n 1, 1) := by decide +kernel
theorem dX11_keep_53 : decode cX11_keep 53 = .ok (.aload 4, 2) := by decide +kernel
theorem dX11_keep_55 : decode cX11_keep 55 = .ok (.aastore, 1) := by decide +kernel
theorem dX11_keep_56 : decode cX11_keep 56 = .ok (.iconst 0, 1) := by decide +kernel
theorem dX11_keep_57 : decode cX11_keep 57 = .ok (.ireturn, 1) := by decide +kernel
theorem dX11_row_0 : decode cX11_row 0 = .ok (.iload_n 1, 1) := by decide +kernel
theorem dX11_row_1 : decode cX11_row 1 = .ok (.invokestatic 235, 3) := by decide +kernel
theorem dX11_row_4 : decode cX11_row 4 = .ok (.ifCond .eq 18, 3) := by decide +kernel
theorem dX11_row_7 : decode cX11_row 7 = .ok (.iload_n 2, 1) := by decide +kernel
theorem dX11_row_8 : decode cX11_row 8 = .ok (.ifCond .lt 14, 3) := by decide +kernel
theorem dX11_row_11 : decode cX11_row 11 = .ok (.iload_n 2, 1) := by decide +kernel
theorem dX11_row_12 : decode cX11_row 12 = .ok (.iconst 2, 1) := by decide +kernel
theorem dX11_row_13 : decode cX11_row 13 = .ok (.if_icmp .gt 9, 3) := by decide +kernel
theorem dX11_row_16 : decode cX11_row 16 = .ok (.iload_n 3, 1) := by decide +kernel
theorem dX11_row_17 : decode cX11_row 17 = .ok (.bipush 100, 2) := by decide +kernel
theorem dX11_row_19 : decode cX11_row 19 = .ok (.if_icmp .le 5, 3) := by decide +kernel
theorem dX11_row_22 : decode cX11_row 22 = .ok (.iconst (-1), 1) := by decide +kernel
theorem dX11_row_23 : decode cX11_row 23 = .ok (.ireturn, 1) := by decide +kernel
theorem dX11_row_24 : decode cX11_row 24 = .ok (.iload_n 3, 1) := by decide +kernel
theorem dX11_row_25 : decode cX11_row 25 = .ok (.ifCond .ge 6, 3) := by decide +kernel
theorem dX11_row_28 : decode cX11_row 28 = .ok (.bipush (-14), 2) := by decide +kernel
theorem dX11_row_30 : decode cX11_row 30 = .ok (.ireturn, 1) := by decide +kernel
theorem dX11_row_31 : decode cX11_row 31 = .ok (.aload_n 0, 1) := by decide +kernel
theorem dX11_row_32 : decode cX11_row 32 = .ok (.getfield 51, 3) := by decide +kernel
theorem dX11_row_35 : decode cX11_row 35 = .ok (.iload_n 1, 1) := by decide +kernel
theorem dX11_row_36 : decode cX11_row 36 = .ok (.aaload, 1) := by decide +kernel
theorem dX11_row_37 : decode cX11_row 37 = .ok (.astore 4, 2) := by decide +kernel
theorem dX11_row_39 : decode cX11_row 39 = .ok (.aload 4, 2) := by decide +kernel
theorem dX11_row_41 : decode cX11_row 41 = .ok (.ifnonnull 5, 3) := by decide +kernel
theorem dX11_row_44 : decode cX11_row 44 = .ok (.iconst (-1), 1) := by decide +kernel
theorem dX11_row_45 : decode cX11_row 45 = .ok (.ireturn, 1) := by decide +kernel
theorem dX11_row_46 : decode cX11_row 46 = .ok (.aload 4, 2) := by decide +kernel
theorem dX11_row_48 : decode cX11_row 48 = .ok (.iload_n 2, 1) := by decide +kernel
theorem dX11_row_49 : decode cX11_row 49 = .ok (.iload_n 3, 1) := by decide +kernel
theorem dX11_row_50 : decode cX11_row 50 = .ok (.invokevirtual 238, 3) := by decide +kernel
theorem dX11_row_53 : decode cX11_row 53 = .ok (.aload_n 0, 1) := by decide +kernel
theorem dX11_row_54 : decode cX11_row 54 = .ok (.getfield 40, 3) := by decide +kernel
theorem dX11_row_57 : decode cX11_row 57 = .ok (.iload_n 1, 1) := by decide +kernel
theorem dX11_row_58 : decode cX11_row 58 = .ok (.iconst 2, 1) := by decide +kernel
theorem dX11_row_59 : decode cX11_row 59 = .ok (.iastore, 1) := by decide +kernel
theorem dX11_row_60 : decode cX11_row 60 = .ok (.iconst 0, 1) := by decide +kernel
theorem dX11_row_61 : decode cX11_row 61 = .ok (.ireturn, 1) := by decide +kernel
theorem dX11_put_0 : decode cX11_put 0 = .ok (.aload_n 0, 1) := by decide +kernel
theorem dX11_put_1 : decode cX11_put 1 = .ok (.iload_n 1, 1) := by decide +kernel
theorem dX11_put_2 : decode cX11_put 2 = .ok (.iconst (-1), 1) := by decide +kernel
theorem dX11_put_3 : decode cX11_put 3 = .ok (.invokevirtual 56, 3) := by decide +kernel
theorem dX11_put_6 : decode cX11_put 6 = .ok (.istore 4, 2) := by decide +kernel
theorem dX11_put_8 : decode cX11_put 8 = .ok (.iload 4, 2) := by decide +kernel
theorem dX11_put_10 : decode cX11_put 10 = .ok (.ifCond .eq 6, 3) := by decide +kernel
theorem dX11_put_13 : decode cX11_put 13 = .ok (.iload 4, 2) := by decide +kernel
theorem dX11_put_15 : decode cX11_put 15 = .ok (.ireturn, 1) := by decide +kernel
theorem dX11_put_16 : decode cX11_put 16 = .ok (.aload_n 0, 1) := by decide +kernel
theorem dX11_put_17 : decode cX11_put 17 = .ok (.getfield 51, 3) := by decide +kernel
theorem dX11_put_20 : decode cX11_put 20 = .ok (.iload_n 1, 1) := by decide +kernel
theorem dX11_put_21 : decode cX11_put 21 = .ok (.aaload, 1) := by decide +kernel
theorem dX11_put_22 : decode cX11_put 22 = .ok (.astore 5, 2) := by decide +kernel
theorem dX11_put_24 : decode cX11_put 24 = .ok (.aload 5, 2) := by decide +kernel
theorem dX11_put_26 : decode cX11_put 26 = .ok (.iload_n 2, 1) := by decide +kernel
theorem dX11_put_27 : decode cX11_put 27 = .ok (.invokevirtual 242, 3) := by decide +kernel
theorem dX11_put_30 : decode cX11_put 30 = .ok (.ifCond .ne 6, 3) := by decide +kernel
theorem dX11_put_33 : decode cX11_put 33 = .ok (.bipush (-13), 2) := by decide +kernel
theorem dX11_put_35 : decode cX11_put 35 = .ok (.ireturn, 1) := by decide +kernel
theorem dX11_put_36 : decode cX11_put 36 = .ok (.aload 5, 2) := by decide +kernel
theorem dX11_put_38 : decode cX11_put 38 = .ok (.iload_n 2, 1) := by decide +kernel
theorem dX11_put_39 : decode cX11_put 39 = .ok (.iload_n 3, 1) := by decide +kernel
theorem dX11_put_40 : decode cX11_put 40 = .ok (.invokevirtual 245, 3) := by decide +kernel
theorem dX11_put_43 : decode cX11_put 43 = .ok (.iconst 0, 1) := by decide +kernel
theorem dX11_put_44 : decode cX11_put 44 = .ok (.ireturn, 1) := by decide +kernel
theorem dX11_element_0 : decode cX11_element 0 = .ok (.iload_n 1, 1) := by decide +kernel
theorem dX11_element_1 : decode cX11_element 1 = .ok (.invokestatic 235, 3) := by decide +kernel
theorem dX11_element_4 : decode cX11_element 4 = .ok (.ifCond .ne 13, 3) := by decide +kernel
theorem dX11_element_7 : decode cX11_element 7 = .ok (.new 248, 3) := by decide +kernel
theorem dX11_element_10 : decode cX11_element 10 = .ok (.dup, 1) := by decide +kernel
theorem dX11_element_11 : decode cX11_element 11 = .ok (.ldc 250, 2) := by decide +kernel
theorem dX11_element_13 : decode cX11_element 13 = .ok (.invokespecial 252, 3) := by decide +kernel
theorem dX11_element_16 : decode cX11_element 16 = .ok (.athrow, 1) := by decide +kernel
theorem dX11_element_17 : decode cX11_element 17 = .ok (.aload_n 0, 1) := by decide +kernel
theorem dX11_element_18 : decode cX11_element 18 = .ok (.iload_n 1, 1) := by decide +kernel
theorem dX11_element_19 : decode cX11_element 19 = .ok (.invokevirtual 255, 3) := by decide +kernel
theorem dX11_element_22 : decode cX11_element 22 = .ok (.ifCond .ne 14, 3) := by decide +kernel
theorem dX11_element_25 : decode cX11_element 25 = .ok (.new 258, 3) := by decide +kernel
theorem dX11_element_28 : decode cX11_element 28 = .ok (.dup, 1) := by decide +kernel
theorem dX11_element_29 : decode cX11_element 29 = .ok (.ldc_w 260, 3) := by decide +kernel
theorem dX11_element_32 : decode cX11_element 32 = .ok (.invokespecial 262, 3) := by decide +kernel
theorem dX11_element_35 : decode cX11_element 35 = .ok (.athrow, 1) := by decide +kernel
theorem dX11_element_36 : decode cX11_element 36 = .ok (.aload_n 0, 1) := by decide +kernel
theorem dX11_element_37 : decode cX11_element 37 = .ok (.getfield 51, 3) := by decide +kernel
theorem dX11_element_40 : decode cX11_element 40 = .ok (.iload_n 1, 1) := by decide +kernel
theorem dX11_element_41 : decode cX11_element 41 = .ok (.aaload, 1) := by decide +kernel
theorem dX11_element_42 : decode cX11_element 42 = .ok (.astore_n 3, 1) := by decide +kernel
theorem dX11_element_43 : decode cX11_element 43 = .ok (.aload_n 3, 1) := by decide +kernel
theorem dX11_element_44 : decode cX11_element 44 = .ok (.iload_n 2, 1) := by decide +kernel
theorem dX11_element_45 : decode cX11_element 45 = .ok (.invokevirtual 242, 3) := by decide +kernel
theorem dX11_element_48 : decode cX11_element 48 = .ok (.ifCond .ne 14, 3) := by decide +kernel
theorem dX11_element_51 : decode cX11_element 51 = .ok (.new 258, 3) := by decide +kernel
theorem dX11_element_54 : decode cX11_element 54 = .ok (.dup, 1) := by decide +kernel
theorem dX11_element_55 : decode cX11_element 55 = .ok (.ldc_w 263, 3) := by decide +kernel
theorem dX11_element_58 : decode cX11_element 58 = .ok (.invokespecial 262, 3) := by decide +kernel
theorem dX11_element_61 : decode cX11_element 61 = .ok (.athrow, 1) := by decide +kernel
theorem dX11_element_62 : decode cX11_element 62 = .ok (.aload_n 3, 1) := by decide +kernel
theorem dX11_element_63 : decode cX11_element 63 = .ok (.iload_n 2, 1) := by decide +kernel
theorem dX11_element_64 : decode cX11_element 64 = .ok (.invokevirtual 76, 3) := by decide +kernel
theorem dX11_element_67 : decode cX11_element 67 = .ok (.i2l, 1) := by decide +kernel
theorem dX11_element_68 : decode cX11_element 68 = .ok (.lreturn, 1) := by decide +kernel
theorem dX11_copy_0 : decode cX11_copy 0 = .ok (.iload_n 1, 1) := by decide +kernel
theorem dX11_copy_1 : decode cX11_copy 1 = .ok (.invokestatic 235, 3) := by decide +kernel
theorem dX11_copy_4 : decode cX11_copy 4 = .ok (.ifCond .eq 10, 3) := by decide +kernel
theorem dX11_copy_7 : decode cX11_copy 7 = .ok (.iload_n 3, 1) := by decide +kernel
theorem dX11_copy_8 : decode cX11_copy 8 = .ok (.invokestatic 235, 3) := by decide +kernel
theorem dX11_copy_11 : decode cX11_copy 11 = .ok (.ifCond .ne 5, 3) := by decide +kernel
theorem dX11_copy_14 : decode cX11_copy 14 = .ok (.iconst (-1), 1) := by decide +kernel
theorem dX11_copy_15 : decode cX11_copy 15 = .ok (.ireturn, 1) := by decide +kernel
theorem dX11_copy_16 : decode cX11_copy 16 = .ok (.aload_n 0, 1) := by decide +kernel
theorem dX11_copy_17 : decode cX11_copy 17 = .ok (.getfield 40, 3) := by decide +kernel
theorem dX11_copy_20 : decode cX11_copy 20 = .ok (.iload_n 1, 1) := by decide +kernel
theorem dX11_copy_21 : decode cX11_copy 21 = .ok (.iaload, 1) := by decide +kernel
theorem dX11_copy_22 : decode cX11_copy 22 = .ok (.ifCond .eq 12, 3) := by decide +kernel
theorem dX11_copy_25 : decode cX11_copy 25 = .ok (.aload_n 0, 1) := by decide +kernel
theorem dX11_copy_26 : decode cX11_copy 26 = .ok (.getfield 40, 3) := by decide +kernel
theorem dX11_copy_29 : decode cX11_copy 29 = .ok (.iload_n 3, 1) := by decide +kernel
theorem dX11_copy_30 : decode cX11_copy 30 = .ok (.iaload, 1) := by decide +kernel
theorem dX11_copy_31 : decode cX11_copy 31 = .ok (.ifCond .ne 6, 3) := by decide +kernel
theorem dX11_copy_34 : decode cX11_copy 34 = .ok (.bipush (-11), 2) := by decide +kernel
theorem dX11_copy_36 : decode cX11_copy 36 = .ok (.ireturn, 1) := by decide +kernel
theorem dX11_copy_37 : decode cX11_copy 37 = .ok (.aload_n 0, 1) := by decide +kernel
theorem dX11_copy_38 : decode cX11_copy 38 = .ok (.iload_n 1, 1) := by decide +kernel
theorem dX11_copy_39 : decode cX11_copy 39 = .ok (.invokevirtual 255, 3) := by decide +kernel
theorem dX11_copy_42 : decode cX11_copy 42 = .ok (.ifCond .eq 11, 3) := by decide +kernel
theorem dX11_copy_45 : decode cX11_copy 45 = .ok (.aload_n 0, 1) := by decide +kernel
theorem dX11_copy_46 : decode cX11_copy 46 = .ok (.iload_n 3, 1) := by decide +kernel
theorem dX11_copy_47 : decode cX11_copy 47 = .ok (.invokevirtual 255, 3) := by decide +kernel
theorem dX11_copy_50 : decode cX11_copy 50 = .ok (.ifCond .ne 6, 3) := by decide +kernel
theorem dX11_copy_53 : decode cX11_copy 53 = .ok (.bipush (-12), 2) := by decide +kernel
theorem dX11_copy_55 : decode cX11_copy 55 = .ok (.ireturn, 1) := by decide +kernel
theorem dX11_copy_56 : decode cX11_copy 56 = .ok (.aload_n 0, 1) := by decide +kernel
theorem dX11_copy_57 : decode cX11_copy 57 = .ok (.getfield 51, 3) := by decide +kernel
theorem dX11_copy_60 : decode cX11_copy 60 = .ok (.iload_n 1, 1) := by decide +kernel
theorem dX11_copy_61 : decode cX11_copy 61 = .ok (.aaload, 1) := by decide +kernel
theorem dX11_copy_62 : decode cX11_copy 62 = .ok (.astore 6, 2) := by decide +kernel
theorem dX11_copy_64 : decode cX11_copy 64 = .ok (.aload_n 0, 1) := by decide +kernel
theorem dX11_copy_65 : decode cX11_copy 65 = .ok (.getfield 51, 3) := by decide +kernel
theorem dX11_copy_68 : decode cX11_copy 68 = .ok (.iload_n 3, 1) := by decide +kernel
theorem dX11_copy_69 : decode cX11_copy 69 = .ok (.aaload, 1) := by decide +kernel
theorem dX11_copy_70 : decode cX11_copy 70 = .ok (.astore 7, 2) := by decide +kernel
theorem dX11_copy_72 : decode cX11_copy 72 = .ok (.aload 6, 2) := by decide +kernel
theorem dX11_copy_74 : decode cX11_copy 74 = .ok (.getfield 265, 3) := by decide +kernel
theorem dX11_copy_77 : decode cX11_copy 77 = .ok (.aload 7, 2) := by decide +kernel
theorem dX11_copy_79 : decode cX11_copy 79 = .ok (.getfield 265, 3) := by decide +kernel
theorem dX11_copy_82 : decode cX11_copy 82 = .ok (.if_icmp .eq 6, 3) := by decide +kernel
theorem dX11_copy_85 : decode cX11_copy 85 = .ok (.bipush (-12), 2) := by decide +kernel
theorem dX11_copy_87 : decode cX11_copy 87 = .ok (.ireturn, 1) := by decide +kernel
theorem dX11_copy_88 : decode cX11_copy 88 = .ok (.aload 6, 2) := by decide +kernel
theorem dX11_copy_90 : decode cX11_copy 90 = .ok (.iload_n 2, 1) := by decide +kernel
theorem dX11_copy_91 : decode cX11_copy 91 = .ok (.iload 5, 2) := by decide +kernel
theorem dX11_copy_93 : decode cX11_copy 93 = .ok (.invokevirtual 268, 3) := by decide +kernel
theorem dX11_copy_96 : decode cX11_copy 96 = .ok (.ifCond .eq 15, 3) := by decide +kernel
theorem dX11_copy_99 : decode cX11_copy 99 = .ok (.aload 7, 2) := by decide +kernel
theorem dX11_copy_101 : decode cX11_copy 101 = .ok (.iload 4, 2) := by decide +kernel
theorem dX11_copy_103 : decode cX11_copy 103 = .ok (.iload 5, 2) := by decide +kernel
theorem dX11_copy_105 : decode cX11_copy 105 = .ok (.invokevirtual 268, 3) := by decide +kernel
theorem dX11_copy_108 : decode cX11_copy 108 = .ok (.ifCond .ne 6, 3) := by decide +kernel
theorem dX11_copy_111 : decode cX11_copy 111 = .ok (.bipush (-13), 2) := by decide +kernel
theorem dX11_copy_113 : decode cX11_copy 113 = .ok (.ireturn, 1) := by decide +kernel
theorem dX11_copy_114 : decode cX11_copy 114 = .ok (.aload 6, 2) := by decide +kernel
theorem dX11_copy_116 : decode cX11_copy 116 = .ok (.getfield 272, 3) := by decide +kernel
theorem dX11_copy_119 : decode cX11_copy 119 = .ok (.iload_n 2, 1) := by decide +kernel
theorem dX11_copy_120 : decode cX11_copy 120 = .ok (.aload 7, 2) := by decide +kernel
theorem dX11_copy_122 : decode cX11_copy 122 = .ok (.getfield 272, 3) := by decide +kernel
theorem dX11_copy_125 : decode cX11_copy 125 = .ok (.iload 4, 2) := by decide +kernel
theorem dX11_copy_127 : decode cX11_copy 127 = .ok (.iload 5, 2) := by decide +kernel
theorem dX11_copy_129 : decode cX11_copy 129 = .ok (.invokestatic 275, 3) := by decide +kernel
theorem dX11_copy_132 : decode cX11_copy 132 = .ok (.iload 5, 2) := by decide +kernel
theorem dX11_copy_134 : decode cX11_copy 134 = .ok (.ireturn, 1) := by decide +kernel
theorem dX11_skill_0 : decode cX11_skill 0 = .ok (.aload_n 0, 1) := by decide +kernel
theorem dX11_skill_1 : decode cX11_skill 1 = .ok (.iload_n 1, 1) := by decide +kernel
theorem dX11_skill_2 : decode cX11_skill 2 = .ok (.invokevirtual 281, 3) := by decide +kernel
theorem dX11_skill_5 : decode cX11_skill 5 = .ok (.istore_n 2, 1) := by decide +kernel
theorem dX11_skill_6 : decode cX11_skill 6 = .ok (.iload_n 2, 1) := by decide +kernel
theorem dX11_skill_7 : decode cX11_skill 7 = .ok (.ifCond .eq 7, 3) := by decide +kernel
theorem dX11_skill_10 : decode cX11_skill 10 = .ok (.iload_n 2, 1) := by decide +kernel
theorem dX11_skill_11 : decode cX11_skill 11 = .ok (.goto 12, 3) := by decide +kernel
theorem dX11_skill_14 : decode cX11_skill 14 = .ok (.aload_n 0, 1) := by decide +kernel
theorem dX11_skill_15 : decode cX11_skill 15 = .ok (.getfield 45, 3) := by decide +kernel
theorem dX11_skill_18 : decode cX11_skill 18 = .ok (.iload_n 1, 1) := by decide +kernel
theorem dX11_skill_19 : decode cX11_skill 19 = .ok (.aaload, 1) := by decide +kernel
theorem dX11_skill_20 : decode cX11_skill 20 = .ok (.invokevirtual 284, 3) := by decide +kernel
theorem dX11_skill_23 : decode cX11_skill 23 = .ok (.ireturn, 1) := by decide +kernel
theorem dX11_toss_0 : decode cX11_toss 0 = .ok (.aload_n 0, 1) := by decide +kernel
theorem dX11_toss_1 : decode cX11_toss 1 = .ok (.iload_n 1, 1) := by decide +kernel
theorem dX11_toss_2 : decode cX11_toss 2 = .ok (.invokevirtual 281, 3) := by decide +kernel
theorem dX11_toss_5 : decode cX11_toss 5 = .ok (.istore_n 2, 1) := by decide +kernel
theorem dX11_toss_6 : decode cX11_toss 6 = .ok (.iload_n 2, 1) := by decide +kernel
theorem dX11_toss_7 : decode cX11_toss 7 = .ok (.ifCond .eq 5, 3) := by decide +kernel
theorem dX11_toss_10 : decode cX11_toss 10 = .ok (.iload_n 2, 1) := by decide +kernel
theorem dX11_toss_11 : decode cX11_toss 11 = .ok (.ireturn, 1) := by decide +kernel
theorem dX11_toss_12 : decode cX11_toss 12 = .ok (.aload_n 0, 1) := by decide +kernel
theorem dX11_toss_13 : decode cX11_toss 13 = .ok (.getfield 45, 3) := by decide +kernel
theorem dX11_toss_16 : decode cX11_toss 16 = .ok (.iload_n 1, 1) := by decide +kernel
theorem dX11_toss_17 : decode cX11_toss 17 = .ok (.aaload, 1) := by decide +kernel
theorem dX11_toss_18 : decode cX11_toss 18 = .ok (.astore_n 3, 1) := by decide +kernel
theorem dX11_toss_19 : decode cX11_toss 19 = .ok (.aload_n 3, 1) := by decide +kernel
theorem dX11_toss_20 : decode cX11_toss 20 = .ok (.invokevirtual 287, 3) := by decide +kernel
theorem dX11_toss_23 : decode cX11_toss 23 = .ok (.goto 31, 3) := by decide +kernel
theorem dX11_toss_26 : decode cX11_toss 26 = .ok (.astore 4, 2) := by decide +kernel
theorem dX11_toss_28 : decode cX11_toss 28 = .ok (.aload_n 3, 1) := by decide +kernel
theorem dX11_toss_29 : decode cX11_toss 29 = .ok (.getfield 160, 3) := by decide +kernel
theorem dX11_toss_32 : decode cX11_toss 32 = .ok (.bipush 100, 2) := by decide +kernel
theorem dX11_toss_34 : decode cX11_toss 34 = .ok (.iadd, 1) := by decide +kernel
theorem dX11_toss_35 : decode cX11_toss 35 = .ok (.ireturn, 1) := by decide +kernel
theorem dX11_toss_36 : decode cX11_toss 36 = .ok (.astore 4, 2) := by decide +kernel
theorem dX11_toss_38 : decode cX11_toss 38 = .ok (.aload_n 3, 1) := by decide +kernel
theorem dX11_toss_39 : decode cX11_toss 39 = .ok (.invokevirtual 284, 3) := by decide +kernel
theorem dX11_toss_42 : decode cX11_toss 42 = .ok (.sipush 200, 3) := by decide +kernel
theorem dX11_toss_45 : decode cX11_toss 45 = .ok (.iadd, 1) := by decide +kernel
theorem dX11_toss_46 : decode cX11_toss 46 = .ok (.ireturn, 1) := by decide +kernel
theorem dX11_toss_47 : decode cX11_toss 47 = .ok (.astore 4, 2) := by decide +kernel
theorem dX11_toss_49 : decode cX11_toss 49 = .ok (.aload_n 3, 1) := by decide +kernel
theorem dX11_toss_50 : decode cX11_toss 50 = .ok (.getfield 160, 3) := by decide +kernel
theorem dX11_toss_53 : decode cX11_toss 53 = .ok (.ireturn, 1) := by decide +kernel
theorem dX11_toss_54 : decode cX11_toss 54 = .ok (.bipush (-15), 2) := by decide +kernel
theorem dX11_toss_56 : decode cX11_toss 56 = .ok (.ireturn, 1) := by decide +kernel
theorem dX11_lookerNumbered_0 : decode cX11_lookerNumbered 0 = .ok (.iload_n 1, 1) := by decide +kernel
theorem dX11_lookerNumbered_1 : decode cX11_lookerNumbered 1 = .ok (.ifCond .lt 20, 3) := by decide +kernel
theorem dX11_lookerNumbered_4 : decode cX11_lookerNumbered 4 = .ok (.iload_n 1, 1) := by decide +kernel
theorem dX11_lookerNumbered_5 : decode cX11_lookerNumbered 5 = .ok (.bipush 6, 2) := by decide +kernel
theorem dX11_lookerNumbered_7 : decode cX11_lookerNumbered 7 = .ok (.if_icmp .ge 14, 3) := by decide +kernel
theorem dX11_lookerNumbered_10 : decode cX11_lookerNumbered 10 = .ok (.iload_n 1, 1) := by decide +kernel
theorem dX11_lookerNumbered_11 : decode cX11_lookerNumbered 11 = .ok (.aload_n 0, 1) := by decide +kernel
theorem dX11_lookerNumbered_12 : decode cX11_lookerNumbered 12 = .ok (.getfield 12, 3) := by decide +kernel
theorem dX11_lookerNumbered_15 : decode cX11_lookerNumbered 15 = .ok (.getfield 211, 3) := by decide +kernel
theorem dX11_lookerNumbered_18 : decode cX11_lookerNumbered 18 = .ok (.if_icmp .lt 5, 3) := by decide +kernel
theorem dX11_lookerNumbered_21 : decode cX11_lookerNumbered 21 = .ok (.aconst_null, 1) := by decide +kernel
theorem dX11_lookerNumbered_22 : decode cX11_lookerNumbered 22 = .ok (.areturn, 1) := by decide +kernel
theorem dX11_lookerNumbered_23 : decode cX11_lookerNumbered 23 = .ok (.aload_n 0, 1) := by decide +kernel
theorem dX11_lookerNumbered_24 : decode cX11_lookerNumbered 24 = .ok (.getfield 12, 3) := by decide +kernel
theorem dX11_lookerNumbered_27 : decode cX11_lookerNumbered 27 = .ok (.getfield 292, 3) := by decide +kernel
theorem dX11_lookerNumbered_30 : decode cX11_lookerNumbered 30 = .ok (.iload_n 1, 1) := by decide +kernel
theorem dX11_lookerNumbered_31 : decode cX11_lookerNumbered 31 = .ok (.aaload, 1) := by decide +kernel
theorem dX11_lookerNumbered_32 : decode cX11_lookerNumbered 32 = .ok (.areturn, 1) := by decide +kernel
theorem dX11_isMinute_0 : decode cX11_isMinute 0 = .ok (.iload_n 0, 1) := by decide +kernel
theorem dX11_isMinute_1 : decode cX11_isMinute 1 = .ok (.ifCond .lt 14, 3) := by decide +kernel
theorem dX11_isMinute_4 : decode cX11_isMinute 4 = .ok (.iload_n 0, 1) := by decide +kernel
theorem dX11_isMinute_5 : decode cX11_isMinute 5 = .ok (.sipush 719, 3) := by decide +kernel
theorem dX11_isMinute_8 : decode cX11_isMinute 8 = .ok (.if_icmp .gt 7, 3) := by decide +kernel
theorem dX11_isMinute_11 : decode cX11_isMinute 11 = .ok (.iconst 1, 1) := by decide +kernel
theorem dX11_isMinute_12 : decode cX11_isMinute 12 = .ok (.goto 4, 3) := by decide +kernel
