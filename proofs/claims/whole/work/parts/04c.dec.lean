theorem dX11_isMinute_15 : decode cX11_isMinute 15 = .ok (.iconst 0, 1) := by decide +kernel
theorem dX11_isMinute_16 : decode cX11_isMinute 16 = .ok (.ireturn, 1) := by decide +kernel
theorem dX11_isShelf_0 : decode cX11_isShelf 0 = .ok (.iload_n 0, 1) := by decide +kernel
theorem dX11_isShelf_1 : decode cX11_isShelf 1 = .ok (.ifCond .lt 13, 3) := by decide +kernel
theorem dX11_isShelf_4 : decode cX11_isShelf 4 = .ok (.iload_n 0, 1) := by decide +kernel
theorem dX11_isShelf_5 : decode cX11_isShelf 5 = .ok (.bipush 8, 2) := by decide +kernel
theorem dX11_isShelf_7 : decode cX11_isShelf 7 = .ok (.if_icmp .ge 7, 3) := by decide +kernel
theorem dX11_isShelf_10 : decode cX11_isShelf 10 = .ok (.iconst 1, 1) := by decide +kernel
theorem dX11_isShelf_11 : decode cX11_isShelf 11 = .ok (.goto 4, 3) := by decide +kernel
theorem dX11_isShelf_14 : decode cX11_isShelf 14 = .ok (.iconst 0, 1) := by decide +kernel
theorem dX11_isShelf_15 : decode cX11_isShelf 15 = .ok (.ireturn, 1) := by decide +kernel
theorem dX11_isOffer_0 : decode cX11_isOffer 0 = .ok (.iload_n 0, 1) := by decide +kernel
theorem dX11_isOffer_1 : decode cX11_isOffer 1 = .ok (.invokestatic 84, 3) := by decide +kernel
theorem dX11_isOffer_4 : decode cX11_isOffer 4 = .ok (.ifCond .eq 27, 3) := by decide +kernel
theorem dX11_isOffer_7 : decode cX11_isOffer 7 = .ok (.iload_n 1, 1) := by decide +kernel
theorem dX11_isOffer_8 : decode cX11_isOffer 8 = .ok (.ifCond .lt 23, 3) := by decide +kernel
theorem dX11_isOffer_11 : decode cX11_isOffer 11 = .ok (.iload_n 1, 1) := by decide +kernel
theorem dX11_isOffer_12 : decode cX11_isOffer 12 = .ok (.bipush 60, 2) := by decide +kernel
theorem dX11_isOffer_14 : decode cX11_isOffer 14 = .ok (.if_icmp .gt 17, 3) := by decide +kernel
theorem dX11_isOffer_17 : decode cX11_isOffer 17 = .ok (.iload_n 2, 1) := by decide +kernel
theorem dX11_isOffer_18 : decode cX11_isOffer 18 = .ok (.ifCond .lt 13, 3) := by decide +kernel
theorem dX11_isOffer_21 : decode cX11_isOffer 21 = .ok (.iload_n 2, 1) := by decide +kernel
theorem dX11_isOffer_22 : decode cX11_isOffer 22 = .ok (.bipush 9, 2) := by decide +kernel
theorem dX11_isOffer_24 : decode cX11_isOffer 24 = .ok (.if_icmp .gt 7, 3) := by decide +kernel
theorem dX11_isOffer_27 : decode cX11_isOffer 27 = .ok (.iconst 1, 1) := by decide +kernel
theorem dX11_isOffer_28 : decode cX11_isOffer 28 = .ok (.goto 4, 3) := by decide +kernel
theorem dX11_isOffer_31 : decode cX11_isOffer 31 = .ok (.iconst 0, 1) := by decide +kernel
theorem dX11_isOffer_32 : decode cX11_isOffer 32 = .ok (.ireturn, 1) := by decide +kernel
theorem dX11_refusalOfRow_0 : decode cX11_refusalOfRow 0 = .ok (.iload_n 1, 1) := by decide +kernel
theorem dX11_refusalOfRow_1 : decode cX11_refusalOfRow 1 = .ok (.invokestatic 235, 3) := by decide +kernel
theorem dX11_refusalOfRow_4 : decode cX11_refusalOfRow 4 = .ok (.ifCond .ne 5, 3) := by decide +kernel
theorem dX11_refusalOfRow_7 : decode cX11_refusalOfRow 7 = .ok (.iconst (-1), 1) := by decide +kernel
theorem dX11_refusalOfRow_8 : decode cX11_refusalOfRow 8 = .ok (.ireturn, 1) := by decide +kernel
theorem dX11_refusalOfRow_9 : decode cX11_refusalOfRow 9 = .ok (.aload_n 0, 1) := by decide +kernel
theorem dX11_refusalOfRow_10 : decode cX11_refusalOfRow 10 = .ok (.getfield 40, 3) := by decide +kernel
theorem dX11_refusalOfRow_13 : decode cX11_refusalOfRow 13 = .ok (.iload_n 1, 1) := by decide +kernel
theorem dX11_refusalOfRow_14 : decode cX11_refusalOfRow 14 = .ok (.iaload, 1) := by decide +kernel
theorem dX11_refusalOfRow_15 : decode cX11_refusalOfRow 15 = .ok (.ifCond .ne 6, 3) := by decide +kernel
theorem dX11_refusalOfRow_18 : decode cX11_refusalOfRow 18 = .ok (.bipush (-11), 2) := by decide +kernel
theorem dX11_refusalOfRow_20 : decode cX11_refusalOfRow 20 = .ok (.ireturn, 1) := by decide +kernel
theorem dX11_refusalOfRow_21 : decode cX11_refusalOfRow 21 = .ok (.aload_n 0, 1) := by decide +kernel
theorem dX11_refusalOfRow_22 : decode cX11_refusalOfRow 22 = .ok (.iload_n 1, 1) := by decide +kernel
theorem dX11_refusalOfRow_23 : decode cX11_refusalOfRow 23 = .ok (.invokevirtual 255, 3) := by decide +kernel
theorem dX11_refusalOfRow_26 : decode cX11_refusalOfRow 26 = .ok (.ifCond .ne 6, 3) := by decide +kernel
theorem dX11_refusalOfRow_29 : decode cX11_refusalOfRow 29 = .ok (.bipush (-12), 2) := by decide +kernel
theorem dX11_refusalOfRow_31 : decode cX11_refusalOfRow 31 = .ok (.ireturn, 1) := by decide +kernel
theorem dX11_refusalOfRow_32 : decode cX11_refusalOfRow 32 = .ok (.iload_n 2, 1) := by decide +kernel
theorem dX11_refusalOfRow_33 : decode cX11_refusalOfRow 33 = .ok (.iconst (-1), 1) := by decide +kernel
theorem dX11_refusalOfRow_34 : decode cX11_refusalOfRow 34 = .ok (.if_icmp .eq 16, 3) := by decide +kernel
theorem dX11_refusalOfRow_37 : decode cX11_refusalOfRow 37 = .ok (.aload_n 0, 1) := by decide +kernel
theorem dX11_refusalOfRow_38 : decode cX11_refusalOfRow 38 = .ok (.getfield 51, 3) := by decide +kernel
theorem dX11_refusalOfRow_41 : decode cX11_refusalOfRow 41 = .ok (.iload_n 1, 1) := by decide +kernel
theorem dX11_refusalOfRow_42 : decode cX11_refusalOfRow 42 = .ok (.aaload, 1) := by decide +kernel
theorem dX11_refusalOfRow_43 : decode cX11_refusalOfRow 43 = .ok (.getfield 265, 3) := by decide +kernel
theorem dX11_refusalOfRow_46 : decode cX11_refusalOfRow 46 = .ok (.iload_n 2, 1) := by decide +kernel
theorem dX11_refusalOfRow_47 : decode cX11_refusalOfRow 47 = .ok (.if_icmp .ne 7, 3) := by decide +kernel
theorem dX11_refusalOfRow_50 : decode cX11_refusalOfRow 50 = .ok (.iconst 0, 1) := by decide +kernel
theorem dX11_refusalOfRow_51 : decode cX11_refusalOfRow 51 = .ok (.goto 5, 3) := by decide +kernel
theorem dX11_refusalOfRow_54 : decode cX11_refusalOfRow 54 = .ok (.bipush (-12), 2) := by decide +kernel
theorem dX11_refusalOfRow_56 : decode cX11_refusalOfRow 56 = .ok (.ireturn, 1) := by decide +kernel
theorem dX11_holdsRow_0 : decode cX11_holdsRow 0 = .ok (.iload_n 1, 1) := by decide +kernel
theorem dX11_holdsRow_1 : decode cX11_holdsRow 1 = .ok (.invokestatic 235, 3) := by decide +kernel
theorem dX11_holdsRow_4 : decode cX11_holdsRow 4 = .ok (.ifCond .eq 26, 3) := by decide +kernel
theorem dX11_holdsRow_7 : decode cX11_holdsRow 7 = .ok (.aload_n 0, 1) := by decide +kernel
theorem dX11_holdsRow_8 : decode cX11_holdsRow 8 = .ok (.getfield 40, 3) := by decide +kernel
theorem dX11_holdsRow_11 : decode cX11_holdsRow 11 = .ok (.iload_n 1, 1) := by decide +kernel
theorem dX11_holdsRow_12 : decode cX11_holdsRow 12 = .ok (.iaload, 1) := by decide +kernel
theorem dX11_holdsRow_13 : decode cX11_holdsRow 13 = .ok (.iconst 2, 1) := by decide +kernel
theorem dX11_holdsRow_14 : decode cX11_holdsRow 14 = .ok (.if_icmp .ne 16, 3) := by decide +kernel
theorem dX11_holdsRow_17 : decode cX11_holdsRow 17 = .ok (.aload_n 0, 1) := by decide +kernel
theorem dX11_holdsRow_18 : decode cX11_holdsRow 18 = .ok (.getfield 51, 3) := by decide +kernel
theorem dX11_holdsRow_21 : decode cX11_holdsRow 21 = .ok (.iload_n 1, 1) := by decide +kernel
theorem dX11_holdsRow_22 : decode cX11_holdsRow 22 = .ok (.aaload, 1) := by decide +kernel
theorem dX11_holdsRow_23 : decode cX11_holdsRow 23 = .ok (.ifnull 7, 3) := by decide +kernel
theorem dX11_holdsRow_26 : decode cX11_holdsRow 26 = .ok (.iconst 1, 1) := by decide +kernel
theorem dX11_holdsRow_27 : decode cX11_holdsRow 27 = .ok (.goto 4, 3) := by decide +kernel
theorem dX11_holdsRow_30 : decode cX11_holdsRow 30 = .ok (.iconst 0, 1) := by decide +kernel
theorem dX11_holdsRow_31 : decode cX11_holdsRow 31 = .ok (.ireturn, 1) := by decide +kernel
theorem dX11_refusalOfLooker_0 : decode cX11_refusalOfLooker 0 = .ok (.iload_n 1, 1) := by decide +kernel
theorem dX11_refusalOfLooker_1 : decode cX11_refusalOfLooker 1 = .ok (.invokestatic 235, 3) := by decide +kernel
theorem dX11_refusalOfLooker_4 : decode cX11_refusalOfLooker 4 = .ok (.ifCond .ne 5, 3) := by decide +kernel
theorem dX11_refusalOfLooker_7 : decode cX11_refusalOfLooker 7 = .ok (.iconst (-1), 1) := by decide +kernel
theorem dX11_refusalOfLooker_8 : decode cX11_refusalOfLooker 8 = .ok (.ireturn, 1) := by decide +kernel
theorem dX11_refusalOfLooker_9 : decode cX11_refusalOfLooker 9 = .ok (.aload_n 0, 1) := by decide +kernel
theorem dX11_refusalOfLooker_10 : decode cX11_refusalOfLooker 10 = .ok (.getfield 40, 3) := by decide +kernel
theorem dX11_refusalOfLooker_13 : decode cX11_refusalOfLooker 13 = .ok (.iload_n 1, 1) := by decide +kernel
theorem dX11_refusalOfLooker_14 : decode cX11_refusalOfLooker 14 = .ok (.iaload, 1) := by decide +kernel
theorem dX11_refusalOfLooker_15 : decode cX11_refusalOfLooker 15 = .ok (.ifCond .ne 6, 3) := by decide +kernel
theorem dX11_refusalOfLooker_18 : decode cX11_refusalOfLooker 18 = .ok (.bipush (-11), 2) := by decide +kernel
theorem dX11_refusalOfLooker_20 : decode cX11_refusalOfLooker 20 = .ok (.ireturn, 1) := by decide +kernel
theorem dX11_refusalOfLooker_21 : decode cX11_refusalOfLooker 21 = .ok (.aload_n 0, 1) := by decide +kernel
theorem dX11_refusalOfLooker_22 : decode cX11_refusalOfLooker 22 = .ok (.getfield 40, 3) := by decide +kernel
theorem dX11_refusalOfLooker_25 : decode cX11_refusalOfLooker 25 = .ok (.iload_n 1, 1) := by decide +kernel
theorem dX11_refusalOfLooker_26 : decode cX11_refusalOfLooker 26 = .ok (.iaload, 1) := by decide +kernel
theorem dX11_refusalOfLooker_27 : decode cX11_refusalOfLooker 27 = .ok (.iconst 1, 1) := by decide +kernel
theorem dX11_refusalOfLooker_28 : decode cX11_refusalOfLooker 28 = .ok (.if_icmp .ne 16, 3) := by decide +kernel
theorem dX11_refusalOfLooker_31 : decode cX11_refusalOfLooker 31 = .ok (.aload_n 0, 1) := by decide +kernel
theorem dX11_refusalOfLooker_32 : decode cX11_refusalOfLooker 32 = .ok (.getfield 45, 3) := by decide +kernel
theorem dX11_refusalOfLooker_35 : decode cX11_refusalOfLooker 35 = .ok (.iload_n 1, 1) := by decide +kernel
theorem dX11_refusalOfLooker_36 : decode cX11_refusalOfLooker 36 = .ok (.aaload, 1) := by decide +kernel
theorem dX11_refusalOfLooker_37 : decode cX11_refusalOfLooker 37 = .ok (.ifnull 7, 3) := by decide +kernel
theorem dX11_refusalOfLooker_40 : decode cX11_refusalOfLooker 40 = .ok (.iconst 0, 1) := by decide +kernel
theorem dX11_refusalOfLooker_41 : decode cX11_refusalOfLooker 41 = .ok (.goto 5, 3) := by decide +kernel
theorem dX11_refusalOfLooker_44 : decode cX11_refusalOfLooker 44 = .ok (.bipush (-12), 2) := by decide +kernel
theorem dX11_refusalOfLooker_46 : decode cX11_refusalOfLooker 46 = .ok (.ireturn, 1) := by decide +kernel
theorem dX11_priceAt_0 : decode cX11_priceAt 0 = .ok (.iload_n 1, 1) := by decide +kernel
theorem dX11_priceAt_1 : decode cX11_priceAt 1 = .ok (.iconst 2, 1) := by decide +kernel
theorem dX11_priceAt_2 : decode cX11_priceAt 2 = .ok (.if_icmp .ne 6, 3) := by decide +kernel
theorem dX11_priceAt_5 : decode cX11_priceAt 5 = .ok (.bipush 6, 2) := by decide +kernel
theorem dX11_priceAt_7 : decode cX11_priceAt 7 = .ok (.ireturn, 1) := by decide +kernel
theorem dX11_priceAt_8 : decode cX11_priceAt 8 = .ok (.iload_n 0, 1) := by decide +kernel
theorem dX11_priceAt_9 : decode cX11_priceAt 9 = .ok (.bipush 60, 2) := by decide +kernel
theorem dX11_priceAt_11 : decode cX11_priceAt 11 = .ok (.if_icmp .ge 8, 3) := by decide +kernel
theorem dX11_priceAt_14 : decode cX11_priceAt 14 = .ok (.bipush 12, 2) := by decide +kernel
theorem dX11_priceAt_16 : decode cX11_priceAt 16 = .ok (.goto 7, 3) := by decide +kernel
theorem dX11_priceAt_19 : decode cX11_priceAt 19 = .ok (.iload_n 0, 1) := by decide +kernel
theorem dX11_priceAt_20 : decode cX11_priceAt 20 = .ok (.bipush 60, 2) := by decide +kernel
theorem dX11_priceAt_22 : decode cX11_priceAt 22 = .ok (.idiv, 1) := by decide +kernel
theorem dX11_priceAt_23 : decode cX11_priceAt 23 = .ok (.istore_n 2, 1) := by decide +kernel
theorem dX11_priceAt_24 : decode cX11_priceAt 24 = .ok (.iload_n 1, 1) := by decide +kernel
theorem dX11_priceAt_25 : decode cX11_priceAt 25 = .ok (.iconst 1, 1) := by decide +kernel
theorem dX11_priceAt_26 : decode cX11_priceAt 26 = .ok (.if_icmp .ne 15, 3) := by decide +kernel
theorem dX11_priceAt_29 : decode cX11_priceAt 29 = .ok (.iload_n 2, 1) := by decide +kernel
theorem dX11_priceAt_30 : decode cX11_priceAt 30 = .ok (.iload_n 0, 1) := by decide +kernel
theorem dX11_priceAt_31 : decode cX11_priceAt 31 = .ok (.bipush 60, 2) := by decide +kernel
theorem dX11_priceAt_33 : decode cX11_priceAt 33 = .ok (.irem, 1) := by decide +kernel
theorem dX11_priceAt_34 : decode cX11_priceAt 34 = .ok (.bipush 10, 2) := by decide +kernel
theorem dX11_priceAt_36 : decode cX11_priceAt 36 = .ok (.idiv, 1) := by decide +kernel
theorem dX11_priceAt_37 : decode cX11_priceAt 37 = .ok (.iadd, 1) := by decide +kernel
theorem dX11_priceAt_38 : decode cX11_priceAt 38 = .ok (.goto 4, 3) := by decide +kernel
theorem dX11_priceAt_41 : decode cX11_priceAt 41 = .ok (.iload_n 2, 1) := by decide +kernel
theorem dX11_priceAt_42 : decode cX11_priceAt 42 = .ok (.ireturn, 1) := by decide +kernel
theorem dX11_otherPriceAt_0 : decode cX11_otherPriceAt 0 = .ok (.iload_n 0, 1) := by decide +kernel
theorem dX11_otherPriceAt_1 : decode cX11_otherPriceAt 1 = .ok (.bipush 60, 2) := by decide +kernel
theorem dX11_otherPriceAt_3 : decode cX11_otherPriceAt 3 = .ok (.iadd, 1) := by decide +kernel
theorem dX11_otherPriceAt_4 : decode cX11_otherPriceAt 4 = .ok (.sipush 720, 3) := by decide +kernel
theorem dX11_otherPriceAt_7 : decode cX11_otherPriceAt 7 = .ok (.irem, 1) := by decide +kernel
theorem dX11_otherPriceAt_8 : decode cX11_otherPriceAt 8 = .ok (.iload_n 1, 1) := by decide +kernel
theorem dX11_otherPriceAt_9 : decode cX11_otherPriceAt 9 = .ok (.invokestatic 91, 3) := by decide +kernel
theorem dX11_otherPriceAt_12 : decode cX11_otherPriceAt 12 = .ok (.ireturn, 1) := by decide +kernel
theorem dX11_cheapMinute_0 : decode cX11_cheapMinute 0 = .ok (.iload_n 0, 1) := by decide +kernel
theorem dX11_cheapMinute_1 : decode cX11_cheapMinute 1 = .ok (.istore_n 3, 1) := by decide +kernel
theorem dX11_cheapMinute_2 : decode cX11_cheapMinute 2 = .ok (.iload_n 3, 1) := by decide +kernel
theorem dX11_cheapMinute_3 : decode cX11_cheapMinute 3 = .ok (.sipush 719, 3) := by decide +kernel
theorem dX11_cheapMinute_6 : decode cX11_cheapMinute 6 = .ok (.if_icmp .gt 20, 3) := by decide +kernel
theorem dX11_cheapMinute_9 : decode cX11_cheapMinute 9 = .ok (.iload_n 3, 1) := by decide +kernel
theorem dX11_cheapMinute_10 : decode cX11_cheapMinute 10 = .ok (.iload_n 2, 1) := by decide +kernel
theorem dX11_cheapMinute_11 : decode cX11_cheapMinute 11 = .ok (.invokestatic 91, 3) := by decide +kernel
theorem dX11_cheapMinute_14 : decode cX11_cheapMinute 14 = .ok (.iload_n 1, 1) := by decide +kernel
theorem dX11_cheapMinute_15 : decode cX11_cheapMinute 15 = .ok (.if_icmp .gt 5, 3) := by decide +kernel
theorem dX11_cheapMinute_18 : decode cX11_cheapMinute 18 = .ok (.iload_n 3, 1) := by decide +kernel
theorem dX11_cheapMinute_19 : decode cX11_cheapMinute 19 = .ok (.ireturn, 1) := by decide +kernel
theorem dX11_cheapMinute_20 : decode cX11_cheapMinute 20 = .ok (.iinc 3 1, 3) := by decide +kernel
theorem dX11_cheapMinute_23 : decode cX11_cheapMinute 23 = .ok (.goto (-21), 3) := by decide +kernel
theorem dX11_cheapMinute_26 : decode cX11_cheapMinute 26 = .ok (.sipush 720, 3) := by decide +kernel
theorem dX11_cheapMinute_29 : decode cX11_cheapMinute 29 = .ok (.ireturn, 1) := by decide +kernel
theorem dX11_reckoned_0 : decode cX11_reckoned 0 = .ok (.iload_n 2, 1) := by decide +kernel
theorem dX11_reckoned_1 : decode cX11_reckoned 1 = .ok (.iload_n 2, 1) := by decide +kernel
theorem dX11_reckoned_2 : decode cX11_reckoned 2 = .ok (.iload_n 1, 1) := by decide +kernel
theorem dX11_reckoned_3 : decode cX11_reckoned 3 = .ok (.isub, 1) := by decide +kernel
theorem dX11_reckoned_4 : decode cX11_reckoned 4 = .ok (.iload_n 0, 1) := by decide +kernel
theorem dX11_reckoned_5 : decode cX11_reckoned 5 = .ok (.imul, 1) := by decide +kernel
theorem dX11_reckoned_6 : decode cX11_reckoned 6 = .ok (.bipush 60, 2) := by decide +kernel
theorem dX11_reckoned_8 : decode cX11_reckoned 8 = .ok (.idiv, 1) := by decide +kernel
theorem dX11_reckoned_9 : decode cX11_reckoned 9 = .ok (.iadd, 1) := by decide +kernel
theorem dX11_reckoned_10 : decode cX11_reckoned 10 = .ok (.ireturn, 1) := by decide +kernel
theorem dX11_part_0 : decode cX11_part 0 = .ok (.iload_n 1, 1) := by decide +kernel
theorem dX11_part_1 : decode cX11_part 1 = .ok (.iconst 1, 1) := by decide +kernel
theorem dX11_part_2 : decode cX11_part 2 = .ok (.if_icmp .ge 7, 3) := by decide +kernel
theorem dX11_part_5 : decode cX11_part 5 = .ok (.iload_n 0, 1) := by decide +kernel
theorem dX11_part_6 : decode cX11_part 6 = .ok (.goto 10, 3) := by decide +kernel
theorem dX11_part_9 : decode cX11_part 9 = .ok (.iload_n 0, 1) := by decide +kernel
theorem dX11_part_10 : decode cX11_part 10 = .ok (.iload_n 1, 1) := by decide +kernel
theorem dX11_part_11 : decode cX11_part 11 = .ok (.iadd, 1) := by decide +kernel
theorem dX11_part_12 : decode cX11_part 12 = .ok (.iconst 1, 1) := by decide +kernel
theorem dX11_part_13 : decode cX11_part 13 = .ok (.isub, 1) := by decide +kernel
theorem dX11_part_14 : decode cX11_part 14 = .ok (.iload_n 1, 1) := by decide +kernel
theorem dX11_part_15 : decode cX11_part 15 = .ok (.idiv, 1) := by decide +kernel
theorem dX11_part_16 : decode cX11_part 16 = .ok (.ireturn, 1) := by decide +kernel
theorem dX11_countCosts_0 : decode cX11_countCosts 0 = .ok (.iconst 0, 1) := by decide +kernel
theorem dX11_countCosts_1 : decode cX11_countCosts 1 = .ok (.istore_n 1, 1) := by decide +kernel
theorem dX11_countCosts_2 : decode cX11_countCosts 2 = .ok (.iload_n 1, 1) := by decide +kernel
theorem dX11_countCosts_3 : decode cX11_countCosts 3 = .ok (.bipush 6, 2) := by decide +kernel
theorem dX11_countCosts_5 : decode cX11_countCosts 5 = .ok (.if_icmp .ge 56, 3) := by decide +kernel
theorem dX11_countCosts_8 : decode cX11_countCosts 8 = .ok (.aload_n 0, 1) := by decide +kernel
theorem dX11_countCosts_9 : decode cX11_countCosts 9 = .ok (.iload_n 1, 1) := by decide +kernel
theorem dX11_countCosts_10 : decode cX11_countCosts 10 = .ok (.invokevirtual 109, 3) := by decide +kernel
theorem dX11_countCosts_13 : decode cX11_countCosts 13 = .ok (.astore_n 2, 1) := by decide +kernel
theorem dX11_countCosts_14 : decode cX11_countCosts 14 = .ok (.aload_n 2, 1) := by decide +kernel
theorem dX11_countCosts_15 : decode cX11_countCosts 15 = .ok (.ifnonnull 4, 3) := by decide +kernel
theorem dX11_countCosts_18 : decode cX11_countCosts 18 = .ok (.return_, 1) := by decide +kernel
theorem dX11_countCosts_19 : decode cX11_countCosts 19 = .ok (.aload_n 0, 1) := by decide +kernel
theorem dX11_countCosts_20 : decode cX11_countCosts 20 = .ok (.getfield 29, 3) := by decide +kernel
theorem dX11_countCosts_23 : decode cX11_countCosts 23 = .ok (.aload_n 0, 1) := by decide +kernel
theorem dX11_countCosts_24 : decode cX11_countCosts 24 = .ok (.getfield 12, 3) := by decide +kernel
theorem dX11_countCosts_27 : decode cX11_countCosts 27 = .ok (.aload_n 2, 1) := by decide +kernel
theorem dX11_countCosts_28 : decode cX11_countCosts 28 = .ok (.aload_n 2, 1) := by decide +kernel
theorem dX11_countCosts_29 : decode cX11_countCosts 29 = .ok (.getfield 127, 3) := by decide +kernel
theorem dX11_countCosts_32 : decode cX11_countCosts 32 = .ok (.aload_n 0, 1) := by decide +kernel
theorem dX11_countCosts_33 : decode cX11_countCosts 33 = .ok (.getfield 12, 3) := by decide +kernel
theorem dX11_countCosts_36 : decode cX11_countCosts 36 = .ok (.getfield 88, 3) := by decide +kernel
theorem dX11_countCosts_39 : decode cX11_countCosts 39 = .ok (.invokevirtual 134, 3) := by decide +kernel
theorem dX11_countCosts_42 : decode cX11_countCosts 42 = .ok (.aload_n 0, 1) := by decide +kernel
theorem dX11_countCosts_43 : decode cX11_countCosts 43 = .ok (.getfield 37, 3) := by decide +kernel
theorem dX11_countCosts_46 : decode cX11_countCosts 46 = .ok (.iload_n 1, 1) := by decide +kernel
theorem dX11_countCosts_47 : decode cX11_countCosts 47 = .ok (.aload_n 0, 1) := by decide +kernel
theorem dX11_countCosts_48 : decode cX11_countCosts 48 = .ok (.getfield 29, 3) := by decide +kernel
theorem dX11_countCosts_51 : decode cX11_countCosts 51 = .ok (.getfield 138, 3) := by decide +kernel
theorem dX11_countCosts_54 : decode cX11_countCosts 54 = .ok (.iastore, 1) := by decide +kernel
theorem dX11_countCosts_55 : decode cX11_countCosts 55 = .ok (.iinc 1 1, 3) := by decide +kernel
theorem dX11_countCosts_58 : decode cX11_countCosts 58 = .ok (.goto (-56), 3) := by decide +kernel
theorem dX11_countCosts_61 : decode cX11_countCosts 61 = .ok (.return_, 1) := by decide +kernel
theorem dX11_weightOf_0 : decode cX11_weightOf 0 = .ok (.iconst 1, 1) := by decide +kernel
theorem dX11_weightOf_1 : decode cX11_weightOf 1 = .ok (.istore_n 2, 1) := by decide +kernel
theorem dX11_weightOf_2 : decode cX11_weightOf 2 = .ok (.iconst 0, 1) := by decide +kernel
theorem dX11_weightOf_3 : decode cX11_weightOf 3 = .ok (.istore_n 3, 1) := by decide +kernel
theorem dX11_weightOf_4 : decode cX11_weightOf 4 = .ok (.iload_n 3, 1) := by decide +kernel
theorem dX11_weightOf_5 : decode cX11_weightOf 5 = .ok (.bipush 6, 2) := by decide +kernel
theorem dX11_weightOf_7 : decode cX11_weightOf 7 = .ok (.if_icmp .ge 60, 3) := by decide +kernel
theorem dX11_weightOf_10 : decode cX11_weightOf 10 = .ok (.iload_n 3, 1) := by decide +kernel
theorem dX11_weightOf_11 : decode cX11_weightOf 11 = .ok (.aload_n 0, 1) := by decide +kernel
theorem dX11_weightOf_12 : decode cX11_weightOf 12 = .ok (.getfield 12, 3) := by decide +kernel
theorem dX11_weightOf_15 : decode cX11_weightOf 15 = .ok (.getfield 211, 3) := by decide +kernel
theorem dX11_weightOf_18 : decode cX11_weightOf 18 = .ok (.if_icmp .ge 49, 3) := by decide +kernel
theorem dX11_weightOf_21 : decode cX11_weightOf 21 = .ok (.aload_n 0, 1) := by decide +kernel
theorem dX11_weightOf_22 : decode cX11_weightOf 22 = .ok (.getfield 37, 3) := by decide +kernel
theorem dX11_weightOf_25 : decode cX11_weightOf 25 = .ok (.iload_n 3, 1) := by decide +kernel
theorem dX11_weightOf_26 : decode cX11_weightOf 26 = .ok (.iaload, 1) := by decide +kernel
theorem dX11_weightOf_27 : decode cX11_weightOf 27 = .ok (.aload_n 0, 1) := by decide +kernel
theorem dX11_weightOf_28 : decode cX11_weightOf 28 = .ok (.getfield 37, 3) := by decide +kernel
theorem dX11_weightOf_31 : decode cX11_weightOf 31 = .ok (.iload_n 1, 1) := by decide +kernel
theorem dX11_weightOf_32 : decode cX11_weightOf 32 = .ok (.iaload, 1) := by decide +kernel
theorem dX11_weightOf_33 : decode cX11_weightOf 33 = .ok (.if_icmp .lt 23, 3) := by decide +kernel
theorem dX11_weightOf_36 : decode cX11_weightOf 36 = .ok (.aload_n 0, 1) := by decide +kernel
theorem dX11_weightOf_37 : decode cX11_weightOf 37 = .ok (.getfield 37, 3) := by decide +kernel
theorem dX11_weightOf_40 : decode cX11_weightOf 40 = .ok (.iload_n 3, 1) := by decide +kernel
theorem dX11_weightOf_41 : decode cX11_weightOf 41 = .ok (.iaload, 1) := by decide +kernel
theorem dX11_weightOf_42 : decode cX11_weightOf 42 = .ok (.aload_n 0, 1) := by decide +kernel
theorem dX11_weightOf_43 : decode cX11_weightOf 43 = .ok (.getfield 37, 3) := by decide +kernel
theorem dX11_weightOf_46 : decode cX11_weightOf 46 = .ok (.iload_n 1, 1) := by decide +kernel
theorem dX11_weightOf_47 : decode cX11_weightOf 47 = .ok (.iaload, 1) := by decide +kernel
theorem dX11_weightOf_48 : decode cX11_weightOf 48 = .ok (.if_icmp .ne 13, 3) := by decide +kernel
theorem dX11_weightOf_51 : decode cX11_weightOf 51 = .ok (.iload_n 3, 1) := by decide +kernel
theorem dX11_weightOf_52 : decode cX11_weightOf 52 = .ok (.iload_n 1, 1) := by decide +kernel
theorem dX11_weightOf_53 : decode cX11_weightOf 53 = .ok (.if_icmp .ge 8, 3) := by decide +kernel
theorem dX11_weightOf_56 : decode cX11_weightOf 56 = .ok (.iload_n 2, 1) := by decide +kernel
theorem dX11_weightOf_57 : decode cX11_weightOf 57 = .ok (.bipush 10, 2) := by decide +kernel
theorem dX11_weightOf_59 : decode cX11_weightOf 59 = .ok (.imul, 1) := by decide +kernel
theorem dX11_weightOf_60 : decode cX11_weightOf 60 = .ok (.istore_n 2, 1) := by decide +kernel
theorem dX11_weightOf_61 : decode cX11_weightOf 61 = .ok (.iinc 3 1, 3) := by decide +kernel
theorem dX11_weightOf_64 : decode cX11_weightOf 64 = .ok (.goto (-60), 3) := by decide +kernel
theorem dX11_weightOf_67 : decode cX11_weightOf 67 = .ok (.iload_n 2, 1) := by decide +kernel
theorem dX11_weightOf_68 : decode cX11_weightOf 68 = .ok (.ireturn, 1) := by decide +kernel
theorem dX11_areThoughts_0 : decode cX11_areThoughts 0 = .ok (.aload_n 0, 1) := by decide +kernel
theorem dX11_areThoughts_1 : decode cX11_areThoughts 1 = .ok (.getfield 68, 3) := by decide +kernel
theorem dX11_areThoughts_4 : decode cX11_areThoughts 4 = .ok (.iconst 3, 1) := by decide +kernel
theorem dX11_areThoughts_5 : decode cX11_areThoughts 5 = .ok (.irem, 1) := by decide +kernel
theorem dX11_areThoughts_6 : decode cX11_areThoughts 6 = .ok (.ifCond .eq 5, 3) := by decide +kernel
theorem dX11_areThoughts_9 : decode cX11_areThoughts 9 = .ok (.iconst 0, 1) := by decide +kernel
theorem dX11_areThoughts_10 : decode cX11_areThoughts 10 = .ok (.ireturn, 1) := by decide +kernel
theorem dX11_areThoughts_11 : decode cX11_areThoughts 11 = .ok (.iconst 0, 1) := by decide +kernel
theorem dX11_areThoughts_12 : decode cX11_areThoughts 12 = .ok (.istore_n 1, 1) := by decide +kernel
theorem dX11_areThoughts_13 : decode cX11_areThoughts 13 = .ok (.iload_n 1, 1) := by decide +kernel
theorem dX11_areThoughts_14 : decode cX11_areThoughts 14 = .ok (.iconst 2, 1) := by decide +kernel
theorem dX11_areThoughts_15 : decode cX11_areThoughts 15 = .ok (.iadd, 1) := by decide +kernel
theorem dX11_areThoughts_16 : decode cX11_areThoughts 16 = .ok (.aload_n 0, 1) := by decide +kernel
theorem dX11_areThoughts_17 : decode cX11_areThoughts 17 = .ok (.getfield 68, 3) := by decide +kernel
theorem dX11_areThoughts_20 : decode cX11_areThoughts 20 = .ok (.if_icmp .ge 44, 3) := by decide +kernel
theorem dX11_areThoughts_23 : decode cX11_areThoughts 23 = .ok (.aload_n 0, 1) := by decide +kernel
theorem dX11_areThoughts_24 : decode cX11_areThoughts 24 = .ok (.iload_n 1, 1) := by decide +kernel
theorem dX11_areThoughts_25 : decode cX11_areThoughts 25 = .ok (.invokevirtual 76, 3) := by decide +kernel
theorem dX11_areThoughts_28 : decode cX11_areThoughts 28 = .ok (.istore_n 2, 1) := by decide +kernel
theorem dX11_areThoughts_29 : decode cX11_areThoughts 29 = .ok (.aload_n 0, 1) := by decide +kernel
theorem dX11_areThoughts_30 : decode cX11_areThoughts 30 = .ok (.iload_n 1, 1) := by decide +kernel
theorem dX11_areThoughts_31 : decode cX11_areThoughts 31 = .ok (.iconst 1, 1) := by decide +kernel
theorem dX11_areThoughts_32 : decode cX11_areThoughts 32 = .ok (.iadd, 1) := by decide +kernel
theorem dX11_areThoughts_33 : decode cX11_areThoughts 33 = .ok (.invokevirtual 76, 3) := by decide +kernel
theorem dX11_areThoughts_36 : decode cX11_areThoughts 36 = .ok (.istore_n 3, 1) := by decide +kernel
theorem dX11_areThoughts_37 : decode cX11_areThoughts 37 = .ok (.iload_n 2, 1) := by decide +kernel
theorem dX11_areThoughts_38 : decode cX11_areThoughts 38 = .ok (.invokestatic 84, 3) := by decide +kernel
theorem dX11_areThoughts_41 : decode cX11_areThoughts 41 = .ok (.ifCond .eq 15, 3) := by decide +kernel
theorem dX11_areThoughts_44 : decode cX11_areThoughts 44 = .ok (.iload_n 3, 1) := by decide +kernel
theorem dX11_areThoughts_45 : decode cX11_areThoughts 45 = .ok (.invokestatic 84, 3) := by decide +kernel
theorem dX11_areThoughts_48 : decode cX11_areThoughts 48 = .ok (.ifCond .eq 8, 3) := by decide +kernel
theorem dX11_areThoughts_51 : decode cX11_areThoughts 51 = .ok (.iload_n 3, 1) := by decide +kernel
theorem dX11_areThoughts_52 : decode cX11_areThoughts 52 = .ok (.iload_n 2, 1) := by decide +kernel
theorem dX11_areThoughts_53 : decode cX11_areThoughts 53 = .ok (.if_icmp .gt 5, 3) := by decide +kernel
theorem dX11_areThoughts_56 : decode cX11_areThoughts 56 = .ok (.iconst 0, 1) := by decide +kernel
theorem dX11_areThoughts_57 : decode cX11_areThoughts 57 = .ok (.ireturn, 1) := by decide +kernel
theorem dX11_areThoughts_58 : decode cX11_areThoughts 58 = .ok (.iinc 1 3, 3) := by decide +kernel
theorem dX11_areThoughts_61 : decode cX11_areThoughts 61 = .ok (.goto (-48), 3) := by decide +kernel
theorem dX11_areThoughts_64 : decode cX11_areThoughts 64 = .ok (.iconst 1, 1) := by decide +kernel
theorem dX11_areThoughts_65 : decode cX11_areThoughts 65 = .ok (.ireturn, 1) := by decide +kernel
theorem dX11_couldBe_0 : decode cX11_couldBe 0 = .ok (.iconst 0, 1) := by decide +kernel
theorem dX11_couldBe_1 : decode cX11_couldBe 1 = .ok (.istore_n 2, 1) := by decide +kernel
theorem dX11_couldBe_2 : decode cX11_couldBe 2 = .ok (.iload_n 2, 1) := by decide +kernel
theorem dX11_couldBe_3 : decode cX11_couldBe 3 = .ok (.iconst 2, 1) := by decide +kernel
theorem dX11_couldBe_4 : decode cX11_couldBe 4 = .ok (.iadd, 1) := by decide +kernel
theorem dX11_couldBe_5 : decode cX11_couldBe 5 = .ok (.aload_n 0, 1) := by decide +kernel
theorem dX11_couldBe_6 : decode cX11_couldBe 6 = .ok (.getfield 68, 3) := by decide +kernel
theorem dX11_couldBe_9 : decode cX11_couldBe 9 = .ok (.if_icmp .ge 39, 3) := by decide +kernel
theorem dX11_couldBe_12 : decode cX11_couldBe 12 = .ok (.iload_n 1, 1) := by decide +kernel
theorem dX11_couldBe_13 : decode cX11_couldBe 13 = .ok (.aload_n 0, 1) := by decide +kernel
theorem dX11_couldBe_14 : decode cX11_couldBe 14 = .ok (.iload_n 2, 1) := by decide +kernel
theorem dX11_couldBe_15 : decode cX11_couldBe 15 = .ok (.invokevirtual 76, 3) := by decide +kernel
theorem dX11_couldBe_18 : decode cX11_couldBe 18 = .ok (.aload_n 0, 1) := by decide +kernel
theorem dX11_couldBe_19 : decode cX11_couldBe 19 = .ok (.iload_n 2, 1) := by decide +kernel
theorem dX11_couldBe_20 : decode cX11_couldBe 20 = .ok (.iconst 1, 1) := by decide +kernel
theorem dX11_couldBe_21 : decode cX11_couldBe 21 = .ok (.iadd, 1) := by decide +kernel
theorem dX11_couldBe_22 : decode cX11_couldBe 22 = .ok (.invokevirtual 76, 3) := by decide +kernel
theorem dX11_couldBe_25 : decode cX11_couldBe 25 = .ok (.invokestatic 130, 3) := by decide +kernel
theorem dX11_couldBe_28 : decode cX11_couldBe 28 = .ok (.istore_n 3, 1) := by decide +kernel
theorem dX11_couldBe_29 : decode cX11_couldBe 29 = .ok (.iload_n 3, 1) := by decide +kernel
theorem dX11_couldBe_30 : decode cX11_couldBe 30 = .ok (.aload_n 0, 1) := by decide +kernel
theorem dX11_couldBe_31 : decode cX11_couldBe 31 = .ok (.iload_n 2, 1) := by decide +kernel
theorem dX11_couldBe_32 : decode cX11_couldBe 32 = .ok (.iconst 2, 1) := by decide +kernel
theorem dX11_couldBe_33 : decode cX11_couldBe 33 = .ok (.iadd, 1) := by decide +kernel
theorem dX11_couldBe_34 : decode cX11_couldBe 34 = .ok (.invokevirtual 76, 3) := by decide +kernel
theorem dX11_couldBe_37 : decode cX11_couldBe 37 = .ok (.if_icmp .eq 5, 3) := by decide +kernel
theorem dX11_couldBe_40 : decode cX11_couldBe 40 = .ok (.iconst 0, 1) := by decide +kernel
theorem dX11_couldBe_41 : decode cX11_couldBe 41 = .ok (.ireturn, 1) := by decide +kernel
theorem dX11_couldBe_42 : decode cX11_couldBe 42 = .ok (.iinc 2 3, 3) := by decide +kernel
theorem dX11_couldBe_45 : decode cX11_couldBe 45 = .ok (.goto (-43), 3) := by decide +kernel
theorem dX11_couldBe_48 : decode cX11_couldBe 48 = .ok (.iconst 1, 1) := by decide +kernel
theorem dX11_couldBe_49 : decode cX11_couldBe 49 = .ok (.ireturn, 1) := by decide +kernel
theorem dX11_newLooker_0 : decode cX11_newLooker 0 = .ok (.iload_n 0, 1) := by decide +kernel
theorem dX11_newLooker_1 : decode cX11_newLooker 1 = .ok (.tableswitch 134 1 7 #[43, 56, 69, 82, 95, 108, 121], 43) := by decide +kernel
theorem dX11_newLooker_44 : decode cX11_newLooker 44 = .ok (.new 167, 3) := by decide +kernel
theorem dX11_newLooker_47 : decode cX11_newLooker 47 = .ok (.dup, 1) := by decide +kernel
theorem dX11_newLooker_48 : decode cX11_newLooker 48 = .ok (.iload_n 1, 1) := by decide +kernel
theorem dX11_newLooker_49 : decode cX11_newLooker 49 = .ok (.iload_n 2, 1) := by decide +kernel
theorem dX11_newLooker_50 : decode cX11_newLooker 50 = .ok (.iload_n 3, 1) := by decide +kernel
theorem dX11_newLooker_51 : decode cX11_newLooker 51 = .ok (.iload 4, 2) := by decide +kernel
theorem dX11_newLooker_53 : decode cX11_newLooker 53 = .ok (.invokespecial 169, 3) := by decide +kernel
theorem dX11_newLooker_56 : decode cX11_newLooker 56 = .ok (.areturn, 1) := by decide +kernel
theorem dX11_newLooker_57 : decode cX11_newLooker 57 = .ok (.new 179, 3) := by decide +kernel
theorem dX11_newLooker_60 : decode cX11_newLooker 60 = .ok (.dup, 1) := by decide +kernel
theorem dX11_newLooker_61 : decode cX11_newLooker 61 = .ok (.iload_n 1, 1) := by decide +kernel
theorem dX11_newLooker_62 : decode cX11_newLooker 62 = .ok (.iload_n 2, 1) := by decide +kernel
theorem dX11_newLooker_63 : decode cX11_newLooker 63 = .ok (.iload_n 3, 1) := by decide +kernel
theorem dX11_newLooker_64 : decode cX11_newLooker 64 = .ok (.iload 4, 2) := by decide +kernel
theorem dX11_newLooker_66 : decode cX11_newLooker 66 = .ok (.invokespecial 181, 3) := by decide +kernel
theorem dX11_newLooker_69 : decode cX11_newLooker 69 = .ok (.areturn, 1) := by decide +kernel
theorem dX11_newLooker_70 : decode cX11_newLooker 70 = .ok (.new 295, 3) := by decide +kernel
theorem dX11_newLooker_73 : decode cX11_newLooker 73 = .ok (.dup, 1) := by decide +kernel
theorem dX11_newLooker_74 : decode cX11_newLooker 74 = .ok (.iload_n 1, 1) := by decide +kernel
theorem dX11_newLooker_75 : decode cX11_newLooker 75 = .ok (.iload_n 2, 1) := by decide +kernel
theorem dX11_newLooker_76 : decode cX11_newLooker 76 = .ok (.iload_n 3, 1) := by decide +kernel
theorem dX11_newLooker_77 : decode cX11_newLooker 77 = .ok (.iload 4, 2) := by decide +kernel
theorem dX11_newLooker_79 : decode cX11_newLooker 79 = .ok (.invokespecial 297, 3) := by decide +kernel
theorem dX11_newLooker_82 : decode cX11_newLooker 82 = .ok (.areturn, 1) := by decide +kernel
theorem dX11_newLooker_83 : decode cX11_newLooker 83 = .ok (.new 158, 3) := by decide +kernel
theorem dX11_newLooker_86 : decode cX11_newLooker 86 = .ok (.dup, 1) := by decide +kernel
theorem dX11_newLooker_87 : decode cX11_newLooker 87 = .ok (.iload_n 1, 1) := by decide +kernel
theorem dX11_newLooker_88 : decode cX11_newLooker 88 = .ok (.iload_n 2, 1) := by decide +kernel
theorem dX11_newLooker_89 : decode cX11_newLooker 89 = .ok (.iload_n 3, 1) := by decide +kernel
theorem dX11_newLooker_90 : decode cX11_newLooker 90 = .ok (.iload 4, 2) := by decide +kernel
theorem dX11_newLooker_92 : decode cX11_newLooker 92 = .ok (.invokespecial 163, 3) := by decide +kernel
theorem dX11_newLooker_95 : decode cX11_newLooker 95 = .ok (.areturn, 1) := by decide +kernel
theorem dX11_newLooker_96 : decode cX11_newLooker 96 = .ok (.new 298, 3) := by decide +kernel
theorem dX11_newLooker_99 : decode cX11_newLooker 99 = .ok (.dup, 1) := by decide +kernel
theorem dX11_newLooker_100 : decode cX11_newLooker 100 = .ok (.iload_n 1, 1) := by decide +kernel
theorem dX11_newLooker_101 : decode cX11_newLooker 101 = .ok (.iload_n 2, 1) := by decide +kernel
theorem dX11_newLooker_102 : decode cX11_newLooker 102 = .ok (.iload_n 3, 1) := by decide +kernel
theorem dX11_newLooker_103 : decode cX11_newLooker 103 = .ok (.iload 4, 2) := by decide +kernel
theorem dX11_newLooker_105 : decode cX11_newLooker 105 = .ok (.invokespecial 300, 3) := by decide +kernel
theorem dX11_newLooker_108 : decode cX11_newLooker 108 = .ok (.areturn, 1) := by decide +kernel
theorem dX11_newLooker_109 : decode cX11_newLooker 109 = .ok (.new 301, 3) := by decide +kernel
theorem dX11_newLooker_112 : decode cX11_newLooker 112 = .ok (.dup, 1) := by decide +kernel
theorem dX11_newLooker_113 : decode cX11_newLooker 113 = .ok (.iload_n 1, 1) := by decide +kernel
theorem dX11_newLooker_114 : decode cX11_newLooker 114 = .ok (.iload_n 2, 1) := by decide +kernel
theorem dX11_newLooker_115 : decode cX11_newLooker 115 = .ok (.iload_n 3, 1) := by decide +kernel
theorem dX11_newLooker_116 : decode cX11_newLooker 116 = .ok (.iload 4, 2) := by decide +kernel
theorem dX11_newLooker_118 : decode cX11_newLooker 118 = .ok (.invokespecial 303, 3) := by decide +kernel
theorem dX11_newLooker_121 : decode cX11_newLooker 121 = .ok (.areturn, 1) := by decide +kernel
theorem dX11_newLooker_122 : decode cX11_newLooker 122 = .ok (.new 304, 3) := by decide +kernel
theorem dX11_newLooker_125 : decode cX11_newLooker 125 = .ok (.dup, 1) := by decide +kernel
theorem dX11_newLooker_126 : decode cX11_newLooker 126 = .ok (.iload_n 1, 1) := by decide +kernel
theorem dX11_newLooker_127 : decode cX11_newLooker 127 = .ok (.iload_n 2, 1) := by decide +kernel
theorem dX11_newLooker_128 : decode cX11_newLooker 128 = .ok (.iload_n 3, 1) := by decide +kernel
theorem dX11_newLooker_129 : decode cX11_newLooker 129 = .ok (.iload 4, 2) := by decide +kernel
theorem dX11_newLooker_131 : decode cX11_newLooker 131 = .ok (.invokespecial 306, 3) := by decide +kernel
theorem dX11_newLooker_134 : decode cX11_newLooker 134 = .ok (.areturn, 1) := by decide +kernel
theorem dX11_newLooker_135 : decode cX11_newLooker 135 = .ok (.new 43, 3) := by decide +kernel
theorem dX11_newLooker_138 : decode cX11_newLooker 138 = .ok (.dup, 1) := by decide +kernel
theorem dX11_newLooker_139 : decode cX11_newLooker 139 = .ok (.iload_n 1, 1) := by decide +kernel
theorem dX11_newLooker_140 : decode cX11_newLooker 140 = .ok (.iload_n 2, 1) := by decide +kernel
theorem dX11_newLooker_141 : decode cX11_newLooker 141 = .ok (.iload_n 3, 1) := by decide +kernel
theorem dX11_newLooker_142 : decode cX11_newLooker 142 = .ok (.iload 4, 2) := by decide +kernel
theorem dX11_newLooker_144 : decode cX11_newLooker 144 = .ok (.invokespecial 174, 3) := by decide +kernel
theorem dX11_newLooker_147 : decode cX11_newLooker 147 = .ok (.areturn, 1) := by decide +kernel
theorem dX11_firstWrongByte_0 : decode cX11_firstWrongByte 0 = .ok (.iconst 0, 1) := by decide +kernel
theorem dX11_firstWrongByte_1 : decode cX11_firstWrongByte 1 = .ok (.istore_n 2, 1) := by decide +kernel
theorem dX11_firstWrongByte_2 : decode cX11_firstWrongByte 2 = .ok (.iconst 0, 1) := by decide +kernel
theorem dX11_firstWrongByte_3 : decode cX11_firstWrongByte 3 = .ok (.istore_n 3, 1) := by decide +kernel
theorem dX11_firstWrongByte_4 : decode cX11_firstWrongByte 4 = .ok (.iload_n 3, 1) := by decide +kernel
theorem dX11_firstWrongByte_5 : decode cX11_firstWrongByte 5 = .ok (.bipush 100, 2) := by decide +kernel
theorem dX11_firstWrongByte_7 : decode cX11_firstWrongByte 7 = .ok (.if_icmp .ge 42, 3) := by decide +kernel
theorem dX11_firstWrongByte_10 : decode cX11_firstWrongByte 10 = .ok (.iload_n 3, 1) := by decide +kernel
theorem dX11_firstWrongByte_11 : decode cX11_firstWrongByte 11 = .ok (.ifCond .eq 11, 3) := by decide +kernel
theorem dX11_firstWrongByte_14 : decode cX11_firstWrongByte 14 = .ok (.iload_n 2, 1) := by decide +kernel
theorem dX11_firstWrongByte_15 : decode cX11_firstWrongByte 15 = .ok (.aload_n 1, 1) := by decide +kernel
theorem dX11_firstWrongByte_16 : decode cX11_firstWrongByte 16 = .ok (.getfield 68, 3) := by decide +kernel
theorem dX11_firstWrongByte_19 : decode cX11_firstWrongByte 19 = .ok (.if_icmp .ge 30, 3) := by decide +kernel
theorem dX11_firstWrongByte_22 : decode cX11_firstWrongByte 22 = .ok (.aload_n 0, 1) := by decide +kernel
theorem dX11_firstWrongByte_23 : decode cX11_firstWrongByte 23 = .ok (.aload_n 1, 1) := by decide +kernel
theorem dX11_firstWrongByte_24 : decode cX11_firstWrongByte 24 = .ok (.iload_n 2, 1) := by decide +kernel
theorem dX11_firstWrongByte_25 : decode cX11_firstWrongByte 25 = .ok (.invokevirtual 72, 3) := by decide +kernel
theorem dX11_firstWrongByte_28 : decode cX11_firstWrongByte 28 = .ok (.istore 4, 2) := by decide +kernel
theorem dX11_firstWrongByte_30 : decode cX11_firstWrongByte 30 = .ok (.iload 4, 2) := by decide +kernel
theorem dX11_firstWrongByte_32 : decode cX11_firstWrongByte 32 = .ok (.ifCond .ge 8, 3) := by decide +kernel
theorem dX11_firstWrongByte_35 : decode cX11_firstWrongByte 35 = .ok (.iconst (-1), 1) := by decide +kernel
theorem dX11_firstWrongByte_36 : decode cX11_firstWrongByte 36 = .ok (.iload 4, 2) := by decide +kernel
theorem dX11_firstWrongByte_38 : decode cX11_firstWrongByte 38 = .ok (.isub, 1) := by decide +kernel
theorem dX11_firstWrongByte_39 : decode cX11_firstWrongByte 39 = .ok (.ireturn, 1) := by decide +kernel
theorem dX11_firstWrongByte_40 : decode cX11_firstWrongByte 40 = .ok (.iload 4, 2) := by decide +kernel
theorem dX11_firstWrongByte_42 : decode cX11_firstWrongByte 42 = .ok (.istore_n 2, 1) := by decide +kernel
theorem dX11_firstWrongByte_43 : decode cX11_firstWrongByte 43 = .ok (.iinc 3 1, 3) := by decide +kernel
theorem dX11_firstWrongByte_46 : decode cX11_firstWrongByte 46 = .ok (.goto (-42), 3) := by decide +kernel
theorem dX11_firstWrongByte_49 : decode cX11_firstWrongByte 49 = .ok (.iconst (-1), 1) := by decide +kernel
theorem dX11_firstWrongByte_50 : decode cX11_firstWrongByte 50 = .ok (.ireturn, 1) := by decide +kernel
theorem dX11_readStatement_0 : decode cX11_readStatement 0 = .ok (.aload_n 1, 1) := by decide +kernel
theorem dX11_readStatement_1 : decode cX11_readStatement 1 = .ok (.iload_n 2, 1) := by decide +kernel
theorem dX11_readStatement_2 : decode cX11_readStatement 2 = .ok (.invokevirtual 76, 3) := by decide +kernel
theorem dX11_readStatement_5 : decode cX11_readStatement 5 = .ok (.invokestatic 307, 3) := by decide +kernel
theorem dX11_readStatement_8 : decode cX11_readStatement 8 = .ok (.astore_n 3, 1) := by decide +kernel
theorem dX11_readStatement_9 : decode cX11_readStatement 9 = .ok (.aload_n 3, 1) := by decide +kernel
theorem dX11_readStatement_10 : decode cX11_readStatement 10 = .ok (.invokevirtual 311, 3) := by decide +kernel
theorem dX11_readStatement_13 : decode cX11_readStatement 13 = .ok (.ifCond .eq 7, 3) := by decide +kernel
theorem dX11_readStatement_16 : decode cX11_readStatement 16 = .ok (.iconst (-1), 1) := by decide +kernel
theorem dX11_readStatement_17 : decode cX11_readStatement 17 = .ok (.iload_n 2, 1) := by decide +kernel
theorem dX11_readStatement_18 : decode cX11_readStatement 18 = .ok (.isub, 1) := by decide +kernel
theorem dX11_readStatement_19 : decode cX11_readStatement 19 = .ok (.ireturn, 1) := by decide +kernel
theorem dX11_readStatement_20 : decode cX11_readStatement 20 = .ok (.iload_n 2, 1) := by decide +kernel
theorem dX11_readStatement_21 : decode cX11_readStatement 21 = .ok (.iconst 1, 1) := by decide +kernel
theorem dX11_readStatement_22 : decode cX11_readStatement 22 = .ok (.iadd, 1) := by decide +kernel
theorem dX11_readStatement_23 : decode cX11_readStatement 23 = .ok (.istore 4, 2) := by decide +kernel
theorem dX11_readStatement_25 : decode cX11_readStatement 25 = .ok (.iconst 0, 1) := by decide +kernel
theorem dX11_readStatement_26 : decode cX11_readStatement 26 = .ok (.istore 5, 2) := by decide +kernel
theorem dX11_readStatement_28 : decode cX11_readStatement 28 = .ok (.iconst 0, 1) := by decide +kernel
theorem dX11_readStatement_29 : decode cX11_readStatement 29 = .ok (.istore 6, 2) := by decide +kernel
theorem dX11_readStatement_31 : decode cX11_readStatement 31 = .ok (.iload 6, 2) := by decide +kernel
theorem dX11_readStatement_33 : decode cX11_readStatement 33 = .ok (.aload_n 3, 1) := by decide +kernel
theorem dX11_readStatement_34 : decode cX11_readStatement 34 = .ok (.invokevirtual 317, 3) := by decide +kernel
theorem dX11_readStatement_37 : decode cX11_readStatement 37 = .ok (.if_icmp .ge 98, 3) := by decide +kernel
theorem dX11_readStatement_40 : decode cX11_readStatement 40 = .ok (.aload_n 3, 1) := by decide +kernel
theorem dX11_readStatement_41 : decode cX11_readStatement 41 = .ok (.iload 6, 2) := by decide +kernel
theorem dX11_readStatement_43 : decode cX11_readStatement 43 = .ok (.invokevirtual 320, 3) := by decide +kernel
theorem dX11_readStatement_46 : decode cX11_readStatement 46 = .ok (.istore 7, 2) := by decide +kernel
theorem dX11_readStatement_48 : decode cX11_readStatement 48 = .ok (.aload_n 1, 1) := by decide +kernel
theorem dX11_readStatement_49 : decode cX11_readStatement 49 = .ok (.iload 4, 2) := by decide +kernel
theorem dX11_readStatement_51 : decode cX11_readStatement 51 = .ok (.iload 7, 2) := by decide +kernel
theorem dX11_readStatement_53 : decode cX11_readStatement 53 = .ok (.invokestatic 324, 3) := by decide +kernel
theorem dX11_readStatement_56 : decode cX11_readStatement 56 = .ok (.istore 8, 2) := by decide +kernel
theorem dX11_readStatement_58 : decode cX11_readStatement 58 = .ok (.iload 8, 2) := by decide +kernel
theorem dX11_readStatement_60 : decode cX11_readStatement 60 = .ok (.ifCond .ne 8, 3) := by decide +kernel
theorem dX11_readStatement_63 : decode cX11_readStatement 63 = .ok (.iconst (-1), 1) := by decide +kernel
theorem dX11_readStatement_64 : decode cX11_readStatement 64 = .ok (.iload 4, 2) := by decide +kernel
theorem dX11_readStatement_66 : decode cX11_readStatement 66 = .ok (.isub, 1) := by decide +kernel
theorem dX11_readStatement_67 : decode cX11_readStatement 67 = .ok (.ireturn, 1) := by decide +kernel
theorem dX11_readStatement_68 : decode cX11_readStatement 68 = .ok (.iload 7, 2) := by decide +kernel
theorem dX11_readStatement_70 : decode cX11_readStatement 70 = .ok (.bipush 32, 2) := by decide +kernel
theorem dX11_readStatement_72 : decode cX11_readStatement 72 = .ok (.if_icmp .eq 50, 3) := by decide +kernel
theorem dX11_readStatement_75 : decode cX11_readStatement 75 = .ok (.iload 7, 2) := by decide +kernel
theorem dX11_readStatement_77 : decode cX11_readStatement 77 = .ok (.bipush 59, 2) := by decide +kernel
theorem dX11_readStatement_79 : decode cX11_readStatement 79 = .ok (.if_icmp .eq 43, 3) := by decide +kernel
theorem dX11_readStatement_82 : decode cX11_readStatement 82 = .ok (.iload 5, 2) := by decide +kernel
theorem dX11_readStatement_84 : decode cX11_readStatement 84 = .ok (.iconst 5, 1) := by decide +kernel
theorem dX11_readStatement_85 : decode cX11_readStatement 85 = .ok (.if_icmp .ge 37, 3) := by decide +kernel
theorem dX11_readStatement_88 : decode cX11_readStatement 88 = .ok (.aload_n 0, 1) := by decide +kernel
theorem dX11_readStatement_89 : decode cX11_readStatement 89 = .ok (.getfield 33, 3) := by decide +kernel
theorem dX11_readStatement_92 : decode cX11_readStatement 92 = .ok (.iload 5, 2) := by decide +kernel
theorem dX11_readStatement_94 : decode cX11_readStatement 94 = .ok (.iload 7, 2) := by decide +kernel
theorem dX11_readStatement_96 : decode cX11_readStatement 96 = .ok (.bipush 43, 2) := by decide +kernel
theorem dX11_readStatement_98 : decode cX11_readStatement 98 = .ok (.if_icmp .ne 12, 3) := by decide +kernel
theorem dX11_readStatement_101 : decode cX11_readStatement 101 = .ok (.aload_n 1, 1) := by decide +kernel
theorem dX11_readStatement_102 : decode cX11_readStatement 102 = .ok (.iload 4, 2) := by decide +kernel
theorem dX11_readStatement_104 : decode cX11_readStatement 104 = .ok (.invokestatic 328, 3) := by decide +kernel
theorem dX11_readStatement_107 : decode cX11_readStatement 107 = .ok (.goto 11, 3) := by decide +kernel
theorem dX11_readStatement_110 : decode cX11_readStatement 110 = .ok (.aload_n 1, 1) := by decide +kernel
theorem dX11_readStatement_111 : decode cX11_readStatement 111 = .ok (.iload 4, 2) := by decide +kernel
theorem dX11_readStatement_113 : decode cX11_readStatement 113 = .ok (.iload 8, 2) := by decide +kernel
theorem dX11_readStatement_115 : decode cX11_readStatement 115 = .ok (.invokestatic 331, 3) := by decide +kernel
theorem dX11_readStatement_118 : decode cX11_readStatement 118 = .ok (.iastore, 1) := by decide +kernel
theorem dX11_readStatement_119 : decode cX11_readStatement 119 = .ok (.iinc 5 1, 3) := by decide +kernel
theorem dX11_readStatement_122 : decode cX11_readStatement 122 = .ok (.iload 4, 2) := by decide +kernel
theorem dX11_readStatement_124 : decode cX11_readStatement 124 = .ok (.iload 8, 2) := by decide +kernel
theorem dX11_readStatement_126 : decode cX11_readStatement 126 = .ok (.iadd, 1) := by decide +kernel
theorem dX11_readStatement_127 : decode cX11_readStatement 127 = .ok (.istore 4, 2) := by decide +kernel
theorem dX11_readStatement_129 : decode cX11_readStatement 129 = .ok (.iinc 6 1, 3) := by decide +kernel
theorem dX11_readStatement_132 : decode cX11_readStatement 132 = .ok (.goto (-101), 3) := by decide +kernel
theorem dX11_readStatement_135 : decode cX11_readStatement 135 = .ok (.iload 4, 2) := by decide +kernel
theorem dX11_readStatement_137 : decode cX11_readStatement 137 = .ok (.ireturn, 1) := by decide +kernel
theorem dX11_formOf_0 : decode cX11_formOf 0 = .ok (.iload_n 0, 1) := by decide +kernel
theorem dX11_formOf_1 : decode cX11_formOf 1 = .ok (.lookupswitch 59 #[(107, 47), (108, 51), (112, 55), (119, 43)], 43) := by decide +kernel
theorem dX11_formOf_44 : decode cX11_formOf 44 = .ok (.ldc_w 335, 3) := by decide +kernel
theorem dX11_formOf_47 : decode cX11_formOf 47 = .ok (.areturn, 1) := by decide +kernel
theorem dX11_formOf_48 : decode cX11_formOf 48 = .ok (.ldc_w 337, 3) := by decide +kernel
theorem dX11_formOf_51 : decode cX11_formOf 51 = .ok (.areturn, 1) := by decide +kernel
theorem dX11_formOf_52 : decode cX11_formOf 52 = .ok (.ldc_w 339, 3) := by decide +kernel
theorem dX11_formOf_55 : decode cX11_formOf 55 = .ok (.areturn, 1) := by decide +kernel
theorem dX11_formOf_56 : decode cX11_formOf 56 = .ok (.ldc_w 341, 3) := by decide +kernel
theorem dX11_formOf_59 : decode cX11_formOf 59 = .ok (.areturn, 1) := by decide +kernel
theorem dX11_formOf_60 : decode cX11_formOf 60 = .ok (.ldc_w 343, 3) := by decide +kernel
theorem dX11_formOf_63 : decode cX11_formOf 63 = .ok (.areturn, 1) := by decide +kernel
theorem dX11_sizeOfPart_0 : decode cX11_sizeOfPart 0 = .ok (.iload_n 2, 1) := by decide +kernel
theorem dX11_sizeOfPart_1 : decode cX11_sizeOfPart 1 = .ok (.bipush 49, 2) := by decide +kernel
theorem dX11_sizeOfPart_3 : decode cX11_sizeOfPart 3 = .ok (.if_icmp .lt 19, 3) := by decide +kernel
theorem dX11_sizeOfPart_6 : decode cX11_sizeOfPart 6 = .ok (.iload_n 2, 1) := by decide +kernel
theorem dX11_sizeOfPart_7 : decode cX11_sizeOfPart 7 = .ok (.bipush 51, 2) := by decide +kernel
theorem dX11_sizeOfPart_9 : decode cX11_sizeOfPart 9 = .ok (.if_icmp .gt 13, 3) := by decide +kernel
theorem dX11_sizeOfPart_12 : decode cX11_sizeOfPart 12 = .ok (.aload_n 0, 1) := by decide +kernel
theorem dX11_sizeOfPart_13 : decode cX11_sizeOfPart 13 = .ok (.iload_n 1, 1) := by decide +kernel
theorem dX11_sizeOfPart_14 : decode cX11_sizeOfPart 14 = .ok (.iload_n 2, 1) := by decide +kernel
theorem dX11_sizeOfPart_15 : decode cX11_sizeOfPart 15 = .ok (.bipush 48, 2) := by decide +kernel
theorem dX11_sizeOfPart_17 : decode cX11_sizeOfPart 17 = .ok (.isub, 1) := by decide +kernel
theorem dX11_sizeOfPart_18 : decode cX11_sizeOfPart 18 = .ok (.invokestatic 345, 3) := by decide +kernel
theorem dX11_sizeOfPart_21 : decode cX11_sizeOfPart 21 = .ok (.ireturn, 1) := by decide +kernel
theorem dX11_sizeOfPart_22 : decode cX11_sizeOfPart 22 = .ok (.iload_n 2, 1) := by decide +kernel
theorem dX11_sizeOfPart_23 : decode cX11_sizeOfPart 23 = .ok (.bipush 43, 2) := by decide +kernel
theorem dX11_sizeOfPart_25 : decode cX11_sizeOfPart 25 = .ok (.if_icmp .ne 17, 3) := by decide +kernel
theorem dX11_sizeOfPart_28 : decode cX11_sizeOfPart 28 = .ok (.aload_n 0, 1) := by decide +kernel
theorem dX11_sizeOfPart_29 : decode cX11_sizeOfPart 29 = .ok (.iload_n 1, 1) := by decide +kernel
theorem dX11_sizeOfPart_30 : decode cX11_sizeOfPart 30 = .ok (.invokestatic 328, 3) := by decide +kernel
theorem dX11_sizeOfPart_33 : decode cX11_sizeOfPart 33 = .ok (.ifCond .ne 7, 3) := by decide +kernel
theorem dX11_sizeOfPart_36 : decode cX11_sizeOfPart 36 = .ok (.iconst 0, 1) := by decide +kernel
theorem dX11_sizeOfPart_37 : decode cX11_sizeOfPart 37 = .ok (.goto 4, 3) := by decide +kernel
theorem dX11_sizeOfPart_40 : decode cX11_sizeOfPart 40 = .ok (.iconst 1, 1) := by decide +kernel
theorem dX11_sizeOfPart_41 : decode cX11_sizeOfPart 41 = .ok (.ireturn, 1) := by decide +kernel
theorem dX11_sizeOfPart_42 : decode cX11_sizeOfPart 42 = .ok (.aload_n 0, 1) := by decide +kernel
theorem dX11_sizeOfPart_43 : decode cX11_sizeOfPart 43 = .ok (.iload_n 1, 1) := by decide +kernel
theorem dX11_sizeOfPart_44 : decode cX11_sizeOfPart 44 = .ok (.invokevirtual 76, 3) := by decide +kernel
theorem dX11_sizeOfPart_47 : decode cX11_sizeOfPart 47 = .ok (.iload_n 2, 1) := by decide +kernel
theorem dX11_sizeOfPart_48 : decode cX11_sizeOfPart 48 = .ok (.if_icmp .ne 7, 3) := by decide +kernel
theorem dX11_sizeOfPart_51 : decode cX11_sizeOfPart 51 = .ok (.iconst 1, 1) := by decide +kernel
theorem dX11_sizeOfPart_52 : decode cX11_sizeOfPart 52 = .ok (.goto 4, 3) := by decide +kernel
theorem dX11_sizeOfPart_55 : decode cX11_sizeOfPart 55 = .ok (.iconst 0, 1) := by decide +kernel
theorem dX11_sizeOfPart_56 : decode cX11_sizeOfPart 56 = .ok (.ireturn, 1) := by decide +kernel
theorem dX11_signAt_0 : decode cX11_signAt 0 = .ok (.aload_n 0, 1) := by decide +kernel
theorem dX11_signAt_1 : decode cX11_signAt 1 = .ok (.iload_n 1, 1) := by decide +kernel
theorem dX11_signAt_2 : decode cX11_signAt 2 = .ok (.invokevirtual 76, 3) := by decide +kernel
theorem dX11_signAt_5 : decode cX11_signAt 5 = .ok (.istore_n 2, 1) := by decide +kernel
theorem dX11_signAt_6 : decode cX11_signAt 6 = .ok (.iload_n 2, 1) := by decide +kernel
theorem dX11_signAt_7 : decode cX11_signAt 7 = .ok (.bipush 43, 2) := by decide +kernel
theorem dX11_signAt_9 : decode cX11_signAt 9 = .ok (.if_icmp .ne 7, 3) := by decide +kernel
theorem dX11_signAt_12 : decode cX11_signAt 12 = .ok (.iconst 1, 1) := by decide +kernel
theorem dX11_signAt_13 : decode cX11_signAt 13 = .ok (.goto 14, 3) := by decide +kernel
theorem dX11_signAt_16 : decode cX11_signAt 16 = .ok (.iload_n 2, 1) := by decide +kernel
theorem dX11_signAt_17 : decode cX11_signAt 17 = .ok (.bipush 45, 2) := by decide +kernel
theorem dX11_signAt_19 : decode cX11_signAt 19 = .ok (.if_icmp .ne 7, 3) := by decide +kernel
theorem dX11_signAt_22 : decode cX11_signAt 22 = .ok (.iconst (-1), 1) := by decide +kernel
theorem dX11_signAt_23 : decode cX11_signAt 23 = .ok (.goto 4, 3) := by decide +kernel
theorem dX11_signAt_26 : decode cX11_signAt 26 = .ok (.iconst 0, 1) := by decide +kernel
theorem dX11_signAt_27 : decode cX11_signAt 27 = .ok (.ireturn, 1) := by decide +kernel
theorem dX11_digitsAt_0 : decode cX11_digitsAt 0 = .ok (.aload_n 0, 1) := by decide +kernel
theorem dX11_digitsAt_1 : decode cX11_digitsAt 1 = .ok (.iload_n 1, 1) := by decide +kernel
theorem dX11_digitsAt_2 : decode cX11_digitsAt 2 = .ok (.invokevirtual 76, 3) := by decide +kernel
theorem dX11_digitsAt_5 : decode cX11_digitsAt 5 = .ok (.bipush 48, 2) := by decide +kernel
theorem dX11_digitsAt_7 : decode cX11_digitsAt 7 = .ok (.if_icmp .ne 5, 3) := by decide +kernel
theorem dX11_digitsAt_10 : decode cX11_digitsAt 10 = .ok (.iconst 1, 1) := by decide +kernel
theorem dX11_digitsAt_11 : decode cX11_digitsAt 11 = .ok (.ireturn, 1) := by decide +kernel
theorem dX11_digitsAt_12 : decode cX11_digitsAt 12 = .ok (.iconst 0, 1) := by decide +kernel
theorem dX11_digitsAt_13 : decode cX11_digitsAt 13 = .ok (.istore_n 3, 1) := by decide +kernel
theorem dX11_digitsAt_14 : decode cX11_digitsAt 14 = .ok (.iload_n 3, 1) := by decide +kernel
theorem dX11_digitsAt_15 : decode cX11_digitsAt 15 = .ok (.iload_n 2, 1) := by decide +kernel
theorem dX11_digitsAt_16 : decode cX11_digitsAt 16 = .ok (.if_icmp .ge 22, 3) := by decide +kernel
theorem dX11_digitsAt_19 : decode cX11_digitsAt 19 = .ok (.aload_n 0, 1) := by decide +kernel
theorem dX11_digitsAt_20 : decode cX11_digitsAt 20 = .ok (.iload_n 1, 1) := by decide +kernel
theorem dX11_digitsAt_21 : decode cX11_digitsAt 21 = .ok (.iload_n 3, 1) := by decide +kernel
theorem dX11_digitsAt_22 : decode cX11_digitsAt 22 = .ok (.iadd, 1) := by decide +kernel
theorem dX11_digitsAt_23 : decode cX11_digitsAt 23 = .ok (.invokevirtual 76, 3) := by decide +kernel
theorem dX11_digitsAt_26 : decode cX11_digitsAt 26 = .ok (.invokestatic 348, 3) := by decide +kernel
theorem dX11_digitsAt_29 : decode cX11_digitsAt 29 = .ok (.ifCond .eq 9, 3) := by decide +kernel
theorem dX11_digitsAt_32 : decode cX11_digitsAt 32 = .ok (.iinc 3 1, 3) := by decide +kernel
theorem dX11_digitsAt_35 : decode cX11_digitsAt 35 = .ok (.goto (-21), 3) := by decide +kernel
theorem dX11_digitsAt_38 : decode cX11_digitsAt 38 = .ok (.iload_n 3, 1) := by decide +kernel
theorem dX11_digitsAt_39 : decode cX11_digitsAt 39 = .ok (.ireturn, 1) := by decide +kernel
theorem dX11_isDigit_0 : decode cX11_isDigit 0 = .ok (.iload_n 0, 1) := by decide +kernel
theorem dX11_isDigit_1 : decode cX11_isDigit 1 = .ok (.bipush 48, 2) := by decide +kernel
theorem dX11_isDigit_3 : decode cX11_isDigit 3 = .ok (.if_icmp .lt 13, 3) := by decide +kernel
theorem dX11_isDigit_6 : decode cX11_isDigit 6 = .ok (.iload_n 0, 1) := by decide +kernel
theorem dX11_isDigit_7 : decode cX11_isDigit 7 = .ok (.bipush 57, 2) := by decide +kernel
theorem dX11_isDigit_9 : decode cX11_isDigit 9 = .ok (.if_icmp .gt 7, 3) := by decide +kernel
theorem dX11_isDigit_12 : decode cX11_isDigit 12 = .ok (.iconst 1, 1) := by decide +kernel
theorem dX11_isDigit_13 : decode cX11_isDigit 13 = .ok (.goto 4, 3) := by decide +kernel
theorem dX11_isDigit_16 : decode cX11_isDigit 16 = .ok (.iconst 0, 1) := by decide +kernel
theorem dX11_isDigit_17 : decode cX11_isDigit 17 = .ok (.ireturn, 1) := by decide +kernel
theorem dX11_numberAt_0 : decode cX11_numberAt 0 = .ok (.iconst 0, 1) := by decide +kernel
theorem dX11_numberAt_1 : decode cX11_numberAt 1 = .ok (.istore_n 3, 1) := by decide +kernel
theorem dX11_numberAt_2 : decode cX11_numberAt 2 = .ok (.iconst 0, 1) := by decide +kernel
theorem dX11_numberAt_3 : decode cX11_numberAt 3 = .ok (.istore 4, 2) := by decide +kernel
theorem dX11_numberAt_5 : decode cX11_numberAt 5 = .ok (.iload 4, 2) := by decide +kernel
theorem dX11_numberAt_7 : decode cX11_numberAt 7 = .ok (.iload_n 2, 1) := by decide +kernel
theorem dX11_numberAt_8 : decode cX11_numberAt 8 = .ok (.if_icmp .ge 26, 3) := by decide +kernel
theorem dX11_numberAt_11 : decode cX11_numberAt 11 = .ok (.iload_n 3, 1) := by decide +kernel
theorem dX11_numberAt_12 : decode cX11_numberAt 12 = .ok (.bipush 10, 2) := by decide +kernel
theorem dX11_numberAt_14 : decode cX11_numberAt 14 = .ok (.imul, 1) := by decide +kernel
theorem dX11_numberAt_15 : decode cX11_numberAt 15 = .ok (.aload_n 0, 1) := by decide +kernel
theorem dX11_numberAt_16 : decode cX11_numberAt 16 = .ok (.iload_n 1, 1) := by decide +kernel
theorem dX11_numberAt_17 : decode cX11_numberAt 17 = .ok (.iload 4, 2) := by decide +kernel
theorem dX11_numberAt_19 : decode cX11_numberAt 19 = .ok (.iadd, 1) := by decide +kernel
theorem dX11_numberAt_20 : decode cX11_numberAt 20 = .ok (.invokevirtual 76, 3) := by decide +kernel
theorem dX11_numberAt_23 : decode cX11_numberAt 23 = .ok (.iadd, 1) := by decide +kernel
theorem dX11_numberAt_24 : decode cX11_numberAt 24 = .ok (.bipush 48, 2) := by decide +kernel
theorem dX11_numberAt_26 : decode cX11_numberAt 26 = .ok (.isub, 1) := by decide +kernel
theorem dX11_numberAt_27 : decode cX11_numberAt 27 = .ok (.istore_n 3, 1) := by decide +kernel
theorem dX11_numberAt_28 : decode cX11_numberAt 28 = .ok (.iinc 4 1, 3) := by decide +kernel
theorem dX11_numberAt_31 : decode cX11_numberAt 31 = .ok (.goto (-26), 3) := by decide +kernel
theorem dX11_numberAt_34 : decode cX11_numberAt 34 = .ok (.iload_n 3, 1) := by decide +kernel
theorem dX11_numberAt_35 : decode cX11_numberAt 35 = .ok (.ireturn, 1) := by decide +kernel
theorem dX12_init_0 : decode cX12_init 0 = .ok (.aload_n 0, 1) := by decide +kernel
theorem dX12_init_1 : decode cX12_init 1 = .ok (.invokespecial 1, 3) := by decide +kernel
theorem dX12_init_4 : decode cX12_init 4 = .ok (.aload_n 0, 1) := by decide +kernel
theorem dX12_init_5 : decode cX12_init 5 = .ok (.iconst 4, 1) := by decide +kernel
theorem dX12_init_6 : decode cX12_init 6 = .ok (.newarray .int, 2) := by decide +kernel
theorem dX12_init_8 : decode cX12_init 8 = .ok (.putfield 7, 3) := by decide +kernel
theorem dX12_init_11 : decode cX12_init 11 = .ok (.aload_n 0, 1) := by decide +kernel
theorem dX12_init_12 : decode cX12_init 12 = .ok (.iconst 5, 1) := by decide +kernel
theorem dX12_init_13 : decode cX12_init 13 = .ok (.newarray .int, 2) := by decide +kernel
theorem dX12_init_15 : decode cX12_init 15 = .ok (.putfield 13, 3) := by decide +kernel
theorem dX12_init_18 : decode cX12_init 18 = .ok (.aload_n 0, 1) := by decide +kernel
theorem dX12_init_19 : decode cX12_init 19 = .ok (.iconst 5, 1) := by decide +kernel
theorem dX12_init_20 : decode cX12_init 20 = .ok (.newarray .int, 2) := by decide +kernel
theorem dX12_init_22 : decode cX12_init 22 = .ok (.putfield 16, 3) := by decide +kernel
theorem dX12_init_25 : decode cX12_init 25 = .ok (.aload_n 0, 1) := by decide +kernel
theorem dX12_init_26 : decode cX12_init 26 = .ok (.iconst 5, 1) := by decide +kernel
theorem dX12_init_27 : decode cX12_init 27 = .ok (.newarray .int, 2) := by decide +kernel
theorem dX12_init_29 : decode cX12_init 29 = .ok (.putfield 19, 3) := by decide +kernel
theorem dX12_init_32 : decode cX12_init 32 = .ok (.aload_n 0, 1) := by decide +kernel
theorem dX12_init_33 : decode cX12_init 33 = .ok (.bipush 6, 2) := by decide +kernel
theorem dX12_init_35 : decode cX12_init 35 = .ok (.newarray .int, 2) := by decide +kernel
theorem dX12_init_37 : decode cX12_init 37 = .ok (.putfield 22, 3) := by decide +kernel
theorem dX12_init_40 : decode cX12_init 40 = .ok (.aload_n 0, 1) := by decide +kernel
theorem dX12_init_41 : decode cX12_init 41 = .ok (.bipush 6, 2) := by decide +kernel
theorem dX12_init_43 : decode cX12_init 43 = .ok (.newarray .int, 2) := by decide +kernel
theorem dX12_init_45 : decode cX12_init 45 = .ok (.putfield 25, 3) := by decide +kernel
theorem dX12_init_48 : decode cX12_init 48 = .ok (.aload_n 0, 1) := by decide +kernel
theorem dX12_init_49 : decode cX12_init 49 = .ok (.bipush 6, 2) := by decide +kernel
theorem dX12_init_51 : decode cX12_init 51 = .ok (.newarray .int, 2) := by decide +kernel
theorem dX12_init_53 : decode cX12_init 53 = .ok (.putfield 28, 3) := by decide +kernel
theorem dX12_init_56 : decode cX12_init 56 = .ok (.aload_n 0, 1) := by decide +kernel
theorem dX12_init_57 : decode cX12_init 57 = .ok (.bipush 6, 2) := by decide +kernel
theorem dX12_init_59 : decode cX12_init 59 = .ok (.newarray .int, 2) := by decide +kernel
theorem dX12_init_61 : decode cX12_init 61 = .ok (.putfield 31, 3) := by decide +kernel
theorem dX12_init_64 : decode cX12_init 64 = .ok (.aload_n 0, 1) := by decide +kernel
theorem dX12_init_65 : decode cX12_init 65 = .ok (.bipush 8, 2) := by decide +kernel
theorem dX12_init_67 : decode cX12_init 67 = .ok (.newarray .int, 2) := by decide +kernel
theorem dX12_init_69 : decode cX12_init 69 = .ok (.putfield 34, 3) := by decide +kernel
theorem dX12_init_72 : decode cX12_init 72 = .ok (.aload_n 0, 1) := by decide +kernel
theorem dX12_init_73 : decode cX12_init 73 = .ok (.iconst 4, 1) := by decide +kernel
theorem dX12_init_74 : decode cX12_init 74 = .ok (.newarray .int, 2) := by decide +kernel
theorem dX12_init_76 : decode cX12_init 76 = .ok (.putfield 37, 3) := by decide +kernel
theorem dX12_init_79 : decode cX12_init 79 = .ok (.aload_n 0, 1) := by decide +kernel
theorem dX12_init_80 : decode cX12_init 80 = .ok (.iconst 5, 1) := by decide +kernel
theorem dX12_init_81 : decode cX12_init 81 = .ok (.newarray .int, 2) := by decide +kernel
theorem dX12_init_83 : decode cX12_init 83 = .ok (.putfield 40, 3) := by decide +kernel
theorem dX12_init_86 : decode cX12_init 86 = .ok (.aload_n 0, 1) := by decide +kernel
theorem dX12_init_87 : decode cX12_init 87 = .ok (.iconst 5, 1) := by decide +kernel
theorem dX12_init_88 : decode cX12_init 88 = .ok (.newarray .int, 2) := by decide +kernel
theorem dX12_init_90 : decode cX12_init 90 = .ok (.putfield 43, 3) := by decide +kernel
theorem dX12_init_93 : decode cX12_init 93 = .ok (.aload_n 0, 1) := by decide +kernel
theorem dX12_init_94 : decode cX12_init 94 = .ok (.iconst 5, 1) := by decide +kernel
theorem dX12_init_95 : decode cX12_init 95 = .ok (.newarray .int, 2) := by decide +kernel
theorem dX12_init_97 : decode cX12_init 97 = .ok (.putfield 46, 3) := by decide +kernel
theorem dX12_init_100 : decode cX12_init 100 = .ok (.aload_n 0, 1) := by decide +kernel
theorem dX12_init_101 : decode cX12_init 101 = .ok (.bipush 6, 2) := by decide +kernel
theorem dX12_init_103 : decode cX12_init 103 = .ok (.newarray .int, 2) := by decide +kernel
theorem dX12_init_105 : decode cX12_init 105 = .ok (.putfield 49, 3) := by decide +kernel
theorem dX12_init_108 : decode cX12_init 108 = .ok (.aload_n 0, 1) := by decide +kernel
theorem dX12_init_109 : decode cX12_init 109 = .ok (.bipush 6, 2) := by decide +kernel
theorem dX12_init_111 : decode cX12_init 111 = .ok (.newarray .int, 2) := by decide +kernel
theorem dX12_init_113 : decode cX12_init 113 = .ok (.putfield 52, 3) := by decide +kernel
theorem dX12_init_116 : decode cX12_init 116 = .ok (.aload_n 0, 1) := by decide +kernel
theorem dX12_init_117 : decode cX12_init 117 = .ok (.bipush 6, 2) := by decide +kernel
theorem dX12_init_119 : decode cX12_init 119 = .ok (.newarray .int, 2) := by decide +kernel
theorem dX12_init_121 : decode cX12_init 121 = .ok (.putfield 55, 3) := by decide +kernel
theorem dX12_init_124 : decode cX12_init 124 = .ok (.aload_n 0, 1) := by decide +kernel
theorem dX12_init_125 : decode cX12_init 125 = .ok (.bipush 6, 2) := by decide +kernel
theorem dX12_init_127 : decode cX12_init 127 = .ok (.newarray .int, 2) := by decide +kernel
theorem dX12_init_129 : decode cX12_init 129 = .ok (.putfield 58, 3) := by decide +kernel
theorem dX12_init_132 : decode cX12_init 132 = .ok (.aload_n 0, 1) := by decide +kernel
theorem dX12_init_133 : decode cX12_init 133 = .ok (.bipush 8, 2) := by decide +kernel
theorem dX12_init_135 : decode cX12_init 135 = .ok (.newarray .int, 2) := by decide +kernel
theorem dX12_init_137 : decode cX12_init 137 = .ok (.putfield 61, 3) := by decide +kernel
theorem dX12_init_140 : decode cX12_init 140 = .ok (.aload_n 0, 1) := by decide +kernel
theorem dX12_init_141 : decode cX12_init 141 = .ok (.bipush 16, 2) := by decide +kernel
theorem dX12_init_143 : decode cX12_init 143 = .ok (.newarray .int, 2) := by decide +kernel
theorem dX12_init_145 : decode cX12_init 145 = .ok (.putfield 64, 3) := by decide +kernel
theorem dX12_init_148 : decode cX12_init 148 = .ok (.aload_n 0, 1) := by decide +kernel
theorem dX12_init_149 : decode cX12_init 149 = .ok (.iconst 5, 1) := by decide +kernel
theorem dX12_init_150 : decode cX12_init 150 = .ok (.newarray .int, 2) := by decide +kernel
theorem dX12_init_152 : decode cX12_init 152 = .ok (.putfield 67, 3) := by decide +kernel
theorem dX12_init_155 : decode cX12_init 155 = .ok (.aload_n 0, 1) := by decide +kernel
theorem dX12_init_156 : decode cX12_init 156 = .ok (.bipush 6, 2) := by decide +kernel
theorem dX12_init_158 : decode cX12_init 158 = .ok (.newarray .int, 2) := by decide +kernel
theorem dX12_init_160 : decode cX12_init 160 = .ok (.putfield 70, 3) := by decide +kernel
theorem dX12_init_163 : decode cX12_init 163 = .ok (.aload_n 0, 1) := by decide +kernel
theorem dX12_init_164 : decode cX12_init 164 = .ok (.iconst 4, 1) := by decide +kernel
theorem dX12_init_165 : decode cX12_init 165 = .ok (.newarray .int, 2) := by decide +kernel
theorem dX12_init_167 : decode cX12_init 167 = .ok (.putfield 73, 3) := by decide +kernel
theorem dX12_init_170 : decode cX12_init 170 = .ok (.aload_n 0, 1) := by decide +kernel
theorem dX12_init_171 : decode cX12_init 171 = .ok (.bipush 8, 2) := by decide +kernel
theorem dX12_init_173 : decode cX12_init 173 = .ok (.newarray .int, 2) := by decide +kernel
theorem dX12_init_175 : decode cX12_init 175 = .ok (.putfield 76, 3) := by decide +kernel
theorem dX12_init_178 : decode cX12_init 178 = .ok (.aload_n 0, 1) := by decide +kernel
theorem dX12_init_179 : decode cX12_init 179 = .ok (.bipush 8, 2) := by decide +kernel
theorem dX12_init_181 : decode cX12_init 181 = .ok (.newarray .int, 2) := by decide +kernel
theorem dX12_init_183 : decode cX12_init 183 = .ok (.putfield 79, 3) := by decide +kernel
theorem dX12_init_186 : decode cX12_init 186 = .ok (.aload_n 0, 1) := by decide +kernel
theorem dX12_init_187 : decode cX12_init 187 = .ok (.bipush 8, 2) := by decide +kernel
theorem dX12_init_189 : decode cX12_init 189 = .ok (.newarray .int, 2) := by decide +kernel
theorem dX12_init_191 : decode cX12_init 191 = .ok (.putfield 82, 3) := by decide +kernel
theorem dX12_init_194 : decode cX12_init 194 = .ok (.aload_n 0, 1) := by decide +kernel
theorem dX12_init_195 : decode cX12_init 195 = .ok (.sipush 800, 3) := by decide +kernel
theorem dX12_init_198 : decode cX12_init 198 = .ok (.newarray .int, 2) := by decide +kernel
theorem dX12_init_200 : decode cX12_init 200 = .ok (.putfield 85, 3) := by decide +kernel
theorem dX12_init_203 : decode cX12_init 203 = .ok (.aload_n 0, 1) := by decide +kernel
theorem dX12_init_204 : decode cX12_init 204 = .ok (.bipush 100, 2) := by decide +kernel
theorem dX12_init_206 : decode cX12_init 206 = .ok (.newarray .int, 2) := by decide +kernel
theorem dX12_init_208 : decode cX12_init 208 = .ok (.putfield 88, 3) := by decide +kernel
theorem dX12_init_211 : decode cX12_init 211 = .ok (.aload_n 0, 1) := by decide +kernel
theorem dX12_init_212 : decode cX12_init 212 = .ok (.bipush 8, 2) := by decide +kernel
theorem dX12_init_214 : decode cX12_init 214 = .ok (.newarray .int, 2) := by decide +kernel
theorem dX12_init_216 : decode cX12_init 216 = .ok (.putfield 91, 3) := by decide +kernel
theorem dX12_init_219 : decode cX12_init 219 = .ok (.aload_n 0, 1) := by decide +kernel
theorem dX12_init_220 : decode cX12_init 220 = .ok (.bipush 8, 2) := by decide +kernel
theorem dX12_init_222 : decode cX12_init 222 = .ok (.newarray .int, 2) := by decide +kernel
theorem dX12_init_224 : decode cX12_init 224 = .ok (.putfield 94, 3) := by decide +kernel
theorem dX12_init_227 : decode cX12_init 227 = .ok (.aload_n 0, 1) := by decide +kernel
theorem dX12_init_228 : decode cX12_init 228 = .ok (.bipush 8, 2) := by decide +kernel
theorem dX12_init_230 : decode cX12_init 230 = .ok (.newarray .int, 2) := by decide +kernel
theorem dX12_init_232 : decode cX12_init 232 = .ok (.putfield 97, 3) := by decide +kernel
theorem dX12_init_235 : decode cX12_init 235 = .ok (.return_, 1) := by decide +kernel
theorem dX12_isIn_0 : decode cX12_isIn 0 = .ok (.iload_n 0, 1) := by decide +kernel
theorem dX12_isIn_1 : decode cX12_isIn 1 = .ok (.iload_n 1, 1) := by decide +kernel
theorem dX12_isIn_2 : decode cX12_isIn 2 = .ok (.if_icmp .lt 12, 3) := by decide +kernel
theorem dX12_isIn_5 : decode cX12_isIn 5 = .ok (.iload_n 0, 1) := by decide +kernel
theorem dX12_isIn_6 : decode cX12_isIn 6 = .ok (.iload_n 2, 1) := by decide +kernel
theorem dX12_isIn_7 : decode cX12_isIn 7 = .ok (.if_icmp .gt 7, 3) := by decide +kernel
theorem dX12_isIn_10 : decode cX12_isIn 10 = .ok (.iconst 1, 1) := by decide +kernel
theorem dX12_isIn_11 : decode cX12_isIn 11 = .ok (.goto 4, 3) := by decide +kernel
theorem dX12_isIn_14 : decode cX12_isIn 14 = .ok (.iconst 0, 1) := by decide +kernel
theorem dX12_isIn_15 : decode cX12_isIn 15 = .ok (.ireturn, 1) := by decide +kernel
theorem dX12_isMinute_0 : decode cX12_isMinute 0 = .ok (.iload_n 0, 1) := by decide +kernel
theorem dX12_isMinute_1 : decode cX12_isMinute 1 = .ok (.iconst 0, 1) := by decide +kernel
theorem dX12_isMinute_2 : decode cX12_isMinute 2 = .ok (.sipush 719, 3) := by decide +kernel
theorem dX12_isMinute_5 : decode cX12_isMinute 5 = .ok (.invokestatic 100, 3) := by decide +kernel
theorem dX12_isMinute_8 : decode cX12_isMinute 8 = .ok (.ireturn, 1) := by decide +kernel
theorem dX12_move_0 : decode cX12_move 0 = .ok (.iconst 0, 1) := by decide +kernel
theorem dX12_move_1 : decode cX12_move 1 = .ok (.istore_n 2, 1) := by decide +kernel
theorem dX12_move_2 : decode cX12_move 2 = .ok (.iload_n 2, 1) := by decide +kernel
theorem dX12_move_3 : decode cX12_move 3 = .ok (.aload_n 0, 1) := by decide +kernel
theorem dX12_move_4 : decode cX12_move 4 = .ok (.arraylength, 1) := by decide +kernel
theorem dX12_move_5 : decode cX12_move 5 = .ok (.if_icmp .ge 15, 3) := by decide +kernel
theorem dX12_move_8 : decode cX12_move 8 = .ok (.aload_n 1, 1) := by decide +kernel
theorem dX12_move_9 : decode cX12_move 9 = .ok (.iload_n 2, 1) := by decide +kernel
theorem dX12_move_10 : decode cX12_move 10 = .ok (.aload_n 0, 1) := by decide +kernel
theorem dX12_move_11 : decode cX12_move 11 = .ok (.iload_n 2, 1) := by decide +kernel
theorem dX12_move_12 : decode cX12_move 12 = .ok (.iaload, 1) := by decide +kernel
theorem dX12_move_13 : decode cX12_move 13 = .ok (.iastore, 1) := by decide +kernel
theorem dX12_move_14 : decode cX12_move 14 = .ok (.iinc 2 1, 3) := by decide +kernel
theorem dX12_move_17 : decode cX12_move 17 = .ok (.goto (-15), 3) := by decide +kernel
theorem dX12_move_20 : decode cX12_move 20 = .ok (.return_, 1) := by decide +kernel
theorem dX12_image_0 : decode cX12_image 0 = .ok (.aload_n 0, 1) := by decide +kernel
theorem dX12_image_1 : decode cX12_image 1 = .ok (.iconst 1, 1) := by decide +kernel
theorem dX12_image_2 : decode cX12_image 2 = .ok (.putfield 104, 3) := by decide +kernel
theorem dX12_image_5 : decode cX12_image 5 = .ok (.aload_n 0, 1) := by decide +kernel
theorem dX12_image_6 : decode cX12_image 6 = .ok (.getfield 7, 3) := by decide +kernel
theorem dX12_image_9 : decode cX12_image 9 = .ok (.aload_n 0, 1) := by decide +kernel
theorem dX12_image_10 : decode cX12_image 10 = .ok (.getfield 37, 3) := by decide +kernel
theorem dX12_image_13 : decode cX12_image 13 = .ok (.invokestatic 108, 3) := by decide +kernel
theorem dX12_image_16 : decode cX12_image 16 = .ok (.aload_n 0, 1) := by decide +kernel
theorem dX12_image_17 : decode cX12_image 17 = .ok (.getfield 13, 3) := by decide +kernel
theorem dX12_image_20 : decode cX12_image 20 = .ok (.aload_n 0, 1) := by decide +kernel
theorem dX12_image_21 : decode cX12_image 21 = .ok (.getfield 40, 3) := by decide +kernel
theorem dX12_image_24 : decode cX12_image 24 = .ok (.invokestatic 108, 3) := by decide +kernel
theorem dX12_image_27 : decode cX12_image 27 = .ok (.aload_n 0, 1) := by decide +kernel
theorem dX12_image_28 : decode cX12_image 28 = .ok (.getfield 16, 3) := by decide +kernel
theorem dX12_image_31 : decode cX12_image 31 = .ok (.aload_n 0, 1) := by decide +kernel
theorem dX12_image_32 : decode cX12_image 32 = .ok (.getfield 43, 3) := by decide +kernel
theorem dX12_image_35 : decode cX12_image 35 = .ok (.invokestatic 108, 3) := by decide +kernel
theorem dX12_image_38 : decode cX12_image 38 = .ok (.aload_n 0, 1) := by decide +kernel
theorem dX12_image_39 : decode cX12_image 39 = .ok (.getfield 19, 3) := by decide +kernel
theorem dX12_image_42 : decode cX12_image 42 = .ok (.aload_n 0, 1) := by decide +kernel
theorem dX12_image_43 : decode cX12_image 43 = .ok (.getfield 46, 3) := by decide +kernel
theorem dX12_image_46 : decode cX12_image 46 = .ok (.invokestatic 108, 3) := by decide +kernel
theorem dX12_image_49 : decode cX12_image 49 = .ok (.aload_n 0, 1) := by decide +kernel
theorem dX12_image_50 : decode cX12_image 50 = .ok (.getfield 22, 3) := by decide +kernel
theorem dX12_image_53 : decode cX12_image 53 = .ok (.aload_n 0, 1) := by decide +kernel
theorem dX12_image_54 : decode cX12_image 54 = .ok (.getfield 49, 3) := by decide +kernel
theorem dX12_image_57 : decode cX12_image 57 = .ok (.invokestatic 108, 3) := by decide +kernel
theorem dX12_image_60 : decode cX12_image 60 = .ok (.aload_n 0, 1) := by decide +kernel
theorem dX12_image_61 : decode cX12_image 61 = .ok (.getfield 25, 3) := by decide +kernel
theorem dX12_image_64 : decode cX12_image 64 = .ok (.aload_n 0, 1) := by decide +kernel
theorem dX12_image_65 : decode cX12_image 65 = .ok (.getfield 52, 3) := by decide +kernel
theorem dX12_image_68 : decode cX12_image 68 = .ok (.invokestatic 108, 3) := by decide +kernel
theorem dX12_image_71 : decode cX12_image 71 = .ok (.aload_n 0, 1) := by decide +kernel
theorem dX12_image_72 : decode cX12_image 72 = .ok (.getfield 28, 3) := by decide +kernel
theorem dX12_image_75 : decode cX12_image 75 = .ok (.aload_n 0, 1) := by decide +kernel
theorem dX12_image_76 : decode cX12_image 76 = .ok (.getfield 55, 3) := by decide +kernel
theorem dX12_image_79 : decode cX12_image 79 = .ok (.invokestatic 108, 3) := by decide +kernel
theorem dX12_image_82 : decode cX12_image 82 = .ok (.aload_n 0, 1) := by decide +kernel
theorem dX12_image_83 : decode cX12_image 83 = .ok (.getfield 31, 3) := by decide +kernel
theorem dX12_image_86 : decode cX12_image 86 = .ok (.aload_n 0, 1) := by decide +kernel
theorem dX12_image_87 : decode cX12_image 87 = .ok (.getfield 58, 3) := by decide +kernel
theorem dX12_image_90 : decode cX12_image 90 = .ok (.invokestatic 108, 3) := by decide +kernel
theorem dX12_image_93 : decode cX12_image 93 = .ok (.aload_n 0, 1) := by decide +kernel
theorem dX12_image_94 : decode cX12_image 94 = .ok (.getfield 34, 3) := by decide +kernel
theorem dX12_image_97 : decode cX12_image 97 = .ok (.aload_n 0, 1) := by decide +kernel
theorem dX12_image_98 : decode cX12_image 98 = .ok (.getfield 61, 3) := by decide +kernel
theorem dX12_image_101 : decode cX12_image 101 = .ok (.invokestatic 108, 3) := by decide +kernel
theorem dX12_image_104 : decode cX12_image 104 = .ok (.aload_n 0, 1) := by decide +kernel
theorem dX12_image_105 : decode cX12_image 105 = .ok (.getfield 7, 3) := by decide +kernel
theorem dX12_image_108 : decode cX12_image 108 = .ok (.iconst 1, 1) := by decide +kernel
theorem dX12_image_109 : decode cX12_image 109 = .ok (.iaload, 1) := by decide +kernel
theorem dX12_image_110 : decode cX12_image 110 = .ok (.ireturn, 1) := by decide +kernel
theorem dX12_restore_0 : decode cX12_restore 0 = .ok (.aload_n 0, 1) := by decide +kernel
theorem dX12_restore_1 : decode cX12_restore 1 = .ok (.getfield 104, 3) := by decide +kernel
theorem dX12_restore_4 : decode cX12_restore 4 = .ok (.ifCond .ne 6, 3) := by decide +kernel
theorem dX12_restore_7 : decode cX12_restore 7 = .ok (.bipush (-3), 2) := by decide +kernel
theorem dX12_restore_9 : decode cX12_restore 9 = .ok (.ireturn, 1) := by decide +kernel
theorem dX12_restore_10 : decode cX12_restore 10 = .ok (.aload_n 0, 1) := by decide +kernel
theorem dX12_restore_11 : decode cX12_restore 11 = .ok (.getfield 37, 3) := by decide +kernel
theorem dX12_restore_14 : decode cX12_restore 14 = .ok (.aload_n 0, 1) := by decide +kernel
theorem dX12_restore_15 : decode cX12_restore 15 = .ok (.getfield 7, 3) := by decide +kernel
theorem dX12_restore_18 : decode cX12_restore 18 = .ok (.invokestatic 108, 3) := by decide +kernel
theorem dX12_restore_21 : decode cX12_restore 21 = .ok (.aload_n 0, 1) := by decide +kernel
theorem dX12_restore_22 : decode cX12_restore 22 = .ok (.getfield 40, 3) := by decide +kernel
theorem dX12_restore_25 : decode cX12_restore 25 = .ok (.aload_n 0, 1) := by decide +kernel
theorem dX12_restore_26 : decode cX12_restore 26 = .ok (.getfield 13, 3) := by decide +kernel
theorem dX12_restore_29 : decode cX12_restore 29 = .ok (.invokestatic 108, 3) := by decide +kernel
theorem dX12_restore_32 : decode cX12_restore 32 = .ok (.aload_n 0, 1) := by decide +kernel
theorem dX12_restore_33 : decode cX12_restore 33 = .ok (.getfield 43, 3) := by decide +kernel
theorem dX12_restore_36 : decode cX12_restore 36 = .ok (.aload_n 0, 1) := by decide +kernel
theorem dX12_restore_37 : decode cX12_restore 37 = .ok (.getfield 16, 3) := by decide +kernel
theorem dX12_restore_40 : decode cX12_restore 40 = .ok (.invokestatic 108, 3) := by decide +kernel
theorem dX12_restore_43 : decode cX12_restore 43 = .ok (.aload_n 0, 1) := by decide +kernel
theorem dX12_restore_44 : decode cX12_restore 44 = .ok (.getfield 46, 3) := by decide +kernel
theorem dX12_restore_47 : decode cX12_restore 47 = .ok (.aload_n 0, 1) := by decide +kernel
theorem dX12_restore_48 : decode cX12_restore 48 = .ok (.getfield 19, 3) := by decide +kernel
theorem dX12_restore_51 : decode cX12_restore 51 = .ok (.invokestatic 108, 3) := by decide +kernel
theorem dX12_restore_54 : decode cX12_restore 54 = .ok (.aload_n 0, 1) := by decide +kernel
theorem dX12_restore_55 : decode cX12_restore 55 = .ok (.getfield 49, 3) := by decide +kernel
theorem dX12_restore_58 : decode cX12_restore 58 = .ok (.aload_n 0, 1) := by decide +kernel
theorem dX12_restore_59 : decode cX12_restore 59 = .ok (.getfield 22, 3) := by decide +kernel
theorem dX12_restore_62 : decode cX12_restore 62 = .ok (.invokestatic 108, 3) := by decide +kernel
theorem dX12_restore_65 : decode cX12_restore 65 = .ok (.aload_n 0, 1) := by decide +kernel
theorem dX12_restore_66 : decode cX12_restore 66 = .ok (.getfield 52, 3) := by decide +kernel
theorem dX12_restore_69 : decode cX12_restore 69 = .ok (.aload_n 0, 1) := by decide +kernel
theorem dX12_restore_70 : decode cX12_restore 70 = .ok (.getfield 25, 3) := by decide +kernel
theorem dX12_restore_73 : decode cX12_restore 73 = .ok (.invokestatic 108, 3) := by decide +kernel
theorem dX12_restore_76 : decode cX12_restore 76 = .ok (.aload_n 0, 1) := by decide +kernel
theorem dX12_restore_77 : decode cX12_restore 77 = .ok (.getfield 55, 3) := by decide +kernel
theorem dX12_restore_80 : decode cX12_restore 80 = .ok (.aload_n 0, 1) := by decide +kernel
theorem dX12_restore_81 : decode cX12_restore 81 = .ok (.getfield 28, 3) := by decide +kernel
theorem dX12_restore_84 : decode cX12_restore 84 = .ok (.invokestatic 108, 3) := by decide +kernel
theorem dX12_restore_87 : decode cX12_restore 87 = .ok (.aload_n 0, 1) := by decide +kernel
theorem dX12_restore_88 : decode cX12_restore 88 = .ok (.getfield 58, 3) := by decide +kernel
theorem dX12_restore_91 : decode cX12_restore 91 = .ok (.aload_n 0, 1) := by decide +kernel
theorem dX12_restore_92 : decode cX12_restore 92 = .ok (.getfield 31, 3) := by decide +kernel
theorem dX12_restore_95 : decode cX12_restore 95 = .ok (.invokestatic 108, 3) := by decide +kernel
theorem dX12_restore_98 : decode cX12_restore 98 = .ok (.aload_n 0, 1) := by decide +kernel
theorem dX12_restore_99 : decode cX12_restore 99 = .ok (.getfield 61, 3) := by decide +kernel
theorem dX12_restore_102 : decode cX12_restore 102 = .ok (.aload_n 0, 1) := by decide +kernel
theorem dX12_restore_103 : decode cX12_restore 103 = .ok (.getfield 34, 3) := by decide +kernel
theorem dX12_restore_106 : decode cX12_restore 106 = .ok (.invokestatic 108, 3) := by decide +kernel
theorem dX12_restore_109 : decode cX12_restore 109 = .ok (.aload_n 0, 1) := by decide +kernel
theorem dX12_restore_110 : decode cX12_restore 110 = .ok (.getfield 7, 3) := by decide +kernel
theorem dX12_restore_113 : decode cX12_restore 113 = .ok (.iconst 1, 1) := by decide +kernel
theorem dX12_restore_114 : decode cX12_restore 114 = .ok (.iaload, 1) := by decide +kernel
theorem dX12_restore_115 : decode cX12_restore 115 = .ok (.ireturn, 1) := by decide +kernel
theorem dX12_isWork_0 : decode cX12_isWork 0 = .ok (.iload_n 1, 1) := by decide +kernel
theorem dX12_isWork_1 : decode cX12_isWork 1 = .ok (.iconst 0, 1) := by decide +kernel
theorem dX12_isWork_2 : decode cX12_isWork 2 = .ok (.aload_n 0, 1) := by decide +kernel
theorem dX12_isWork_3 : decode cX12_isWork 3 = .ok (.getfield 7, 3) := by decide +kernel
theorem dX12_isWork_6 : decode cX12_isWork 6 = .ok (.iconst 0, 1) := by decide +kernel
theorem dX12_isWork_7 : decode cX12_isWork 7 = .ok (.iaload, 1) := by decide +kernel
theorem dX12_isWork_8 : decode cX12_isWork 8 = .ok (.iconst 1, 1) := by decide +kernel
theorem dX12_isWork_9 : decode cX12_isWork 9 = .ok (.isub, 1) := by decide +kernel
theorem dX12_isWork_10 : decode cX12_isWork 10 = .ok (.invokestatic 100, 3) := by decide +kernel
theorem dX12_isWork_13 : decode cX12_isWork 13 = .ok (.ireturn, 1) := by decide +kernel
theorem dX12_isLooker_0 : decode cX12_isLooker 0 = .ok (.iload_n 1, 1) := by decide +kernel
theorem dX12_isLooker_1 : decode cX12_isLooker 1 = .ok (.iconst 0, 1) := by decide +kernel
theorem dX12_isLooker_2 : decode cX12_isLooker 2 = .ok (.aload_n 0, 1) := by decide +kernel
theorem dX12_isLooker_3 : decode cX12_isLooker 3 = .ok (.getfield 7, 3) := by decide +kernel
theorem dX12_isLooker_6 : decode cX12_isLooker 6 = .ok (.iconst 1, 1) := by decide +kernel
theorem dX12_isLooker_7 : decode cX12_isLooker 7 = .ok (.iaload, 1) := by decide +kernel
theorem dX12_isLooker_8 : decode cX12_isLooker 8 = .ok (.iconst 1, 1) := by decide +kernel
theorem dX12_isLooker_9 : decode cX12_isLooker 9 = .ok (.isub, 1) := by decide +kernel
theorem dX12_isLooker_10 : decode cX12_isLooker 10 = .ok (.invokestatic 100, 3) := by decide +kernel
theorem dX12_isLooker_13 : decode cX12_isLooker 13 = .ok (.ireturn, 1) := by decide +kernel
theorem dX12_priceBy_0 : decode cX12_priceBy 0 = .ok (.iload_n 1, 1) := by decide +kernel
theorem dX12_priceBy_1 : decode cX12_priceBy 1 = .ok (.bipush 60, 2) := by decide +kernel
theorem dX12_priceBy_3 : decode cX12_priceBy 3 = .ok (.idiv, 1) := by decide +kernel
theorem dX12_priceBy_4 : decode cX12_priceBy 4 = .ok (.ifCond .ne 8, 3) := by decide +kernel
theorem dX12_priceBy_7 : decode cX12_priceBy 7 = .ok (.bipush 12, 2) := by decide +kernel
theorem dX12_priceBy_9 : decode cX12_priceBy 9 = .ok (.goto 7, 3) := by decide +kernel
theorem dX12_priceBy_12 : decode cX12_priceBy 12 = .ok (.iload_n 1, 1) := by decide +kernel
theorem dX12_priceBy_13 : decode cX12_priceBy 13 = .ok (.bipush 60, 2) := by decide +kernel
theorem dX12_priceBy_15 : decode cX12_priceBy 15 = .ok (.idiv, 1) := by decide +kernel
theorem dX12_priceBy_16 : decode cX12_priceBy 16 = .ok (.istore_n 2, 1) := by decide +kernel
theorem dX12_priceBy_17 : decode cX12_priceBy 17 = .ok (.iload_n 0, 1) := by decide +kernel
theorem dX12_priceBy_18 : decode cX12_priceBy 18 = .ok (.ifCond .ne 7, 3) := by decide +kernel
theorem dX12_priceBy_21 : decode cX12_priceBy 21 = .ok (.iload_n 2, 1) := by decide +kernel
theorem dX12_priceBy_22 : decode cX12_priceBy 22 = .ok (.goto 22, 3) := by decide +kernel
theorem dX12_priceBy_25 : decode cX12_priceBy 25 = .ok (.iload_n 0, 1) := by decide +kernel
theorem dX12_priceBy_26 : decode cX12_priceBy 26 = .ok (.iconst 1, 1) := by decide +kernel
theorem dX12_priceBy_27 : decode cX12_priceBy 27 = .ok (.if_icmp .ne 15, 3) := by decide +kernel
theorem dX12_priceBy_30 : decode cX12_priceBy 30 = .ok (.iload_n 2, 1) := by decide +kernel
theorem dX12_priceBy_31 : decode cX12_priceBy 31 = .ok (.iload_n 1, 1) := by decide +kernel
theorem dX12_priceBy_32 : decode cX12_priceBy 32 = .ok (.bipush 60, 2) := by decide +kernel
theorem dX12_priceBy_34 : decode cX12_priceBy 34 = .ok (.irem, 1) := by decide +kernel
theorem dX12_priceBy_35 : decode cX12_priceBy 35 = .ok (.bipush 10, 2) := by decide +kernel
theorem dX12_priceBy_37 : decode cX12_priceBy 37 = .ok (.idiv, 1) := by decide +kernel
theorem dX12_priceBy_38 : decode cX12_priceBy 38 = .ok (.iadd, 1) := by decide +kernel
theorem dX12_priceBy_39 : decode cX12_priceBy 39 = .ok (.goto 5, 3) := by decide +kernel
theorem dX12_priceBy_42 : decode cX12_priceBy 42 = .ok (.bipush 6, 2) := by decide +kernel
theorem dX12_priceBy_44 : decode cX12_priceBy 44 = .ok (.ireturn, 1) := by decide +kernel
theorem dX12_price_0 : decode cX12_price 0 = .ok (.iload_n 1, 1) := by decide +kernel
theorem dX12_price_1 : decode cX12_price 1 = .ok (.invokestatic 112, 3) := by decide +kernel
theorem dX12_price_4 : decode cX12_price 4 = .ok (.ifCond .eq 16, 3) := by decide +kernel
theorem dX12_price_7 : decode cX12_price 7 = .ok (.aload_n 0, 1) := by decide +kernel
theorem dX12_price_8 : decode cX12_price 8 = .ok (.getfield 7, 3) := by decide +kernel
theorem dX12_price_11 : decode cX12_price 11 = .ok (.iconst 3, 1) := by decide +kernel
theorem dX12_price_12 : decode cX12_price 12 = .ok (.iaload, 1) := by decide +kernel
theorem dX12_price_13 : decode cX12_price 13 = .ok (.iload_n 1, 1) := by decide +kernel
theorem dX12_price_14 : decode cX12_price 14 = .ok (.invokestatic 116, 3) := by decide +kernel
theorem dX12_price_17 : decode cX12_price 17 = .ok (.goto 4, 3) := by decide +kernel
theorem dX12_price_20 : decode cX12_price 20 = .ok (.iconst (-1), 1) := by decide +kernel
theorem dX12_price_21 : decode cX12_price 21 = .ok (.ireturn, 1) := by decide +kernel
theorem dX12_law_0 : decode cX12_law 0 = .ok (.iload_n 1, 1) := by decide +kernel
theorem dX12_law_1 : decode cX12_law 1 = .ok (.iconst 0, 1) := by decide +kernel
theorem dX12_law_2 : decode cX12_law 2 = .ok (.iconst 2, 1) := by decide +kernel
theorem dX12_law_3 : decode cX12_law 3 = .ok (.invokestatic 100, 3) := by decide +kernel
theorem dX12_law_6 : decode cX12_law 6 = .ok (.ifCond .ne 5, 3) := by decide +kernel
theorem dX12_law_9 : decode cX12_law 9 = .ok (.iconst (-1), 1) := by decide +kernel
theorem dX12_law_10 : decode cX12_law 10 = .ok (.ireturn, 1) := by decide +kernel
theorem dX12_law_11 : decode cX12_law 11 = .ok (.aload_n 0, 1) := by decide +kernel
theorem dX12_law_12 : decode cX12_law 12 = .ok (.getfield 7, 3) := by decide +kernel
theorem dX12_law_15 : decode cX12_law 15 = .ok (.iconst 3, 1) := by decide +kernel
theorem dX12_law_16 : decode cX12_law 16 = .ok (.iaload, 1) := by decide +kernel
theorem dX12_law_17 : decode cX12_law 17 = .ok (.istore_n 2, 1) := by decide +kernel
theorem dX12_law_18 : decode cX12_law 18 = .ok (.aload_n 0, 1) := by decide +kernel
theorem dX12_law_19 : decode cX12_law 19 = .ok (.getfield 7, 3) := by decide +kernel
theorem dX12_law_22 : decode cX12_law 22 = .ok (.iconst 3, 1) := by decide +kernel
theorem dX12_law_23 : decode cX12_law 23 = .ok (.iload_n 1, 1) := by decide +kernel
theorem dX12_law_24 : decode cX12_law 24 = .ok (.iastore, 1) := by decide +kernel
theorem dX12_law_25 : decode cX12_law 25 = .ok (.iload_n 2, 1) := by decide +kernel
theorem dX12_law_26 : decode cX12_law 26 = .ok (.ireturn, 1) := by decide +kernel
theorem dX12_work_0 : decode cX12_work 0 = .ok (.aload_n 0, 1) := by decide +kernel
theorem dX12_work_1 : decode cX12_work 1 = .ok (.iload_n 1, 1) := by decide +kernel
theorem dX12_work_2 : decode cX12_work 2 = .ok (.invokevirtual 120, 3) := by decide +kernel
theorem dX12_work_5 : decode cX12_work 5 = .ok (.ifCond .eq 12, 3) := by decide +kernel
theorem dX12_work_8 : decode cX12_work 8 = .ok (.iload_n 2, 1) := by decide +kernel
theorem dX12_work_9 : decode cX12_work 9 = .ok (.iconst 0, 1) := by decide +kernel
theorem dX12_work_10 : decode cX12_work 10 = .ok (.iconst 2, 1) := by decide +kernel
theorem dX12_work_11 : decode cX12_work 11 = .ok (.invokestatic 100, 3) := by decide +kernel
theorem dX12_work_14 : decode cX12_work 14 = .ok (.ifCond .ne 5, 3) := by decide +kernel
theorem dX12_work_17 : decode cX12_work 17 = .ok (.iconst (-1), 1) := by decide +kernel
theorem dX12_work_18 : decode cX12_work 18 = .ok (.ireturn, 1) := by decide +kernel
theorem dX12_work_19 : decode cX12_work 19 = .ok (.iload_n 2, 1) := by decide +kernel
theorem dX12_work_20 : decode cX12_work 20 = .ok (.ifCond .ne 12, 3) := by decide +kernel
theorem dX12_work_23 : decode cX12_work 23 = .ok (.aload_n 0, 1) := by decide +kernel
theorem dX12_work_24 : decode cX12_work 24 = .ok (.getfield 13, 3) := by decide +kernel
theorem dX12_work_27 : decode cX12_work 27 = .ok (.iload_n 1, 1) := by decide +kernel
theorem dX12_work_28 : decode cX12_work 28 = .ok (.iaload, 1) := by decide +kernel
theorem dX12_work_29 : decode cX12_work 29 = .ok (.goto 23, 3) := by decide +kernel
theorem dX12_work_32 : decode cX12_work 32 = .ok (.iload_n 2, 1) := by decide +kernel
theorem dX12_work_33 : decode cX12_work 33 = .ok (.iconst 1, 1) := by decide +kernel
theorem dX12_work_34 : decode cX12_work 34 = .ok (.if_icmp .ne 12, 3) := by decide +kernel
theorem dX12_work_37 : decode cX12_work 37 = .ok (.aload_n 0, 1) := by decide +kernel
theorem dX12_work_38 : decode cX12_work 38 = .ok (.getfield 16, 3) := by decide +kernel
theorem dX12_work_41 : decode cX12_work 41 = .ok (.iload_n 1, 1) := by decide +kernel
theorem dX12_work_42 : decode cX12_work 42 = .ok (.iaload, 1) := by decide +kernel
theorem dX12_work_43 : decode cX12_work 43 = .ok (.goto 9, 3) := by decide +kernel
theorem dX12_work_46 : decode cX12_work 46 = .ok (.aload_n 0, 1) := by decide +kernel
theorem dX12_work_47 : decode cX12_work 47 = .ok (.getfield 19, 3) := by decide +kernel
theorem dX12_work_50 : decode cX12_work 50 = .ok (.iload_n 1, 1) := by decide +kernel
theorem dX12_work_51 : decode cX12_work 51 = .ok (.iaload, 1) := by decide +kernel
theorem dX12_work_52 : decode cX12_work 52 = .ok (.ireturn, 1) := by decide +kernel
theorem dX12_early_0 : decode cX12_early 0 = .ok (.iload_n 0, 1) := by decide +kernel
theorem dX12_early_1 : decode cX12_early 1 = .ok (.iconst 1, 1) := by decide +kernel
theorem dX12_early_2 : decode cX12_early 2 = .ok (.if_icmp .ne 9, 3) := by decide +kernel
theorem dX12_early_5 : decode cX12_early 5 = .ok (.iconst 2, 1) := by decide +kernel
theorem dX12_early_6 : decode cX12_early 6 = .ok (.iload_n 1, 1) := by decide +kernel
theorem dX12_early_7 : decode cX12_early 7 = .ok (.imul, 1) := by decide +kernel
theorem dX12_early_8 : decode cX12_early 8 = .ok (.goto 14, 3) := by decide +kernel
theorem dX12_early_11 : decode cX12_early 11 = .ok (.iload_n 0, 1) := by decide +kernel
theorem dX12_early_12 : decode cX12_early 12 = .ok (.bipush 6, 2) := by decide +kernel
theorem dX12_early_14 : decode cX12_early 14 = .ok (.if_icmp .ne 7, 3) := by decide +kernel
theorem dX12_early_17 : decode cX12_early 17 = .ok (.iload_n 1, 1) := by decide +kernel
theorem dX12_early_18 : decode cX12_early 18 = .ok (.goto 4, 3) := by decide +kernel
theorem dX12_early_21 : decode cX12_early 21 = .ok (.iconst 0, 1) := by decide +kernel
theorem dX12_early_22 : decode cX12_early 22 = .ok (.ireturn, 1) := by decide +kernel
theorem dX12_looker_0 : decode cX12_looker 0 = .ok (.aload_n 0, 1) := by decide +kernel
theorem dX12_looker_1 : decode cX12_looker 1 = .ok (.iload_n 1, 1) := by decide +kernel
theorem dX12_looker_2 : decode cX12_looker 2 = .ok (.invokevirtual 123, 3) := by decide +kernel
theorem dX12_looker_5 : decode cX12_looker 5 = .ok (.ifCond .eq 12, 3) := by decide +kernel
theorem dX12_looker_8 : decode cX12_looker 8 = .ok (.iload_n 2, 1) := by decide +kernel
theorem dX12_looker_9 : decode cX12_looker 9 = .ok (.iconst 0, 1) := by decide +kernel
theorem dX12_looker_10 : decode cX12_looker 10 = .ok (.iconst 3, 1) := by decide +kernel
theorem dX12_looker_11 : decode cX12_looker 11 = .ok (.invokestatic 100, 3) := by decide +kernel
theorem dX12_looker_14 : decode cX12_looker 14 = .ok (.ifCond .ne 5, 3) := by decide +kernel
theorem dX12_looker_17 : decode cX12_looker 17 = .ok (.iconst (-1), 1) := by decide +kernel
theorem dX12_looker_18 : decode cX12_looker 18 = .ok (.ireturn, 1) := by decide +kernel
theorem dX12_looker_19 : decode cX12_looker 19 = .ok (.iload_n 2, 1) := by decide +kernel
theorem dX12_looker_20 : decode cX12_looker 20 = .ok (.tableswitch 49 0 2 #[28, 35, 42], 28) := by decide +kernel
theorem dX12_looker_48 : decode cX12_looker 48 = .ok (.aload_n 0, 1) := by decide +kernel
theorem dX12_looker_49 : decode cX12_looker 49 = .ok (.getfield 22, 3) := by decide +kernel
theorem dX12_looker_52 : decode cX12_looker 52 = .ok (.iload_n 1, 1) := by decide +kernel
theorem dX12_looker_53 : decode cX12_looker 53 = .ok (.iaload, 1) := by decide +kernel
theorem dX12_looker_54 : decode cX12_looker 54 = .ok (.ireturn, 1) := by decide +kernel
theorem dX12_looker_55 : decode cX12_looker 55 = .ok (.aload_n 0, 1) := by decide +kernel
theorem dX12_looker_56 : decode cX12_looker 56 = .ok (.getfield 25, 3) := by decide +kernel
theorem dX12_looker_59 : decode cX12_looker 59 = .ok (.iload_n 1, 1) := by decide +kernel
theorem dX12_looker_60 : decode cX12_looker 60 = .ok (.iaload, 1) := by decide +kernel
theorem dX12_looker_61 : decode cX12_looker 61 = .ok (.ireturn, 1) := by decide +kernel
theorem dX12_looker_62 : decode cX12_looker 62 = .ok (.aload_n 0, 1) := by decide +kernel
theorem dX12_looker_63 : decode cX12_looker 63 = .ok (.getfield 31, 3) := by decide +kernel
theorem dX12_looker_66 : decode cX12_looker 66 = .ok (.iload_n 1, 1) := by decide +kernel
theorem dX12_looker_67 : decode cX12_looker 67 = .ok (.iaload, 1) := by decide +kernel
theorem dX12_looker_68 : decode cX12_looker 68 = .ok (.ireturn, 1) := by decide +kernel
theorem dX12_looker_69 : decode cX12_looker 69 = .ok (.aload_n 0, 1) := by decide +kernel
theorem dX12_looker_70 : decode cX12_looker 70 = .ok (.getfield 22, 3) := by decide +kernel
theorem dX12_looker_73 : decode cX12_looker 73 = .ok (.iload_n 1, 1) := by decide +kernel
theorem dX12_looker_74 : decode cX12_looker 74 = .ok (.iaload, 1) := by decide +kernel
theorem dX12_looker_75 : decode cX12_looker 75 = .ok (.aload_n 0, 1) := by decide +kernel
theorem dX12_looker_76 : decode cX12_looker 76 = .ok (.getfield 25, 3) := by decide +kernel
theorem dX12_looker_79 : decode cX12_looker 79 = .ok (.iload_n 1, 1) := by decide +kernel
theorem dX12_looker_80 : decode cX12_looker 80 = .ok (.iaload, 1) := by decide +kernel
theorem dX12_looker_81 : decode cX12_looker 81 = .ok (.invokestatic 126, 3) := by decide +kernel
theorem dX12_looker_84 : decode cX12_looker 84 = .ok (.ireturn, 1) := by decide +kernel
theorem dX12_drift_0 : decode cX12_drift 0 = .ok (.aload_n 0, 1) := by decide +kernel
theorem dX12_drift_1 : decode cX12_drift 1 = .ok (.iload_n 1, 1) := by decide +kernel
theorem dX12_drift_2 : decode cX12_drift 2 = .ok (.invokevirtual 123, 3) := by decide +kernel
theorem dX12_drift_5 : decode cX12_drift 5 = .ok (.ifCond .eq 12, 3) := by decide +kernel
theorem dX12_drift_8 : decode cX12_drift 8 = .ok (.aload_n 0, 1) := by decide +kernel
theorem dX12_drift_9 : decode cX12_drift 9 = .ok (.getfield 28, 3) := by decide +kernel
theorem dX12_drift_12 : decode cX12_drift 12 = .ok (.iload_n 1, 1) := by decide +kernel
theorem dX12_drift_13 : decode cX12_drift 13 = .ok (.iaload, 1) := by decide +kernel
theorem dX12_drift_14 : decode cX12_drift 14 = .ok (.goto 5, 3) := by decide +kernel
theorem dX12_drift_17 : decode cX12_drift 17 = .ok (.ldc 129, 2) := by decide +kernel
theorem dX12_drift_19 : decode cX12_drift 19 = .ok (.ireturn, 1) := by decide +kernel
theorem dX12_thought_0 : decode cX12_thought 0 = .ok (.iload_n 2, 1) := by decide +kernel
theorem dX12_thought_1 : decode cX12_thought 1 = .ok (.iload_n 2, 1) := by decide +kernel
theorem dX12_thought_2 : decode cX12_thought 2 = .ok (.iload_n 1, 1) := by decide +kernel
theorem dX12_thought_3 : decode cX12_thought 3 = .ok (.isub, 1) := by decide +kernel
theorem dX12_thought_4 : decode cX12_thought 4 = .ok (.iload_n 0, 1) := by decide +kernel
theorem dX12_thought_5 : decode cX12_thought 5 = .ok (.imul, 1) := by decide +kernel
theorem dX12_thought_6 : decode cX12_thought 6 = .ok (.bipush 60, 2) := by decide +kernel
theorem dX12_thought_8 : decode cX12_thought 8 = .ok (.idiv, 1) := by decide +kernel
theorem dX12_thought_9 : decode cX12_thought 9 = .ok (.iadd, 1) := by decide +kernel
theorem dX12_thought_10 : decode cX12_thought 10 = .ok (.ireturn, 1) := by decide +kernel
theorem dX12_thinks_0 : decode cX12_thinks 0 = .ok (.aload_n 0, 1) := by decide +kernel
theorem dX12_thinks_1 : decode cX12_thinks 1 = .ok (.iload_n 1, 1) := by decide +kernel
theorem dX12_thinks_2 : decode cX12_thinks 2 = .ok (.invokevirtual 123, 3) := by decide +kernel
theorem dX12_thinks_5 : decode cX12_thinks 5 = .ok (.ifCond .eq 36, 3) := by decide +kernel
theorem dX12_thinks_8 : decode cX12_thinks 8 = .ok (.iload_n 2, 1) := by decide +kernel
theorem dX12_thinks_9 : decode cX12_thinks 9 = .ok (.invokestatic 112, 3) := by decide +kernel
theorem dX12_thinks_12 : decode cX12_thinks 12 = .ok (.ifCond .eq 29, 3) := by decide +kernel
theorem dX12_thinks_15 : decode cX12_thinks 15 = .ok (.iload_n 3, 1) := by decide +kernel
theorem dX12_thinks_16 : decode cX12_thinks 16 = .ok (.invokestatic 112, 3) := by decide +kernel
theorem dX12_thinks_19 : decode cX12_thinks 19 = .ok (.ifCond .eq 22, 3) := by decide +kernel
theorem dX12_thinks_22 : decode cX12_thinks 22 = .ok (.iload_n 2, 1) := by decide +kernel
theorem dX12_thinks_23 : decode cX12_thinks 23 = .ok (.iload_n 3, 1) := by decide +kernel
theorem dX12_thinks_24 : decode cX12_thinks 24 = .ok (.if_icmp .gt 17, 3) := by decide +kernel
theorem dX12_thinks_27 : decode cX12_thinks 27 = .ok (.aload_n 0, 1) := by decide +kernel
theorem dX12_thinks_28 : decode cX12_thinks 28 = .ok (.getfield 28, 3) := by decide +kernel
theorem dX12_thinks_31 : decode cX12_thinks 31 = .ok (.iload_n 1, 1) := by decide +kernel
theorem dX12_thinks_32 : decode cX12_thinks 32 = .ok (.iaload, 1) := by decide +kernel
theorem dX12_thinks_33 : decode cX12_thinks 33 = .ok (.iload_n 2, 1) := by decide +kernel
theorem dX12_thinks_34 : decode cX12_thinks 34 = .ok (.iload_n 3, 1) := by decide +kernel
theorem dX12_thinks_35 : decode cX12_thinks 35 = .ok (.invokestatic 130, 3) := by decide +kernel
theorem dX12_thinks_38 : decode cX12_thinks 38 = .ok (.goto 5, 3) := by decide +kernel
theorem dX12_thinks_41 : decode cX12_thinks 41 = .ok (.ldc 129, 2) := by decide +kernel
theorem dX12_thinks_43 : decode cX12_thinks 43 = .ok (.ireturn, 1) := by decide +kernel
theorem dX12_isPlanned_0 : decode cX12_isPlanned 0 = .ok (.iconst 0, 1) := by decide +kernel
theorem dX12_isPlanned_1 : decode cX12_isPlanned 1 = .ok (.istore_n 2, 1) := by decide +kernel
theorem dX12_isPlanned_2 : decode cX12_isPlanned 2 = .ok (.iconst 0, 1) := by decide +kernel
theorem dX12_isPlanned_3 : decode cX12_isPlanned 3 = .ok (.istore_n 3, 1) := by decide +kernel
theorem dX12_isPlanned_4 : decode cX12_isPlanned 4 = .ok (.iload_n 3, 1) := by decide +kernel
theorem dX12_isPlanned_5 : decode cX12_isPlanned 5 = .ok (.aload_n 0, 1) := by decide +kernel
theorem dX12_isPlanned_6 : decode cX12_isPlanned 6 = .ok (.getfield 7, 3) := by decide +kernel
theorem dX12_isPlanned_9 : decode cX12_isPlanned 9 = .ok (.iconst 2, 1) := by decide +kernel
theorem dX12_isPlanned_10 : decode cX12_isPlanned 10 = .ok (.iaload, 1) := by decide +kernel
theorem dX12_isPlanned_11 : decode cX12_isPlanned 11 = .ok (.if_icmp .ge 29, 3) := by decide +kernel
theorem dX12_isPlanned_14 : decode cX12_isPlanned 14 = .ok (.iload_n 2, 1) := by decide +kernel
theorem dX12_isPlanned_15 : decode cX12_isPlanned 15 = .ok (.ifCond .ne 13, 3) := by decide +kernel
theorem dX12_isPlanned_18 : decode cX12_isPlanned 18 = .ok (.aload_n 0, 1) := by decide +kernel
theorem dX12_isPlanned_19 : decode cX12_isPlanned 19 = .ok (.getfield 34, 3) := by decide +kernel
theorem dX12_isPlanned_22 : decode cX12_isPlanned 22 = .ok (.iload_n 3, 1) := by decide +kernel
theorem dX12_isPlanned_23 : decode cX12_isPlanned 23 = .ok (.iaload, 1) := by decide +kernel
theorem dX12_isPlanned_24 : decode cX12_isPlanned 24 = .ok (.iload_n 1, 1) := by decide +kernel
theorem dX12_isPlanned_25 : decode cX12_isPlanned 25 = .ok (.if_icmp .ne 7, 3) := by decide +kernel
theorem dX12_isPlanned_28 : decode cX12_isPlanned 28 = .ok (.iconst 1, 1) := by decide +kernel
theorem dX12_isPlanned_29 : decode cX12_isPlanned 29 = .ok (.goto 4, 3) := by decide +kernel
theorem dX12_isPlanned_32 : decode cX12_isPlanned 32 = .ok (.iconst 0, 1) := by decide +kernel
theorem dX12_isPlanned_33 : decode cX12_isPlanned 33 = .ok (.istore_n 2, 1) := by decide +kernel
theorem dX12_isPlanned_34 : decode cX12_isPlanned 34 = .ok (.iinc 3 1, 3) := by decide +kernel
theorem dX12_isPlanned_37 : decode cX12_isPlanned 37 = .ok (.goto (-33), 3) := by decide +kernel
theorem dX12_isPlanned_40 : decode cX12_isPlanned 40 = .ok (.iload_n 2, 1) := by decide +kernel
theorem dX12_isPlanned_41 : decode cX12_isPlanned 41 = .ok (.ireturn, 1) := by decide +kernel
theorem dX12_isClock_0 : decode cX12_isClock 0 = .ok (.iload_n 0, 1) := by decide +kernel
theorem dX12_isClock_1 : decode cX12_isClock 1 = .ok (.iconst 2, 1) := by decide +kernel
theorem dX12_isClock_2 : decode cX12_isClock 2 = .ok (.if_icmp .eq 19, 3) := by decide +kernel
theorem dX12_isClock_5 : decode cX12_isClock 5 = .ok (.iload_n 0, 1) := by decide +kernel
theorem dX12_isClock_6 : decode cX12_isClock 6 = .ok (.iconst 3, 1) := by decide +kernel
theorem dX12_isClock_7 : decode cX12_isClock 7 = .ok (.if_icmp .eq 14, 3) := by decide +kernel
theorem dX12_isClock_10 : decode cX12_isClock 10 = .ok (.iload_n 0, 1) := by decide +kernel
theorem dX12_isClock_11 : decode cX12_isClock 11 = .ok (.iconst 5, 1) := by decide +kernel
theorem dX12_isClock_12 : decode cX12_isClock 12 = .ok (.if_icmp .eq 9, 3) := by decide +kernel
theorem dX12_isClock_15 : decode cX12_isClock 15 = .ok (.iload_n 0, 1) := by decide +kernel
theorem dX12_isClock_16 : decode cX12_isClock 16 = .ok (.bipush 7, 2) := by decide +kernel
theorem dX12_isClock_18 : decode cX12_isClock 18 = .ok (.if_icmp .ne 7, 3) := by decide +kernel
theorem dX12_isClock_21 : decode cX12_isClock 21 = .ok (.iconst 1, 1) := by decide +kernel
theorem dX12_isClock_22 : decode cX12_isClock 22 = .ok (.goto 4, 3) := by decide +kernel
theorem dX12_isClock_25 : decode cX12_isClock 25 = .ok (.iconst 0, 1) := by decide +kernel
theorem dX12_isClock_26 : decode cX12_isClock 26 = .ok (.ireturn, 1) := by decide +kernel
theorem dX12_pays_0 : decode cX12_pays 0 = .ok (.iload_n 0, 1) := by decide +kernel
theorem dX12_pays_1 : decode cX12_pays 1 = .ok (.iconst 5, 1) := by decide +kernel
theorem dX12_pays_2 : decode cX12_pays 2 = .ok (.if_icmp .ne 11, 3) := by decide +kernel
theorem dX12_pays_5 : decode cX12_pays 5 = .ok (.iload_n 1, 1) := by decide +kernel
theorem dX12_pays_6 : decode cX12_pays 6 = .ok (.iconst 1, 1) := by decide +kernel
theorem dX12_pays_7 : decode cX12_pays 7 = .ok (.iadd, 1) := by decide +kernel
theorem dX12_pays_8 : decode cX12_pays 8 = .ok (.iconst 2, 1) := by decide +kernel
theorem dX12_pays_9 : decode cX12_pays 9 = .ok (.idiv, 1) := by decide +kernel
theorem dX12_pays_10 : decode cX12_pays 10 = .ok (.goto 20, 3) := by decide +kernel
theorem dX12_pays_13 : decode cX12_pays 13 = .ok (.iload_n 0, 1) := by decide +kernel
theorem dX12_pays_14 : decode cX12_pays 14 = .ok (.bipush 7, 2) := by decide +kernel
theorem dX12_pays_16 : decode cX12_pays 16 = .ok (.if_icmp .ne 13, 3) := by decide +kernel
theorem dX12_pays_19 : decode cX12_pays 19 = .ok (.iconst 0, 1) := by decide +kernel
theorem dX12_pays_20 : decode cX12_pays 20 = .ok (.iload_n 1, 1) := by decide +kernel
theorem dX12_pays_21 : decode cX12_pays 21 = .ok (.iconst 2, 1) := by decide +kernel
theorem dX12_pays_22 : decode cX12_pays 22 = .ok (.isub, 1) := by decide +kernel
theorem dX12_pays_23 : decode cX12_pays 23 = .ok (.invokestatic 134, 3) := by decide +kernel
theorem dX12_pays_26 : decode cX12_pays 26 = .ok (.goto 4, 3) := by decide +kernel
theorem dX12_pays_29 : decode cX12_pays 29 = .ok (.iload_n 1, 1) := by decide +kernel
theorem dX12_pays_30 : decode cX12_pays 30 = .ok (.ireturn, 1) := by decide +kernel
theorem dX12_dayOf_0 : decode cX12_dayOf 0 = .ok (.iload_n 1, 1) := by decide +kernel
theorem dX12_dayOf_1 : decode cX12_dayOf 1 = .ok (.iconst 4, 1) := by decide +kernel
theorem dX12_dayOf_2 : decode cX12_dayOf 2 = .ok (.if_icmp .ne 7, 3) := by decide +kernel
theorem dX12_dayOf_5 : decode cX12_dayOf 5 = .ok (.iconst 2, 1) := by decide +kernel
theorem dX12_dayOf_6 : decode cX12_dayOf 6 = .ok (.goto 4, 3) := by decide +kernel
theorem dX12_dayOf_9 : decode cX12_dayOf 9 = .ok (.iload_n 1, 1) := by decide +kernel
theorem dX12_dayOf_10 : decode cX12_dayOf 10 = .ok (.istore 6, 2) := by decide +kernel
theorem dX12_dayOf_12 : decode cX12_dayOf 12 = .ok (.iload_n 1, 1) := by decide +kernel
theorem dX12_dayOf_13 : decode cX12_dayOf 13 = .ok (.iconst 4, 1) := by decide +kernel
theorem dX12_dayOf_14 : decode cX12_dayOf 14 = .ok (.if_icmp .ne 15, 3) := by decide +kernel
theorem dX12_dayOf_17 : decode cX12_dayOf 17 = .ok (.aload_n 0, 1) := by decide +kernel
theorem dX12_dayOf_18 : decode cX12_dayOf 18 = .ok (.iload_n 3, 1) := by decide +kernel
theorem dX12_dayOf_19 : decode cX12_dayOf 19 = .ok (.iload 4, 2) := by decide +kernel
theorem dX12_dayOf_21 : decode cX12_dayOf 21 = .ok (.iload 5, 2) := by decide +kernel
theorem dX12_dayOf_23 : decode cX12_dayOf 23 = .ok (.invokevirtual 139, 3) := by decide +kernel
theorem dX12_dayOf_26 : decode cX12_dayOf 26 = .ok (.goto 4, 3) := by decide +kernel
theorem dX12_dayOf_29 : decode cX12_dayOf 29 = .ok (.iload_n 2, 1) := by decide +kernel
theorem dX12_dayOf_30 : decode cX12_dayOf 30 = .ok (.istore 7, 2) := by decide +kernel
theorem dX12_dayOf_32 : decode cX12_dayOf 32 = .ok (.aload_n 0, 1) := by decide +kernel
theorem dX12_dayOf_33 : decode cX12_dayOf 33 = .ok (.iconst 0, 1) := by decide +kernel
theorem dX12_dayOf_34 : decode cX12_dayOf 34 = .ok (.putfield 142, 3) := by decide +kernel
theorem dX12_dayOf_37 : decode cX12_dayOf 37 = .ok (.aload_n 0, 1) := by decide +kernel
theorem dX12_dayOf_38 : decode cX12_dayOf 38 = .ok (.iconst 0, 1) := by decide +kernel
theorem dX12_dayOf_39 : decode cX12_dayOf 39 = .ok (.putfield 146, 3) := by decide +kernel
theorem dX12_dayOf_42 : decode cX12_dayOf 42 = .ok (.aload_n 0, 1) := by decide +kernel
theorem dX12_dayOf_43 : decode cX12_dayOf 43 = .ok (.iconst 0, 1) := by decide +kernel
theorem dX12_dayOf_44 : decode cX12_dayOf 44 = .ok (.putfield 149, 3) := by decide +kernel
theorem dX12_dayOf_47 : decode cX12_dayOf 47 = .ok (.aload_n 0, 1) := by decide +kernel
theorem dX12_dayOf_48 : decode cX12_dayOf 48 = .ok (.iconst 0, 1) := by decide +kernel
theorem dX12_dayOf_49 : decode cX12_dayOf 49 = .ok (.putfield 152, 3) := by decide +kernel
theorem dX12_dayOf_52 : decode cX12_dayOf 52 = .ok (.aload_n 0, 1) := by decide +kernel
theorem dX12_dayOf_53 : decode cX12_dayOf 53 = .ok (.iconst 0, 1) := by decide +kernel
theorem dX12_dayOf_54 : decode cX12_dayOf 54 = .ok (.putfield 155, 3) := by decide +kernel
theorem dX12_dayOf_57 : decode cX12_dayOf 57 = .ok (.iload 4, 2) := by decide +kernel
theorem dX12_dayOf_59 : decode cX12_dayOf 59 = .ok (.istore 8, 2) := by decide +kernel
theorem dX12_dayOf_61 : decode cX12_dayOf 61 = .ok (.iload 4, 2) := by decide +kernel
theorem dX12_dayOf_63 : decode cX12_dayOf 63 = .ok (.istore 9, 2) := by decide +kernel
theorem dX12_dayOf_65 : decode cX12_dayOf 65 = .ok (.iconst 0, 1) := by decide +kernel
theorem dX12_dayOf_66 : decode cX12_dayOf 66 = .ok (.istore 10, 2) := by decide +kernel
theorem dX12_dayOf_68 : decode cX12_dayOf 68 = .ok (.iload 10, 2) := by decide +kernel
theorem dX12_dayOf_70 : decode cX12_dayOf 70 = .ok (.aload_n 0, 1) := by decide +kernel
theorem dX12_dayOf_71 : decode cX12_dayOf 71 = .ok (.getfield 7, 3) := by decide +kernel
theorem dX12_dayOf_74 : decode cX12_dayOf 74 = .ok (.iconst 0, 1) := by decide +kernel
theorem dX12_dayOf_75 : decode cX12_dayOf 75 = .ok (.iaload, 1) := by decide +kernel
theorem dX12_dayOf_76 : decode cX12_dayOf 76 = .ok (.if_icmp .ge 374, 3) := by decide +kernel
theorem dX12_dayOf_79 : decode cX12_dayOf 79 = .ok (.aload_n 0, 1) := by decide +kernel
theorem dX12_dayOf_80 : decode cX12_dayOf 80 = .ok (.getfield 67, 3) := by decide +kernel
theorem dX12_dayOf_83 : decode cX12_dayOf 83 = .ok (.iload 10, 2) := by decide +kernel
theorem dX12_dayOf_85 : decode cX12_dayOf 85 = .ok (.bipush (-4), 2) := by decide +kernel
theorem dX12_dayOf_87 : decode cX12_dayOf 87 = .ok (.iastore, 1) := by decide +kernel
theorem dX12_dayOf_88 : decode cX12_dayOf 88 = .ok (.aload_n 0, 1) := by decide +kernel
theorem dX12_dayOf_89 : decode cX12_dayOf 89 = .ok (.getfield 13, 3) := by decide +kernel
theorem dX12_dayOf_92 : decode cX12_dayOf 92 = .ok (.iload 10, 2) := by decide +kernel
theorem dX12_dayOf_94 : decode cX12_dayOf 94 = .ok (.iaload, 1) := by decide +kernel
theorem dX12_dayOf_95 : decode cX12_dayOf 95 = .ok (.iload 4, 2) := by decide +kernel
theorem dX12_dayOf_97 : decode cX12_dayOf 97 = .ok (.if_icmp .lt 347, 3) := by decide +kernel
theorem dX12_dayOf_100 : decode cX12_dayOf 100 = .ok (.iconst 0, 1) := by decide +kernel
theorem dX12_dayOf_101 : decode cX12_dayOf 101 = .ok (.istore 11, 2) := by decide +kernel
theorem dX12_dayOf_103 : decode cX12_dayOf 103 = .ok (.aload_n 0, 1) := by decide +kernel
theorem dX12_dayOf_104 : decode cX12_dayOf 104 = .ok (.getfield 13, 3) := by decide +kernel
theorem dX12_dayOf_107 : decode cX12_dayOf 107 = .ok (.iload 10, 2) := by decide +kernel
theorem dX12_dayOf_109 : decode cX12_dayOf 109 = .ok (.iaload, 1) := by decide +kernel
