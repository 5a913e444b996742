/-! the law: decode rows -/
theorem dL_law_1511 : decode code 1511 = .ok (.iload 4, 2) := by decide +kernel
theorem dL_law_1513 : decode code 1513 = .ok (.iconst 1, 1) := by decide +kernel
theorem dL_law_1514 : decode code 1514 = .ok (.iadd, 1) := by decide +kernel
theorem dL_law_1515 : decode code 1515 = .ok (.iaload, 1) := by decide +kernel
theorem dL_law_1516 : decode code 1516 = .ok (.invokevirtual 183, 3) := by decide +kernel
theorem dL_law_1519 : decode code 1519 = .ok (.if_icmp .eq 5, 3) := by decide +kernel
theorem dL_law_1522 : decode code 1522 = .ok (.iconst 0, 1) := by decide +kernel
theorem dL_law_1523 : decode code 1523 = .ok (.ireturn, 1) := by decide +kernel
theorem dL_law_1524 : decode code 1524 = .ok (.iinc 4 6, 3) := by decide +kernel
theorem dL_law_1527 : decode code 1527 = .ok (.goto (-1504), 3) := by decide +kernel
theorem dL_law_1530 : decode code 1530 = .ok (.iconst 1, 1) := by decide +kernel
theorem dL_law_1531 : decode code 1531 = .ok (.ireturn, 1) := by decide +kernel
