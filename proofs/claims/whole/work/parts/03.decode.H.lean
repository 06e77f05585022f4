theorem dH_max_0 : decode cH_max 0 = .ok (.iload_n 0, 1) := by decide +kernel
theorem dH_max_1 : decode cH_max 1 = .ok (.iload_n 1, 1) := by decide +kernel
theorem dH_max_2 : decode cH_max 2 = .ok (.if_icmp .lt 7, 3) := by decide +kernel
theorem dH_max_5 : decode cH_max 5 = .ok (.iload_n 0, 1) := by decide +kernel
theorem dH_max_6 : decode cH_max 6 = .ok (.goto 4, 3) := by decide +kernel
theorem dH_max_9 : decode cH_max 9 = .ok (.iload_n 1, 1) := by decide +kernel
theorem dH_max_10 : decode cH_max 10 = .ok (.ireturn, 1) := by decide +kernel
theorem dH_min_0 : decode cH_min 0 = .ok (.iload_n 0, 1) := by decide +kernel
theorem dH_min_1 : decode cH_min 1 = .ok (.iload_n 1, 1) := by decide +kernel
theorem dH_min_2 : decode cH_min 2 = .ok (.if_icmp .gt 7, 3) := by decide +kernel
theorem dH_min_5 : decode cH_min 5 = .ok (.iload_n 0, 1) := by decide +kernel
theorem dH_min_6 : decode cH_min 6 = .ok (.goto 4, 3) := by decide +kernel
theorem dH_min_9 : decode cH_min 9 = .ok (.iload_n 1, 1) := by decide +kernel
theorem dH_min_10 : decode cH_min 10 = .ok (.ireturn, 1) := by decide +kernel
