theorem dP_init_0 : decode cP_init 0 = .ok (.aload_n 0, 1) := by decide +kernel
theorem dP_init_1 : decode cP_init 1 = .ok (.invokespecial 3, 3) := by decide +kernel
theorem dP_init_4 : decode cP_init 4 = .ok (.aload_n 0, 1) := by decide +kernel
theorem dP_init_5 : decode cP_init 5 = .ok (.iconst 4, 1) := by decide +kernel
theorem dP_init_6 : decode cP_init 6 = .ok (.newarray .int, 2) := by decide +kernel
theorem dP_init_8 : decode cP_init 8 = .ok (.putfield 9, 3) := by decide +kernel
theorem dP_init_11 : decode cP_init 11 = .ok (.aload_n 0, 1) := by decide +kernel
theorem dP_init_12 : decode cP_init 12 = .ok (.iconst 4, 1) := by decide +kernel
theorem dP_init_13 : decode cP_init 13 = .ok (.newarray .int, 2) := by decide +kernel
theorem dP_init_15 : decode cP_init 15 = .ok (.putfield 15, 3) := by decide +kernel
theorem dP_init_18 : decode cP_init 18 = .ok (.aload_n 0, 1) := by decide +kernel
theorem dP_init_19 : decode cP_init 19 = .ok (.getfield 9, 3) := by decide +kernel
theorem dP_init_22 : decode cP_init 22 = .ok (.iconst 1, 1) := by decide +kernel
theorem dP_init_23 : decode cP_init 23 = .ok (.invokestatic 18, 3) := by decide +kernel
theorem dP_init_26 : decode cP_init 26 = .ok (.return_, 1) := by decide +kernel
theorem dP_areFree_0 : decode cP_areFree 0 = .ok (.iconst 0, 1) := by decide +kernel
theorem dP_areFree_1 : decode cP_areFree 1 = .ok (.istore_n 2, 1) := by decide +kernel
theorem dP_areFree_2 : decode cP_areFree 2 = .ok (.iload_n 2, 1) := by decide +kernel
theorem dP_areFree_3 : decode cP_areFree 3 = .ok (.iconst 4, 1) := by decide +kernel
theorem dP_areFree_4 : decode cP_areFree 4 = .ok (.if_icmp .ge 34, 3) := by decide +kernel
theorem dP_areFree_7 : decode cP_areFree 7 = .ok (.iload_n 1, 1) := by decide +kernel
theorem dP_areFree_8 : decode cP_areFree 8 = .ok (.iload_n 2, 1) := by decide +kernel
theorem dP_areFree_9 : decode cP_areFree 9 = .ok (.invokestatic 24, 3) := by decide +kernel
theorem dP_areFree_12 : decode cP_areFree 12 = .ok (.ifCond .eq 20, 3) := by decide +kernel
theorem dP_areFree_15 : decode cP_areFree 15 = .ok (.aload_n 0, 1) := by decide +kernel
theorem dP_areFree_16 : decode cP_areFree 16 = .ok (.getfield 15, 3) := by decide +kernel
theorem dP_areFree_19 : decode cP_areFree 19 = .ok (.iload_n 2, 1) := by decide +kernel
theorem dP_areFree_20 : decode cP_areFree 20 = .ok (.iaload, 1) := by decide +kernel
theorem dP_areFree_21 : decode cP_areFree 21 = .ok (.aload_n 0, 1) := by decide +kernel
theorem dP_areFree_22 : decode cP_areFree 22 = .ok (.getfield 9, 3) := by decide +kernel
theorem dP_areFree_25 : decode cP_areFree 25 = .ok (.iload_n 2, 1) := by decide +kernel
theorem dP_areFree_26 : decode cP_areFree 26 = .ok (.iaload, 1) := by decide +kernel
theorem dP_areFree_27 : decode cP_areFree 27 = .ok (.if_icmp .lt 5, 3) := by decide +kernel
theorem dP_areFree_30 : decode cP_areFree 30 = .ok (.iconst 0, 1) := by decide +kernel
theorem dP_areFree_31 : decode cP_areFree 31 = .ok (.ireturn, 1) := by decide +kernel
theorem dP_areFree_32 : decode cP_areFree 32 = .ok (.iinc 2 1, 3) := by decide +kernel
theorem dP_areFree_35 : decode cP_areFree 35 = .ok (.goto (-33), 3) := by decide +kernel
theorem dP_areFree_38 : decode cP_areFree 38 = .ok (.iconst 1, 1) := by decide +kernel
theorem dP_areFree_39 : decode cP_areFree 39 = .ok (.ireturn, 1) := by decide +kernel
theorem dP_hold_0 : decode cP_hold 0 = .ok (.iconst 0, 1) := by decide +kernel
theorem dP_hold_1 : decode cP_hold 1 = .ok (.istore_n 2, 1) := by decide +kernel
theorem dP_hold_2 : decode cP_hold 2 = .ok (.iload_n 2, 1) := by decide +kernel
theorem dP_hold_3 : decode cP_hold 3 = .ok (.iconst 4, 1) := by decide +kernel
theorem dP_hold_4 : decode cP_hold 4 = .ok (.if_icmp .ge 27, 3) := by decide +kernel
theorem dP_hold_7 : decode cP_hold 7 = .ok (.iload_n 1, 1) := by decide +kernel
theorem dP_hold_8 : decode cP_hold 8 = .ok (.iload_n 2, 1) := by decide +kernel
theorem dP_hold_9 : decode cP_hold 9 = .ok (.invokestatic 24, 3) := by decide +kernel
theorem dP_hold_12 : decode cP_hold 12 = .ok (.ifCond .eq 13, 3) := by decide +kernel
theorem dP_hold_15 : decode cP_hold 15 = .ok (.aload_n 0, 1) := by decide +kernel
theorem dP_hold_16 : decode cP_hold 16 = .ok (.getfield 15, 3) := by decide +kernel
theorem dP_hold_19 : decode cP_hold 19 = .ok (.iload_n 2, 1) := by decide +kernel
theorem dP_hold_20 : decode cP_hold 20 = .ok (.dup2, 1) := by decide +kernel
theorem dP_hold_21 : decode cP_hold 21 = .ok (.iaload, 1) := by decide +kernel
theorem dP_hold_22 : decode cP_hold 22 = .ok (.iconst 1, 1) := by decide +kernel
theorem dP_hold_23 : decode cP_hold 23 = .ok (.iadd, 1) := by decide +kernel
theorem dP_hold_24 : decode cP_hold 24 = .ok (.iastore, 1) := by decide +kernel
theorem dP_hold_25 : decode cP_hold 25 = .ok (.iinc 2 1, 3) := by decide +kernel
theorem dP_hold_28 : decode cP_hold 28 = .ok (.goto (-26), 3) := by decide +kernel
theorem dP_hold_31 : decode cP_hold 31 = .ok (.return_, 1) := by decide +kernel
theorem dP_giveBack_0 : decode cP_giveBack 0 = .ok (.iconst 0, 1) := by decide +kernel
theorem dP_giveBack_1 : decode cP_giveBack 1 = .ok (.istore_n 2, 1) := by decide +kernel
theorem dP_giveBack_2 : decode cP_giveBack 2 = .ok (.iload_n 2, 1) := by decide +kernel
theorem dP_giveBack_3 : decode cP_giveBack 3 = .ok (.iconst 4, 1) := by decide +kernel
theorem dP_giveBack_4 : decode cP_giveBack 4 = .ok (.if_icmp .ge 27, 3) := by decide +kernel
theorem dP_giveBack_7 : decode cP_giveBack 7 = .ok (.iload_n 1, 1) := by decide +kernel
theorem dP_giveBack_8 : decode cP_giveBack 8 = .ok (.iload_n 2, 1) := by decide +kernel
theorem dP_giveBack_9 : decode cP_giveBack 9 = .ok (.invokestatic 24, 3) := by decide +kernel
theorem dP_giveBack_12 : decode cP_giveBack 12 = .ok (.ifCond .eq 13, 3) := by decide +kernel
theorem dP_giveBack_15 : decode cP_giveBack 15 = .ok (.aload_n 0, 1) := by decide +kernel
theorem dP_giveBack_16 : decode cP_giveBack 16 = .ok (.getfield 15, 3) := by decide +kernel
theorem dP_giveBack_19 : decode cP_giveBack 19 = .ok (.iload_n 2, 1) := by decide +kernel
theorem dP_giveBack_20 : decode cP_giveBack 20 = .ok (.dup2, 1) := by decide +kernel
theorem dP_giveBack_21 : decode cP_giveBack 21 = .ok (.iaload, 1) := by decide +kernel
theorem dP_giveBack_22 : decode cP_giveBack 22 = .ok (.iconst 1, 1) := by decide +kernel
theorem dP_giveBack_23 : decode cP_giveBack 23 = .ok (.isub, 1) := by decide +kernel
theorem dP_giveBack_24 : decode cP_giveBack 24 = .ok (.iastore, 1) := by decide +kernel
theorem dP_giveBack_25 : decode cP_giveBack 25 = .ok (.iinc 2 1, 3) := by decide +kernel
theorem dP_giveBack_28 : decode cP_giveBack 28 = .ok (.goto (-26), 3) := by decide +kernel
theorem dP_giveBack_31 : decode cP_giveBack 31 = .ok (.return_, 1) := by decide +kernel
theorem dP_isIn_0 : decode cP_isIn 0 = .ok (.iload_n 0, 1) := by decide +kernel
theorem dP_isIn_1 : decode cP_isIn 1 = .ok (.iconst 1, 1) := by decide +kernel
theorem dP_isIn_2 : decode cP_isIn 2 = .ok (.iload_n 1, 1) := by decide +kernel
theorem dP_isIn_3 : decode cP_isIn 3 = .ok (.ishl, 1) := by decide +kernel
theorem dP_isIn_4 : decode cP_isIn 4 = .ok (.iand, 1) := by decide +kernel
theorem dP_isIn_5 : decode cP_isIn 5 = .ok (.ifCond .eq 7, 3) := by decide +kernel
theorem dP_isIn_8 : decode cP_isIn 8 = .ok (.iconst 1, 1) := by decide +kernel
theorem dP_isIn_9 : decode cP_isIn 9 = .ok (.goto 4, 3) := by decide +kernel
theorem dP_isIn_12 : decode cP_isIn 12 = .ok (.iconst 0, 1) := by decide +kernel
theorem dP_isIn_13 : decode cP_isIn 13 = .ok (.ireturn, 1) := by decide +kernel
