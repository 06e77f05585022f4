theorem dL_init_0 : decode cL_init 0 = .ok (.aload_n 0, 1) := by decide +kernel
theorem dL_init_1 : decode cL_init 1 = .ok (.invokespecial 3, 3) := by decide +kernel
theorem dL_init_4 : decode cL_init 4 = .ok (.aload_n 0, 1) := by decide +kernel
theorem dL_init_5 : decode cL_init 5 = .ok (.bipush 24, 2) := by decide +kernel
theorem dL_init_7 : decode cL_init 7 = .ok (.newarray .int, 2) := by decide +kernel
theorem dL_init_9 : decode cL_init 9 = .ok (.putfield 9, 3) := by decide +kernel
theorem dL_init_12 : decode cL_init 12 = .ok (.return_, 1) := by decide +kernel
theorem dL_taskAt_0 : decode cL_taskAt 0 = .ok (.iload_n 1, 1) := by decide +kernel
theorem dL_taskAt_1 : decode cL_taskAt 1 = .ok (.ifCond .lt 11, 3) := by decide +kernel
theorem dL_taskAt_4 : decode cL_taskAt 4 = .ok (.iload_n 1, 1) := by decide +kernel
theorem dL_taskAt_5 : decode cL_taskAt 5 = .ok (.aload_n 0, 1) := by decide +kernel
theorem dL_taskAt_6 : decode cL_taskAt 6 = .ok (.getfield 15, 3) := by decide +kernel
theorem dL_taskAt_9 : decode cL_taskAt 9 = .ok (.if_icmp .lt 7, 3) := by decide +kernel
theorem dL_taskAt_12 : decode cL_taskAt 12 = .ok (.iconst (-1), 1) := by decide +kernel
theorem dL_taskAt_13 : decode cL_taskAt 13 = .ok (.goto 9, 3) := by decide +kernel
theorem dL_taskAt_16 : decode cL_taskAt 16 = .ok (.aload_n 0, 1) := by decide +kernel
theorem dL_taskAt_17 : decode cL_taskAt 17 = .ok (.getfield 9, 3) := by decide +kernel
theorem dL_taskAt_20 : decode cL_taskAt 20 = .ok (.iload_n 1, 1) := by decide +kernel
theorem dL_taskAt_21 : decode cL_taskAt 21 = .ok (.iaload, 1) := by decide +kernel
theorem dL_taskAt_22 : decode cL_taskAt 22 = .ok (.ireturn, 1) := by decide +kernel
theorem dL_append_0 : decode cL_append 0 = .ok (.aload_n 0, 1) := by decide +kernel
theorem dL_append_1 : decode cL_append 1 = .ok (.getfield 15, 3) := by decide +kernel
theorem dL_append_4 : decode cL_append 4 = .ok (.aload_n 0, 1) := by decide +kernel
theorem dL_append_5 : decode cL_append 5 = .ok (.getfield 9, 3) := by decide +kernel
theorem dL_append_8 : decode cL_append 8 = .ok (.arraylength, 1) := by decide +kernel
theorem dL_append_9 : decode cL_append 9 = .ok (.if_icmp .ge 23, 3) := by decide +kernel
theorem dL_append_12 : decode cL_append 12 = .ok (.aload_n 0, 1) := by decide +kernel
theorem dL_append_13 : decode cL_append 13 = .ok (.getfield 9, 3) := by decide +kernel
theorem dL_append_16 : decode cL_append 16 = .ok (.aload_n 0, 1) := by decide +kernel
theorem dL_append_17 : decode cL_append 17 = .ok (.getfield 15, 3) := by decide +kernel
theorem dL_append_20 : decode cL_append 20 = .ok (.iload_n 1, 1) := by decide +kernel
theorem dL_append_21 : decode cL_append 21 = .ok (.iastore, 1) := by decide +kernel
theorem dL_append_22 : decode cL_append 22 = .ok (.aload_n 0, 1) := by decide +kernel
theorem dL_append_23 : decode cL_append 23 = .ok (.dup, 1) := by decide +kernel
theorem dL_append_24 : decode cL_append 24 = .ok (.getfield 15, 3) := by decide +kernel
theorem dL_append_27 : decode cL_append 27 = .ok (.iconst 1, 1) := by decide +kernel
theorem dL_append_28 : decode cL_append 28 = .ok (.iadd, 1) := by decide +kernel
theorem dL_append_29 : decode cL_append 29 = .ok (.putfield 15, 3) := by decide +kernel
theorem dL_append_32 : decode cL_append 32 = .ok (.return_, 1) := by decide +kernel
theorem dL_takeOut_0 : decode cL_takeOut 0 = .ok (.aload_n 0, 1) := by decide +kernel
theorem dL_takeOut_1 : decode cL_takeOut 1 = .ok (.iload_n 1, 1) := by decide +kernel
theorem dL_takeOut_2 : decode cL_takeOut 2 = .ok (.invokevirtual 19, 3) := by decide +kernel
theorem dL_takeOut_5 : decode cL_takeOut 5 = .ok (.istore_n 2, 1) := by decide +kernel
theorem dL_takeOut_6 : decode cL_takeOut 6 = .ok (.iload_n 2, 1) := by decide +kernel
theorem dL_takeOut_7 : decode cL_takeOut 7 = .ok (.iconst (-1), 1) := by decide +kernel
theorem dL_takeOut_8 : decode cL_takeOut 8 = .ok (.if_icmp .ne 5, 3) := by decide +kernel
theorem dL_takeOut_11 : decode cL_takeOut 11 = .ok (.iconst (-1), 1) := by decide +kernel
theorem dL_takeOut_12 : decode cL_takeOut 12 = .ok (.ireturn, 1) := by decide +kernel
theorem dL_takeOut_13 : decode cL_takeOut 13 = .ok (.aload_n 0, 1) := by decide +kernel
theorem dL_takeOut_14 : decode cL_takeOut 14 = .ok (.dup, 1) := by decide +kernel
theorem dL_takeOut_15 : decode cL_takeOut 15 = .ok (.getfield 15, 3) := by decide +kernel
theorem dL_takeOut_18 : decode cL_takeOut 18 = .ok (.iconst 1, 1) := by decide +kernel
theorem dL_takeOut_19 : decode cL_takeOut 19 = .ok (.isub, 1) := by decide +kernel
theorem dL_takeOut_20 : decode cL_takeOut 20 = .ok (.putfield 15, 3) := by decide +kernel
theorem dL_takeOut_23 : decode cL_takeOut 23 = .ok (.iload_n 1, 1) := by decide +kernel
theorem dL_takeOut_24 : decode cL_takeOut 24 = .ok (.istore_n 3, 1) := by decide +kernel
theorem dL_takeOut_25 : decode cL_takeOut 25 = .ok (.iload_n 3, 1) := by decide +kernel
theorem dL_takeOut_26 : decode cL_takeOut 26 = .ok (.aload_n 0, 1) := by decide +kernel
theorem dL_takeOut_27 : decode cL_takeOut 27 = .ok (.getfield 15, 3) := by decide +kernel
theorem dL_takeOut_30 : decode cL_takeOut 30 = .ok (.if_icmp .ge 23, 3) := by decide +kernel
theorem dL_takeOut_33 : decode cL_takeOut 33 = .ok (.aload_n 0, 1) := by decide +kernel
theorem dL_takeOut_34 : decode cL_takeOut 34 = .ok (.getfield 9, 3) := by decide +kernel
theorem dL_takeOut_37 : decode cL_takeOut 37 = .ok (.iload_n 3, 1) := by decide +kernel
theorem dL_takeOut_38 : decode cL_takeOut 38 = .ok (.aload_n 0, 1) := by decide +kernel
theorem dL_takeOut_39 : decode cL_takeOut 39 = .ok (.getfield 9, 3) := by decide +kernel
theorem dL_takeOut_42 : decode cL_takeOut 42 = .ok (.iload_n 3, 1) := by decide +kernel
theorem dL_takeOut_43 : decode cL_takeOut 43 = .ok (.iconst 1, 1) := by decide +kernel
theorem dL_takeOut_44 : decode cL_takeOut 44 = .ok (.iadd, 1) := by decide +kernel
theorem dL_takeOut_45 : decode cL_takeOut 45 = .ok (.iaload, 1) := by decide +kernel
theorem dL_takeOut_46 : decode cL_takeOut 46 = .ok (.iastore, 1) := by decide +kernel
theorem dL_takeOut_47 : decode cL_takeOut 47 = .ok (.iinc 3 1, 3) := by decide +kernel
theorem dL_takeOut_50 : decode cL_takeOut 50 = .ok (.goto (-25), 3) := by decide +kernel
theorem dL_takeOut_53 : decode cL_takeOut 53 = .ok (.iload_n 2, 1) := by decide +kernel
theorem dL_takeOut_54 : decode cL_takeOut 54 = .ok (.ireturn, 1) := by decide +kernel
