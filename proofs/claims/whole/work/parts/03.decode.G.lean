theorem dG_init_0 : decode cG_init 0 = .ok (.aload_n 0, 1) := by decide +kernel
theorem dG_init_1 : decode cG_init 1 = .ok (.invokespecial 3, 3) := by decide +kernel
theorem dG_init_4 : decode cG_init 4 = .ok (.aload_n 0, 1) := by decide +kernel
theorem dG_init_5 : decode cG_init 5 = .ok (.bipush 24, 2) := by decide +kernel
theorem dG_init_7 : decode cG_init 7 = .ok (.newarray .int, 2) := by decide +kernel
theorem dG_init_9 : decode cG_init 9 = .ok (.putfield 9, 3) := by decide +kernel
theorem dG_init_12 : decode cG_init 12 = .ok (.aload_n 0, 1) := by decide +kernel
theorem dG_init_13 : decode cG_init 13 = .ok (.bipush 24, 2) := by decide +kernel
theorem dG_init_15 : decode cG_init 15 = .ok (.newarray .int, 2) := by decide +kernel
theorem dG_init_17 : decode cG_init 17 = .ok (.putfield 15, 3) := by decide +kernel
theorem dG_init_20 : decode cG_init 20 = .ok (.aload_n 0, 1) := by decide +kernel
theorem dG_init_21 : decode cG_init 21 = .ok (.bipush 24, 2) := by decide +kernel
theorem dG_init_23 : decode cG_init 23 = .ok (.newarray .int, 2) := by decide +kernel
theorem dG_init_25 : decode cG_init 25 = .ok (.putfield 18, 3) := by decide +kernel
theorem dG_init_28 : decode cG_init 28 = .ok (.aload_n 0, 1) := by decide +kernel
theorem dG_init_29 : decode cG_init 29 = .ok (.bipush 24, 2) := by decide +kernel
theorem dG_init_31 : decode cG_init 31 = .ok (.newarray .int, 2) := by decide +kernel
theorem dG_init_33 : decode cG_init 33 = .ok (.putfield 21, 3) := by decide +kernel
theorem dG_init_36 : decode cG_init 36 = .ok (.aload_n 0, 1) := by decide +kernel
theorem dG_init_37 : decode cG_init 37 = .ok (.bipush 24, 2) := by decide +kernel
theorem dG_init_39 : decode cG_init 39 = .ok (.bipush 6, 2) := by decide +kernel
theorem dG_init_41 : decode cG_init 41 = .ok (.multianewarray 24 2, 4) := by decide +kernel
theorem dG_init_45 : decode cG_init 45 = .ok (.putfield 26, 3) := by decide +kernel
theorem dG_init_48 : decode cG_init 48 = .ok (.aload_n 0, 1) := by decide +kernel
theorem dG_init_49 : decode cG_init 49 = .ok (.bipush 24, 2) := by decide +kernel
theorem dG_init_51 : decode cG_init 51 = .ok (.newarray .int, 2) := by decide +kernel
theorem dG_init_53 : decode cG_init 53 = .ok (.putfield 29, 3) := by decide +kernel
theorem dG_init_56 : decode cG_init 56 = .ok (.aload_n 0, 1) := by decide +kernel
theorem dG_init_57 : decode cG_init 57 = .ok (.bipush 24, 2) := by decide +kernel
theorem dG_init_59 : decode cG_init 59 = .ok (.newarray .int, 2) := by decide +kernel
theorem dG_init_61 : decode cG_init 61 = .ok (.putfield 32, 3) := by decide +kernel
theorem dG_init_64 : decode cG_init 64 = .ok (.aload_n 0, 1) := by decide +kernel
theorem dG_init_65 : decode cG_init 65 = .ok (.bipush 24, 2) := by decide +kernel
theorem dG_init_67 : decode cG_init 67 = .ok (.newarray .int, 2) := by decide +kernel
theorem dG_init_69 : decode cG_init 69 = .ok (.putfield 35, 3) := by decide +kernel
theorem dG_init_72 : decode cG_init 72 = .ok (.return_, 1) := by decide +kernel
theorem dG_isTask_0 : decode cG_isTask 0 = .ok (.iload_n 1, 1) := by decide +kernel
theorem dG_isTask_1 : decode cG_isTask 1 = .ok (.ifCond .lt 15, 3) := by decide +kernel
theorem dG_isTask_4 : decode cG_isTask 4 = .ok (.iload_n 1, 1) := by decide +kernel
theorem dG_isTask_5 : decode cG_isTask 5 = .ok (.aload_n 0, 1) := by decide +kernel
theorem dG_isTask_6 : decode cG_isTask 6 = .ok (.getfield 38, 3) := by decide +kernel
theorem dG_isTask_9 : decode cG_isTask 9 = .ok (.if_icmp .ge 7, 3) := by decide +kernel
theorem dG_isTask_12 : decode cG_isTask 12 = .ok (.iconst 1, 1) := by decide +kernel
theorem dG_isTask_13 : decode cG_isTask 13 = .ok (.goto 4, 3) := by decide +kernel
theorem dG_isTask_16 : decode cG_isTask 16 = .ok (.iconst 0, 1) := by decide +kernel
theorem dG_isTask_17 : decode cG_isTask 17 = .ok (.ireturn, 1) := by decide +kernel
theorem dG_isSource_0 : decode cG_isSource 0 = .ok (.aload_n 0, 1) := by decide +kernel
theorem dG_isSource_1 : decode cG_isSource 1 = .ok (.getfield 32, 3) := by decide +kernel
theorem dG_isSource_4 : decode cG_isSource 4 = .ok (.iload_n 1, 1) := by decide +kernel
theorem dG_isSource_5 : decode cG_isSource 5 = .ok (.iaload, 1) := by decide +kernel
theorem dG_isSource_6 : decode cG_isSource 6 = .ok (.ifCond .ne 7, 3) := by decide +kernel
theorem dG_isSource_9 : decode cG_isSource 9 = .ok (.iconst 1, 1) := by decide +kernel
theorem dG_isSource_10 : decode cG_isSource 10 = .ok (.goto 4, 3) := by decide +kernel
theorem dG_isSource_13 : decode cG_isSource 13 = .ok (.iconst 0, 1) := by decide +kernel
theorem dG_isSource_14 : decode cG_isSource 14 = .ok (.ireturn, 1) := by decide +kernel
theorem dG_canHoldChildren_0 : decode cG_canHoldChildren 0 = .ok (.aload_n 0, 1) := by decide +kernel
theorem dG_canHoldChildren_1 : decode cG_canHoldChildren 1 = .ok (.getfield 9, 3) := by decide +kernel
theorem dG_canHoldChildren_4 : decode cG_canHoldChildren 4 = .ok (.iload_n 1, 1) := by decide +kernel
theorem dG_canHoldChildren_5 : decode cG_canHoldChildren 5 = .ok (.iaload, 1) := by decide +kernel
theorem dG_canHoldChildren_6 : decode cG_canHoldChildren 6 = .ok (.iconst 2, 1) := by decide +kernel
theorem dG_canHoldChildren_7 : decode cG_canHoldChildren 7 = .ok (.if_icmp .eq 13, 3) := by decide +kernel
theorem dG_canHoldChildren_10 : decode cG_canHoldChildren 10 = .ok (.aload_n 0, 1) := by decide +kernel
theorem dG_canHoldChildren_11 : decode cG_canHoldChildren 11 = .ok (.getfield 9, 3) := by decide +kernel
theorem dG_canHoldChildren_14 : decode cG_canHoldChildren 14 = .ok (.iload_n 1, 1) := by decide +kernel
theorem dG_canHoldChildren_15 : decode cG_canHoldChildren 15 = .ok (.iaload, 1) := by decide +kernel
theorem dG_canHoldChildren_16 : decode cG_canHoldChildren 16 = .ok (.iconst 3, 1) := by decide +kernel
theorem dG_canHoldChildren_17 : decode cG_canHoldChildren 17 = .ok (.if_icmp .ne 7, 3) := by decide +kernel
theorem dG_canHoldChildren_20 : decode cG_canHoldChildren 20 = .ok (.iconst 1, 1) := by decide +kernel
theorem dG_canHoldChildren_21 : decode cG_canHoldChildren 21 = .ok (.goto 4, 3) := by decide +kernel
theorem dG_canHoldChildren_24 : decode cG_canHoldChildren 24 = .ok (.iconst 0, 1) := by decide +kernel
theorem dG_canHoldChildren_25 : decode cG_canHoldChildren 25 = .ok (.ireturn, 1) := by decide +kernel
theorem dG_takesTask_0 : decode cG_takesTask 0 = .ok (.aload_n 0, 1) := by decide +kernel
theorem dG_takesTask_1 : decode cG_takesTask 1 = .ok (.getfield 38, 3) := by decide +kernel
theorem dG_takesTask_4 : decode cG_takesTask 4 = .ok (.bipush 24, 2) := by decide +kernel
theorem dG_takesTask_6 : decode cG_takesTask 6 = .ok (.if_icmp .ge 12, 3) := by decide +kernel
theorem dG_takesTask_9 : decode cG_takesTask 9 = .ok (.iload_n 1, 1) := by decide +kernel
theorem dG_takesTask_10 : decode cG_takesTask 10 = .ok (.ifCond .lt 8, 3) := by decide +kernel
theorem dG_takesTask_13 : decode cG_takesTask 13 = .ok (.iload_n 1, 1) := by decide +kernel
theorem dG_takesTask_14 : decode cG_takesTask 14 = .ok (.iconst 3, 1) := by decide +kernel
theorem dG_takesTask_15 : decode cG_takesTask 15 = .ok (.if_icmp .le 5, 3) := by decide +kernel
theorem dG_takesTask_18 : decode cG_takesTask 18 = .ok (.iconst 0, 1) := by decide +kernel
theorem dG_takesTask_19 : decode cG_takesTask 19 = .ok (.ireturn, 1) := by decide +kernel
theorem dG_takesTask_20 : decode cG_takesTask 20 = .ok (.iload_n 3, 1) := by decide +kernel
theorem dG_takesTask_21 : decode cG_takesTask 21 = .ok (.ifCond .lt 9, 3) := by decide +kernel
theorem dG_takesTask_24 : decode cG_takesTask 24 = .ok (.iload_n 3, 1) := by decide +kernel
theorem dG_takesTask_25 : decode cG_takesTask 25 = .ok (.bipush 15, 2) := by decide +kernel
theorem dG_takesTask_27 : decode cG_takesTask 27 = .ok (.if_icmp .le 5, 3) := by decide +kernel
theorem dG_takesTask_30 : decode cG_takesTask 30 = .ok (.iconst 0, 1) := by decide +kernel
theorem dG_takesTask_31 : decode cG_takesTask 31 = .ok (.ireturn, 1) := by decide +kernel
theorem dG_takesTask_32 : decode cG_takesTask 32 = .ok (.iload_n 2, 1) := by decide +kernel
theorem dG_takesTask_33 : decode cG_takesTask 33 = .ok (.iconst (-1), 1) := by decide +kernel
theorem dG_takesTask_34 : decode cG_takesTask 34 = .ok (.if_icmp .eq 29, 3) := by decide +kernel
theorem dG_takesTask_37 : decode cG_takesTask 37 = .ok (.aload_n 0, 1) := by decide +kernel
theorem dG_takesTask_38 : decode cG_takesTask 38 = .ok (.iload_n 2, 1) := by decide +kernel
theorem dG_takesTask_39 : decode cG_takesTask 39 = .ok (.invokevirtual 42, 3) := by decide +kernel
theorem dG_takesTask_42 : decode cG_takesTask 42 = .ok (.ifCond .eq 25, 3) := by decide +kernel
theorem dG_takesTask_45 : decode cG_takesTask 45 = .ok (.aload_n 0, 1) := by decide +kernel
theorem dG_takesTask_46 : decode cG_takesTask 46 = .ok (.iload_n 2, 1) := by decide +kernel
theorem dG_takesTask_47 : decode cG_takesTask 47 = .ok (.invokevirtual 46, 3) := by decide +kernel
theorem dG_takesTask_50 : decode cG_takesTask 50 = .ok (.ifCond .eq 17, 3) := by decide +kernel
theorem dG_takesTask_53 : decode cG_takesTask 53 = .ok (.aload_n 0, 1) := by decide +kernel
theorem dG_takesTask_54 : decode cG_takesTask 54 = .ok (.getfield 18, 3) := by decide +kernel
theorem dG_takesTask_57 : decode cG_takesTask 57 = .ok (.iload_n 2, 1) := by decide +kernel
theorem dG_takesTask_58 : decode cG_takesTask 58 = .ok (.iaload, 1) := by decide +kernel
theorem dG_takesTask_59 : decode cG_takesTask 59 = .ok (.iconst 3, 1) := by decide +kernel
theorem dG_takesTask_60 : decode cG_takesTask 60 = .ok (.if_icmp .ge 7, 3) := by decide +kernel
theorem dG_takesTask_63 : decode cG_takesTask 63 = .ok (.iconst 1, 1) := by decide +kernel
theorem dG_takesTask_64 : decode cG_takesTask 64 = .ok (.goto 4, 3) := by decide +kernel
theorem dG_takesTask_67 : decode cG_takesTask 67 = .ok (.iconst 0, 1) := by decide +kernel
theorem dG_takesTask_68 : decode cG_takesTask 68 = .ok (.ireturn, 1) := by decide +kernel
theorem dG_addTask_0 : decode cG_addTask 0 = .ok (.aload_n 0, 1) := by decide +kernel
theorem dG_addTask_1 : decode cG_addTask 1 = .ok (.getfield 38, 3) := by decide +kernel
theorem dG_addTask_4 : decode cG_addTask 4 = .ok (.istore 4, 2) := by decide +kernel
theorem dG_addTask_6 : decode cG_addTask 6 = .ok (.aload_n 0, 1) := by decide +kernel
theorem dG_addTask_7 : decode cG_addTask 7 = .ok (.getfield 9, 3) := by decide +kernel
theorem dG_addTask_10 : decode cG_addTask 10 = .ok (.iload 4, 2) := by decide +kernel
theorem dG_addTask_12 : decode cG_addTask 12 = .ok (.iload_n 1, 1) := by decide +kernel
theorem dG_addTask_13 : decode cG_addTask 13 = .ok (.iastore, 1) := by decide +kernel
theorem dG_addTask_14 : decode cG_addTask 14 = .ok (.aload_n 0, 1) := by decide +kernel
theorem dG_addTask_15 : decode cG_addTask 15 = .ok (.getfield 15, 3) := by decide +kernel
theorem dG_addTask_18 : decode cG_addTask 18 = .ok (.iload 4, 2) := by decide +kernel
theorem dG_addTask_20 : decode cG_addTask 20 = .ok (.iload_n 2, 1) := by decide +kernel
theorem dG_addTask_21 : decode cG_addTask 21 = .ok (.iastore, 1) := by decide +kernel
theorem dG_addTask_22 : decode cG_addTask 22 = .ok (.aload_n 0, 1) := by decide +kernel
theorem dG_addTask_23 : decode cG_addTask 23 = .ok (.getfield 18, 3) := by decide +kernel
theorem dG_addTask_26 : decode cG_addTask 26 = .ok (.iload 4, 2) := by decide +kernel
theorem dG_addTask_28 : decode cG_addTask 28 = .ok (.iload_n 2, 1) := by decide +kernel
theorem dG_addTask_29 : decode cG_addTask 29 = .ok (.iconst (-1), 1) := by decide +kernel
theorem dG_addTask_30 : decode cG_addTask 30 = .ok (.if_icmp .ne 7, 3) := by decide +kernel
theorem dG_addTask_33 : decode cG_addTask 33 = .ok (.iconst 0, 1) := by decide +kernel
theorem dG_addTask_34 : decode cG_addTask 34 = .ok (.goto 11, 3) := by decide +kernel
theorem dG_addTask_37 : decode cG_addTask 37 = .ok (.aload_n 0, 1) := by decide +kernel
theorem dG_addTask_38 : decode cG_addTask 38 = .ok (.getfield 18, 3) := by decide +kernel
theorem dG_addTask_41 : decode cG_addTask 41 = .ok (.iload_n 2, 1) := by decide +kernel
theorem dG_addTask_42 : decode cG_addTask 42 = .ok (.iaload, 1) := by decide +kernel
theorem dG_addTask_43 : decode cG_addTask 43 = .ok (.iconst 1, 1) := by decide +kernel
theorem dG_addTask_44 : decode cG_addTask 44 = .ok (.iadd, 1) := by decide +kernel
theorem dG_addTask_45 : decode cG_addTask 45 = .ok (.iastore, 1) := by decide +kernel
theorem dG_addTask_46 : decode cG_addTask 46 = .ok (.aload_n 0, 1) := by decide +kernel
theorem dG_addTask_47 : decode cG_addTask 47 = .ok (.getfield 21, 3) := by decide +kernel
theorem dG_addTask_50 : decode cG_addTask 50 = .ok (.iload 4, 2) := by decide +kernel
theorem dG_addTask_52 : decode cG_addTask 52 = .ok (.iload_n 3, 1) := by decide +kernel
theorem dG_addTask_53 : decode cG_addTask 53 = .ok (.iastore, 1) := by decide +kernel
theorem dG_addTask_54 : decode cG_addTask 54 = .ok (.aload_n 0, 1) := by decide +kernel
theorem dG_addTask_55 : decode cG_addTask 55 = .ok (.dup, 1) := by decide +kernel
theorem dG_addTask_56 : decode cG_addTask 56 = .ok (.getfield 38, 3) := by decide +kernel
theorem dG_addTask_59 : decode cG_addTask 59 = .ok (.iconst 1, 1) := by decide +kernel
theorem dG_addTask_60 : decode cG_addTask 60 = .ok (.iadd, 1) := by decide +kernel
theorem dG_addTask_61 : decode cG_addTask 61 = .ok (.putfield 38, 3) := by decide +kernel
theorem dG_addTask_64 : decode cG_addTask 64 = .ok (.iload 4, 2) := by decide +kernel
theorem dG_addTask_66 : decode cG_addTask 66 = .ok (.ireturn, 1) := by decide +kernel
theorem dG_takesEdge_0 : decode cG_takesEdge 0 = .ok (.aload_n 0, 1) := by decide +kernel
theorem dG_takesEdge_1 : decode cG_takesEdge 1 = .ok (.iload_n 1, 1) := by decide +kernel
theorem dG_takesEdge_2 : decode cG_takesEdge 2 = .ok (.invokevirtual 42, 3) := by decide +kernel
theorem dG_takesEdge_5 : decode cG_takesEdge 5 = .ok (.ifCond .eq 50, 3) := by decide +kernel
theorem dG_takesEdge_8 : decode cG_takesEdge 8 = .ok (.aload_n 0, 1) := by decide +kernel
theorem dG_takesEdge_9 : decode cG_takesEdge 9 = .ok (.iload_n 2, 1) := by decide +kernel
theorem dG_takesEdge_10 : decode cG_takesEdge 10 = .ok (.invokevirtual 42, 3) := by decide +kernel
theorem dG_takesEdge_13 : decode cG_takesEdge 13 = .ok (.ifCond .eq 42, 3) := by decide +kernel
theorem dG_takesEdge_16 : decode cG_takesEdge 16 = .ok (.aload_n 0, 1) := by decide +kernel
theorem dG_takesEdge_17 : decode cG_takesEdge 17 = .ok (.getfield 15, 3) := by decide +kernel
theorem dG_takesEdge_20 : decode cG_takesEdge 20 = .ok (.iload_n 1, 1) := by decide +kernel
theorem dG_takesEdge_21 : decode cG_takesEdge 21 = .ok (.iaload, 1) := by decide +kernel
theorem dG_takesEdge_22 : decode cG_takesEdge 22 = .ok (.aload_n 0, 1) := by decide +kernel
theorem dG_takesEdge_23 : decode cG_takesEdge 23 = .ok (.getfield 15, 3) := by decide +kernel
theorem dG_takesEdge_26 : decode cG_takesEdge 26 = .ok (.iload_n 2, 1) := by decide +kernel
theorem dG_takesEdge_27 : decode cG_takesEdge 27 = .ok (.iaload, 1) := by decide +kernel
theorem dG_takesEdge_28 : decode cG_takesEdge 28 = .ok (.if_icmp .ne 27, 3) := by decide +kernel
theorem dG_takesEdge_31 : decode cG_takesEdge 31 = .ok (.aload_n 0, 1) := by decide +kernel
theorem dG_takesEdge_32 : decode cG_takesEdge 32 = .ok (.getfield 29, 3) := by decide +kernel
theorem dG_takesEdge_35 : decode cG_takesEdge 35 = .ok (.iload_n 1, 1) := by decide +kernel
theorem dG_takesEdge_36 : decode cG_takesEdge 36 = .ok (.iaload, 1) := by decide +kernel
theorem dG_takesEdge_37 : decode cG_takesEdge 37 = .ok (.bipush 6, 2) := by decide +kernel
theorem dG_takesEdge_39 : decode cG_takesEdge 39 = .ok (.if_icmp .ge 16, 3) := by decide +kernel
theorem dG_takesEdge_42 : decode cG_takesEdge 42 = .ok (.aload_n 0, 1) := by decide +kernel
theorem dG_takesEdge_43 : decode cG_takesEdge 43 = .ok (.iload_n 1, 1) := by decide +kernel
theorem dG_takesEdge_44 : decode cG_takesEdge 44 = .ok (.iload_n 2, 1) := by decide +kernel
theorem dG_takesEdge_45 : decode cG_takesEdge 45 = .ok (.invokevirtual 49, 3) := by decide +kernel
theorem dG_takesEdge_48 : decode cG_takesEdge 48 = .ok (.ifCond .ne 7, 3) := by decide +kernel
theorem dG_takesEdge_51 : decode cG_takesEdge 51 = .ok (.iconst 1, 1) := by decide +kernel
theorem dG_takesEdge_52 : decode cG_takesEdge 52 = .ok (.goto 4, 3) := by decide +kernel
theorem dG_takesEdge_55 : decode cG_takesEdge 55 = .ok (.iconst 0, 1) := by decide +kernel
theorem dG_takesEdge_56 : decode cG_takesEdge 56 = .ok (.ireturn, 1) := by decide +kernel
theorem dG_addEdge_0 : decode cG_addEdge 0 = .ok (.aload_n 0, 1) := by decide +kernel
theorem dG_addEdge_1 : decode cG_addEdge 1 = .ok (.getfield 26, 3) := by decide +kernel
theorem dG_addEdge_4 : decode cG_addEdge 4 = .ok (.iload_n 1, 1) := by decide +kernel
theorem dG_addEdge_5 : decode cG_addEdge 5 = .ok (.aaload, 1) := by decide +kernel
theorem dG_addEdge_6 : decode cG_addEdge 6 = .ok (.aload_n 0, 1) := by decide +kernel
theorem dG_addEdge_7 : decode cG_addEdge 7 = .ok (.getfield 29, 3) := by decide +kernel
theorem dG_addEdge_10 : decode cG_addEdge 10 = .ok (.iload_n 1, 1) := by decide +kernel
theorem dG_addEdge_11 : decode cG_addEdge 11 = .ok (.iaload, 1) := by decide +kernel
theorem dG_addEdge_12 : decode cG_addEdge 12 = .ok (.iload_n 2, 1) := by decide +kernel
theorem dG_addEdge_13 : decode cG_addEdge 13 = .ok (.iastore, 1) := by decide +kernel
theorem dG_addEdge_14 : decode cG_addEdge 14 = .ok (.aload_n 0, 1) := by decide +kernel
theorem dG_addEdge_15 : decode cG_addEdge 15 = .ok (.getfield 29, 3) := by decide +kernel
theorem dG_addEdge_18 : decode cG_addEdge 18 = .ok (.iload_n 1, 1) := by decide +kernel
theorem dG_addEdge_19 : decode cG_addEdge 19 = .ok (.dup2, 1) := by decide +kernel
theorem dG_addEdge_20 : decode cG_addEdge 20 = .ok (.iaload, 1) := by decide +kernel
theorem dG_addEdge_21 : decode cG_addEdge 21 = .ok (.iconst 1, 1) := by decide +kernel
theorem dG_addEdge_22 : decode cG_addEdge 22 = .ok (.iadd, 1) := by decide +kernel
theorem dG_addEdge_23 : decode cG_addEdge 23 = .ok (.iastore, 1) := by decide +kernel
theorem dG_addEdge_24 : decode cG_addEdge 24 = .ok (.aload_n 0, 1) := by decide +kernel
theorem dG_addEdge_25 : decode cG_addEdge 25 = .ok (.getfield 32, 3) := by decide +kernel
theorem dG_addEdge_28 : decode cG_addEdge 28 = .ok (.iload_n 2, 1) := by decide +kernel
theorem dG_addEdge_29 : decode cG_addEdge 29 = .ok (.dup2, 1) := by decide +kernel
theorem dG_addEdge_30 : decode cG_addEdge 30 = .ok (.iaload, 1) := by decide +kernel
theorem dG_addEdge_31 : decode cG_addEdge 31 = .ok (.iconst 1, 1) := by decide +kernel
theorem dG_addEdge_32 : decode cG_addEdge 32 = .ok (.iadd, 1) := by decide +kernel
theorem dG_addEdge_33 : decode cG_addEdge 33 = .ok (.iastore, 1) := by decide +kernel
theorem dG_addEdge_34 : decode cG_addEdge 34 = .ok (.aload_n 0, 1) := by decide +kernel
theorem dG_addEdge_35 : decode cG_addEdge 35 = .ok (.getfield 9, 3) := by decide +kernel
theorem dG_addEdge_38 : decode cG_addEdge 38 = .ok (.iload_n 1, 1) := by decide +kernel
theorem dG_addEdge_39 : decode cG_addEdge 39 = .ok (.iaload, 1) := by decide +kernel
theorem dG_addEdge_40 : decode cG_addEdge 40 = .ok (.iconst 1, 1) := by decide +kernel
theorem dG_addEdge_41 : decode cG_addEdge 41 = .ok (.if_icmp .eq 13, 3) := by decide +kernel
theorem dG_addEdge_44 : decode cG_addEdge 44 = .ok (.aload_n 0, 1) := by decide +kernel
theorem dG_addEdge_45 : decode cG_addEdge 45 = .ok (.getfield 35, 3) := by decide +kernel
theorem dG_addEdge_48 : decode cG_addEdge 48 = .ok (.iload_n 2, 1) := by decide +kernel
theorem dG_addEdge_49 : decode cG_addEdge 49 = .ok (.dup2, 1) := by decide +kernel
theorem dG_addEdge_50 : decode cG_addEdge 50 = .ok (.iaload, 1) := by decide +kernel
theorem dG_addEdge_51 : decode cG_addEdge 51 = .ok (.iconst 1, 1) := by decide +kernel
theorem dG_addEdge_52 : decode cG_addEdge 52 = .ok (.iadd, 1) := by decide +kernel
theorem dG_addEdge_53 : decode cG_addEdge 53 = .ok (.iastore, 1) := by decide +kernel
theorem dG_addEdge_54 : decode cG_addEdge 54 = .ok (.return_, 1) := by decide +kernel
theorem dG_hasEdge_0 : decode cG_hasEdge 0 = .ok (.iconst 0, 1) := by decide +kernel
theorem dG_hasEdge_1 : decode cG_hasEdge 1 = .ok (.istore_n 3, 1) := by decide +kernel
theorem dG_hasEdge_2 : decode cG_hasEdge 2 = .ok (.iload_n 3, 1) := by decide +kernel
theorem dG_hasEdge_3 : decode cG_hasEdge 3 = .ok (.aload_n 0, 1) := by decide +kernel
theorem dG_hasEdge_4 : decode cG_hasEdge 4 = .ok (.getfield 29, 3) := by decide +kernel
theorem dG_hasEdge_7 : decode cG_hasEdge 7 = .ok (.iload_n 1, 1) := by decide +kernel
theorem dG_hasEdge_8 : decode cG_hasEdge 8 = .ok (.iaload, 1) := by decide +kernel
theorem dG_hasEdge_9 : decode cG_hasEdge 9 = .ok (.if_icmp .ge 23, 3) := by decide +kernel
theorem dG_hasEdge_12 : decode cG_hasEdge 12 = .ok (.aload_n 0, 1) := by decide +kernel
theorem dG_hasEdge_13 : decode cG_hasEdge 13 = .ok (.getfield 26, 3) := by decide +kernel
theorem dG_hasEdge_16 : decode cG_hasEdge 16 = .ok (.iload_n 1, 1) := by decide +kernel
theorem dG_hasEdge_17 : decode cG_hasEdge 17 = .ok (.aaload, 1) := by decide +kernel
theorem dG_hasEdge_18 : decode cG_hasEdge 18 = .ok (.iload_n 3, 1) := by decide +kernel
theorem dG_hasEdge_19 : decode cG_hasEdge 19 = .ok (.iaload, 1) := by decide +kernel
theorem dG_hasEdge_20 : decode cG_hasEdge 20 = .ok (.iload_n 2, 1) := by decide +kernel
theorem dG_hasEdge_21 : decode cG_hasEdge 21 = .ok (.if_icmp .ne 5, 3) := by decide +kernel
theorem dG_hasEdge_24 : decode cG_hasEdge 24 = .ok (.iconst 1, 1) := by decide +kernel
theorem dG_hasEdge_25 : decode cG_hasEdge 25 = .ok (.ireturn, 1) := by decide +kernel
theorem dG_hasEdge_26 : decode cG_hasEdge 26 = .ok (.iinc 3 1, 3) := by decide +kernel
theorem dG_hasEdge_29 : decode cG_hasEdge 29 = .ok (.goto (-27), 3) := by decide +kernel
theorem dG_hasEdge_32 : decode cG_hasEdge 32 = .ok (.iconst 0, 1) := by decide +kernel
theorem dG_hasEdge_33 : decode cG_hasEdge 33 = .ok (.ireturn, 1) := by decide +kernel
theorem dG_hasGroupWithoutSource_0 : decode cG_hasGroupWithoutSource 0 = .ok (.iconst 0, 1) := by decide +kernel
theorem dG_hasGroupWithoutSource_1 : decode cG_hasGroupWithoutSource 1 = .ok (.istore_n 1, 1) := by decide +kernel
theorem dG_hasGroupWithoutSource_2 : decode cG_hasGroupWithoutSource 2 = .ok (.iload_n 1, 1) := by decide +kernel
theorem dG_hasGroupWithoutSource_3 : decode cG_hasGroupWithoutSource 3 = .ok (.aload_n 0, 1) := by decide +kernel
theorem dG_hasGroupWithoutSource_4 : decode cG_hasGroupWithoutSource 4 = .ok (.getfield 38, 3) := by decide +kernel
theorem dG_hasGroupWithoutSource_7 : decode cG_hasGroupWithoutSource 7 = .ok (.if_icmp .ge 24, 3) := by decide +kernel
theorem dG_hasGroupWithoutSource_10 : decode cG_hasGroupWithoutSource 10 = .ok (.aload_n 0, 1) := by decide +kernel
theorem dG_hasGroupWithoutSource_11 : decode cG_hasGroupWithoutSource 11 = .ok (.aload_n 0, 1) := by decide +kernel
theorem dG_hasGroupWithoutSource_12 : decode cG_hasGroupWithoutSource 12 = .ok (.getfield 15, 3) := by decide +kernel
theorem dG_hasGroupWithoutSource_15 : decode cG_hasGroupWithoutSource 15 = .ok (.iload_n 1, 1) := by decide +kernel
theorem dG_hasGroupWithoutSource_16 : decode cG_hasGroupWithoutSource 16 = .ok (.iaload, 1) := by decide +kernel
theorem dG_hasGroupWithoutSource_17 : decode cG_hasGroupWithoutSource 17 = .ok (.invokevirtual 53, 3) := by decide +kernel
theorem dG_hasGroupWithoutSource_20 : decode cG_hasGroupWithoutSource 20 = .ok (.ifCond .ne 5, 3) := by decide +kernel
theorem dG_hasGroupWithoutSource_23 : decode cG_hasGroupWithoutSource 23 = .ok (.iconst 1, 1) := by decide +kernel
theorem dG_hasGroupWithoutSource_24 : decode cG_hasGroupWithoutSource 24 = .ok (.ireturn, 1) := by decide +kernel
theorem dG_hasGroupWithoutSource_25 : decode cG_hasGroupWithoutSource 25 = .ok (.iinc 1 1, 3) := by decide +kernel
theorem dG_hasGroupWithoutSource_28 : decode cG_hasGroupWithoutSource 28 = .ok (.goto (-26), 3) := by decide +kernel
theorem dG_hasGroupWithoutSource_31 : decode cG_hasGroupWithoutSource 31 = .ok (.iconst 0, 1) := by decide +kernel
theorem dG_hasGroupWithoutSource_32 : decode cG_hasGroupWithoutSource 32 = .ok (.ireturn, 1) := by decide +kernel
theorem dG_hasSource_0 : decode cG_hasSource 0 = .ok (.iconst 0, 1) := by decide +kernel
theorem dG_hasSource_1 : decode cG_hasSource 1 = .ok (.istore_n 2, 1) := by decide +kernel
theorem dG_hasSource_2 : decode cG_hasSource 2 = .ok (.iload_n 2, 1) := by decide +kernel
theorem dG_hasSource_3 : decode cG_hasSource 3 = .ok (.aload_n 0, 1) := by decide +kernel
theorem dG_hasSource_4 : decode cG_hasSource 4 = .ok (.getfield 38, 3) := by decide +kernel
theorem dG_hasSource_7 : decode cG_hasSource 7 = .ok (.if_icmp .ge 29, 3) := by decide +kernel
theorem dG_hasSource_10 : decode cG_hasSource 10 = .ok (.aload_n 0, 1) := by decide +kernel
theorem dG_hasSource_11 : decode cG_hasSource 11 = .ok (.getfield 15, 3) := by decide +kernel
theorem dG_hasSource_14 : decode cG_hasSource 14 = .ok (.iload_n 2, 1) := by decide +kernel
theorem dG_hasSource_15 : decode cG_hasSource 15 = .ok (.iaload, 1) := by decide +kernel
theorem dG_hasSource_16 : decode cG_hasSource 16 = .ok (.iload_n 1, 1) := by decide +kernel
theorem dG_hasSource_17 : decode cG_hasSource 17 = .ok (.if_icmp .ne 13, 3) := by decide +kernel
theorem dG_hasSource_20 : decode cG_hasSource 20 = .ok (.aload_n 0, 1) := by decide +kernel
theorem dG_hasSource_21 : decode cG_hasSource 21 = .ok (.iload_n 2, 1) := by decide +kernel
theorem dG_hasSource_22 : decode cG_hasSource 22 = .ok (.invokevirtual 56, 3) := by decide +kernel
theorem dG_hasSource_25 : decode cG_hasSource 25 = .ok (.ifCond .eq 5, 3) := by decide +kernel
theorem dG_hasSource_28 : decode cG_hasSource 28 = .ok (.iconst 1, 1) := by decide +kernel
theorem dG_hasSource_29 : decode cG_hasSource 29 = .ok (.ireturn, 1) := by decide +kernel
theorem dG_hasSource_30 : decode cG_hasSource 30 = .ok (.iinc 2 1, 3) := by decide +kernel
theorem dG_hasSource_33 : decode cG_hasSource 33 = .ok (.goto (-31), 3) := by decide +kernel
theorem dG_hasSource_36 : decode cG_hasSource 36 = .ok (.iconst 0, 1) := by decide +kernel
theorem dG_hasSource_37 : decode cG_hasSource 37 = .ok (.ireturn, 1) := by decide +kernel
theorem dG_hasStrongCycle_0 : decode cG_hasStrongCycle 0 = .ok (.iconst 1, 1) := by decide +kernel
theorem dG_hasStrongCycle_1 : decode cG_hasStrongCycle 1 = .ok (.aload_n 0, 1) := by decide +kernel
theorem dG_hasStrongCycle_2 : decode cG_hasStrongCycle 2 = .ok (.getfield 38, 3) := by decide +kernel
theorem dG_hasStrongCycle_5 : decode cG_hasStrongCycle 5 = .ok (.ishl, 1) := by decide +kernel
theorem dG_hasStrongCycle_6 : decode cG_hasStrongCycle 6 = .ok (.iconst 1, 1) := by decide +kernel
theorem dG_hasStrongCycle_7 : decode cG_hasStrongCycle 7 = .ok (.isub, 1) := by decide +kernel
theorem dG_hasStrongCycle_8 : decode cG_hasStrongCycle 8 = .ok (.istore_n 1, 1) := by decide +kernel
theorem dG_hasStrongCycle_9 : decode cG_hasStrongCycle 9 = .ok (.iconst 0, 1) := by decide +kernel
theorem dG_hasStrongCycle_10 : decode cG_hasStrongCycle 10 = .ok (.istore_n 2, 1) := by decide +kernel
theorem dG_hasStrongCycle_11 : decode cG_hasStrongCycle 11 = .ok (.iload_n 2, 1) := by decide +kernel
theorem dG_hasStrongCycle_12 : decode cG_hasStrongCycle 12 = .ok (.aload_n 0, 1) := by decide +kernel
theorem dG_hasStrongCycle_13 : decode cG_hasStrongCycle 13 = .ok (.getfield 38, 3) := by decide +kernel
theorem dG_hasStrongCycle_16 : decode cG_hasStrongCycle 16 = .ok (.if_icmp .ge 42, 3) := by decide +kernel
theorem dG_hasStrongCycle_19 : decode cG_hasStrongCycle 19 = .ok (.iconst 0, 1) := by decide +kernel
theorem dG_hasStrongCycle_20 : decode cG_hasStrongCycle 20 = .ok (.istore_n 3, 1) := by decide +kernel
theorem dG_hasStrongCycle_21 : decode cG_hasStrongCycle 21 = .ok (.iload_n 3, 1) := by decide +kernel
theorem dG_hasStrongCycle_22 : decode cG_hasStrongCycle 22 = .ok (.aload_n 0, 1) := by decide +kernel
theorem dG_hasStrongCycle_23 : decode cG_hasStrongCycle 23 = .ok (.getfield 38, 3) := by decide +kernel
theorem dG_hasStrongCycle_26 : decode cG_hasStrongCycle 26 = .ok (.if_icmp .ge 26, 3) := by decide +kernel
theorem dG_hasStrongCycle_29 : decode cG_hasStrongCycle 29 = .ok (.aload_n 0, 1) := by decide +kernel
theorem dG_hasStrongCycle_30 : decode cG_hasStrongCycle 30 = .ok (.iload_n 3, 1) := by decide +kernel
theorem dG_hasStrongCycle_31 : decode cG_hasStrongCycle 31 = .ok (.iload_n 1, 1) := by decide +kernel
theorem dG_hasStrongCycle_32 : decode cG_hasStrongCycle 32 = .ok (.invokevirtual 59, 3) := by decide +kernel
theorem dG_hasStrongCycle_35 : decode cG_hasStrongCycle 35 = .ok (.ifCond .ne 11, 3) := by decide +kernel
theorem dG_hasStrongCycle_38 : decode cG_hasStrongCycle 38 = .ok (.iload_n 1, 1) := by decide +kernel
theorem dG_hasStrongCycle_39 : decode cG_hasStrongCycle 39 = .ok (.iconst 1, 1) := by decide +kernel
theorem dG_hasStrongCycle_40 : decode cG_hasStrongCycle 40 = .ok (.iload_n 3, 1) := by decide +kernel
theorem dG_hasStrongCycle_41 : decode cG_hasStrongCycle 41 = .ok (.ishl, 1) := by decide +kernel
theorem dG_hasStrongCycle_42 : decode cG_hasStrongCycle 42 = .ok (.iconst (-1), 1) := by decide +kernel
theorem dG_hasStrongCycle_43 : decode cG_hasStrongCycle 43 = .ok (.ixor, 1) := by decide +kernel
theorem dG_hasStrongCycle_44 : decode cG_hasStrongCycle 44 = .ok (.iand, 1) := by decide +kernel
theorem dG_hasStrongCycle_45 : decode cG_hasStrongCycle 45 = .ok (.istore_n 1, 1) := by decide +kernel
theorem dG_hasStrongCycle_46 : decode cG_hasStrongCycle 46 = .ok (.iinc 3 1, 3) := by decide +kernel
theorem dG_hasStrongCycle_49 : decode cG_hasStrongCycle 49 = .ok (.goto (-28), 3) := by decide +kernel
theorem dG_hasStrongCycle_52 : decode cG_hasStrongCycle 52 = .ok (.iinc 2 1, 3) := by decide +kernel
theorem dG_hasStrongCycle_55 : decode cG_hasStrongCycle 55 = .ok (.goto (-44), 3) := by decide +kernel
theorem dG_hasStrongCycle_58 : decode cG_hasStrongCycle 58 = .ok (.iload_n 1, 1) := by decide +kernel
theorem dG_hasStrongCycle_59 : decode cG_hasStrongCycle 59 = .ok (.ifCond .eq 7, 3) := by decide +kernel
theorem dG_hasStrongCycle_62 : decode cG_hasStrongCycle 62 = .ok (.iconst 1, 1) := by decide +kernel
theorem dG_hasStrongCycle_63 : decode cG_hasStrongCycle 63 = .ok (.goto 4, 3) := by decide +kernel
theorem dG_hasStrongCycle_66 : decode cG_hasStrongCycle 66 = .ok (.iconst 0, 1) := by decide +kernel
theorem dG_hasStrongCycle_67 : decode cG_hasStrongCycle 67 = .ok (.ireturn, 1) := by decide +kernel
theorem dG_leadsStronglyInto_0 : decode cG_leadsStronglyInto 0 = .ok (.aload_n 0, 1) := by decide +kernel
theorem dG_leadsStronglyInto_1 : decode cG_leadsStronglyInto 1 = .ok (.getfield 9, 3) := by decide +kernel
theorem dG_leadsStronglyInto_4 : decode cG_leadsStronglyInto 4 = .ok (.iload_n 1, 1) := by decide +kernel
theorem dG_leadsStronglyInto_5 : decode cG_leadsStronglyInto 5 = .ok (.iaload, 1) := by decide +kernel
theorem dG_leadsStronglyInto_6 : decode cG_leadsStronglyInto 6 = .ok (.iconst 1, 1) := by decide +kernel
theorem dG_leadsStronglyInto_7 : decode cG_leadsStronglyInto 7 = .ok (.if_icmp .ne 5, 3) := by decide +kernel
theorem dG_leadsStronglyInto_10 : decode cG_leadsStronglyInto 10 = .ok (.iconst 0, 1) := by decide +kernel
theorem dG_leadsStronglyInto_11 : decode cG_leadsStronglyInto 11 = .ok (.ireturn, 1) := by decide +kernel
theorem dG_leadsStronglyInto_12 : decode cG_leadsStronglyInto 12 = .ok (.iconst 0, 1) := by decide +kernel
theorem dG_leadsStronglyInto_13 : decode cG_leadsStronglyInto 13 = .ok (.istore_n 3, 1) := by decide +kernel
theorem dG_leadsStronglyInto_14 : decode cG_leadsStronglyInto 14 = .ok (.iload_n 3, 1) := by decide +kernel
theorem dG_leadsStronglyInto_15 : decode cG_leadsStronglyInto 15 = .ok (.aload_n 0, 1) := by decide +kernel
theorem dG_leadsStronglyInto_16 : decode cG_leadsStronglyInto 16 = .ok (.getfield 29, 3) := by decide +kernel
theorem dG_leadsStronglyInto_19 : decode cG_leadsStronglyInto 19 = .ok (.iload_n 1, 1) := by decide +kernel
theorem dG_leadsStronglyInto_20 : decode cG_leadsStronglyInto 20 = .ok (.iaload, 1) := by decide +kernel
theorem dG_leadsStronglyInto_21 : decode cG_leadsStronglyInto 21 = .ok (.if_icmp .ge 26, 3) := by decide +kernel
theorem dG_leadsStronglyInto_24 : decode cG_leadsStronglyInto 24 = .ok (.iload_n 2, 1) := by decide +kernel
theorem dG_leadsStronglyInto_25 : decode cG_leadsStronglyInto 25 = .ok (.iconst 1, 1) := by decide +kernel
theorem dG_leadsStronglyInto_26 : decode cG_leadsStronglyInto 26 = .ok (.aload_n 0, 1) := by decide +kernel
theorem dG_leadsStronglyInto_27 : decode cG_leadsStronglyInto 27 = .ok (.getfield 26, 3) := by decide +kernel
theorem dG_leadsStronglyInto_30 : decode cG_leadsStronglyInto 30 = .ok (.iload_n 1, 1) := by decide +kernel
theorem dG_leadsStronglyInto_31 : decode cG_leadsStronglyInto 31 = .ok (.aaload, 1) := by decide +kernel
theorem dG_leadsStronglyInto_32 : decode cG_leadsStronglyInto 32 = .ok (.iload_n 3, 1) := by decide +kernel
theorem dG_leadsStronglyInto_33 : decode cG_leadsStronglyInto 33 = .ok (.iaload, 1) := by decide +kernel
theorem dG_leadsStronglyInto_34 : decode cG_leadsStronglyInto 34 = .ok (.ishl, 1) := by decide +kernel
theorem dG_leadsStronglyInto_35 : decode cG_leadsStronglyInto 35 = .ok (.iand, 1) := by decide +kernel
theorem dG_leadsStronglyInto_36 : decode cG_leadsStronglyInto 36 = .ok (.ifCond .eq 5, 3) := by decide +kernel
theorem dG_leadsStronglyInto_39 : decode cG_leadsStronglyInto 39 = .ok (.iconst 1, 1) := by decide +kernel
theorem dG_leadsStronglyInto_40 : decode cG_leadsStronglyInto 40 = .ok (.ireturn, 1) := by decide +kernel
theorem dG_leadsStronglyInto_41 : decode cG_leadsStronglyInto 41 = .ok (.iinc 3 1, 3) := by decide +kernel
theorem dG_leadsStronglyInto_44 : decode cG_leadsStronglyInto 44 = .ok (.goto (-30), 3) := by decide +kernel
theorem dG_leadsStronglyInto_47 : decode cG_leadsStronglyInto 47 = .ok (.iconst 0, 1) := by decide +kernel
theorem dG_leadsStronglyInto_48 : decode cG_leadsStronglyInto 48 = .ok (.ireturn, 1) := by decide +kernel
