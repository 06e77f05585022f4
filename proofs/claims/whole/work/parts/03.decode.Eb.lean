theorem dE_sendToken_15 : decode cE_sendToken 15 = .ok (.goto 13, 3) := by decide +kernel
theorem dE_sendToken_18 : decode cE_sendToken 18 = .ok (.aload_n 0, 1) := by decide +kernel
theorem dE_sendToken_19 : decode cE_sendToken 19 = .ok (.dup, 1) := by decide +kernel
theorem dE_sendToken_20 : decode cE_sendToken 20 = .ok (.getfield 123, 3) := by decide +kernel
theorem dE_sendToken_23 : decode cE_sendToken 23 = .ok (.iconst 1, 1) := by decide +kernel
theorem dE_sendToken_24 : decode cE_sendToken 24 = .ok (.iadd, 1) := by decide +kernel
theorem dE_sendToken_25 : decode cE_sendToken 25 = .ok (.putfield 123, 3) := by decide +kernel
theorem dE_sendToken_28 : decode cE_sendToken 28 = .ok (.return_, 1) := by decide +kernel
theorem dE_makeReady_0 : decode cE_makeReady 0 = .ok (.aload_n 0, 1) := by decide +kernel
theorem dE_makeReady_1 : decode cE_makeReady 1 = .ok (.getfield 57, 3) := by decide +kernel
theorem dE_makeReady_4 : decode cE_makeReady 4 = .ok (.iload_n 1, 1) := by decide +kernel
theorem dE_makeReady_5 : decode cE_makeReady 5 = .ok (.iload_n 2, 1) := by decide +kernel
theorem dE_makeReady_6 : decode cE_makeReady 6 = .ok (.aload_n 0, 1) := by decide +kernel
theorem dE_makeReady_7 : decode cE_makeReady 7 = .ok (.getfield 18, 3) := by decide +kernel
theorem dE_makeReady_10 : decode cE_makeReady 10 = .ok (.if_icmp .ne 8, 3) := by decide +kernel
theorem dE_makeReady_13 : decode cE_makeReady 13 = .ok (.bipush 20, 2) := by decide +kernel
theorem dE_makeReady_15 : decode cE_makeReady 15 = .ok (.goto 7, 3) := by decide +kernel
theorem dE_makeReady_18 : decode cE_makeReady 18 = .ok (.bipush 10, 2) := by decide +kernel
theorem dE_makeReady_20 : decode cE_makeReady 20 = .ok (.iload_n 2, 1) := by decide +kernel
theorem dE_makeReady_21 : decode cE_makeReady 21 = .ok (.iadd, 1) := by decide +kernel
theorem dE_makeReady_22 : decode cE_makeReady 22 = .ok (.iastore, 1) := by decide +kernel
theorem dE_makeReady_23 : decode cE_makeReady 23 = .ok (.aload_n 0, 1) := by decide +kernel
theorem dE_makeReady_24 : decode cE_makeReady 24 = .ok (.getfield 38, 3) := by decide +kernel
theorem dE_makeReady_27 : decode cE_makeReady 27 = .ok (.iload_n 2, 1) := by decide +kernel
theorem dE_makeReady_28 : decode cE_makeReady 28 = .ok (.aaload, 1) := by decide +kernel
theorem dE_makeReady_29 : decode cE_makeReady 29 = .ok (.iload_n 1, 1) := by decide +kernel
theorem dE_makeReady_30 : decode cE_makeReady 30 = .ok (.invokevirtual 207, 3) := by decide +kernel
theorem dE_makeReady_33 : decode cE_makeReady 33 = .ok (.return_, 1) := by decide +kernel
theorem dE_take_0 : decode cE_take 0 = .ok (.aload_n 0, 1) := by decide +kernel
theorem dE_take_1 : decode cE_take 1 = .ok (.getfield 38, 3) := by decide +kernel
theorem dE_take_4 : decode cE_take 4 = .ok (.iload_n 1, 1) := by decide +kernel
theorem dE_take_5 : decode cE_take 5 = .ok (.aaload, 1) := by decide +kernel
theorem dE_take_6 : decode cE_take 6 = .ok (.getfield 210, 3) := by decide +kernel
theorem dE_take_9 : decode cE_take 9 = .ok (.ifCond .le 24, 3) := by decide +kernel
theorem dE_take_12 : decode cE_take 12 = .ok (.aload_n 0, 1) := by decide +kernel
theorem dE_take_13 : decode cE_take 13 = .ok (.getfield 38, 3) := by decide +kernel
theorem dE_take_16 : decode cE_take 16 = .ok (.iload_n 1, 1) := by decide +kernel
theorem dE_take_17 : decode cE_take 17 = .ok (.aaload, 1) := by decide +kernel
theorem dE_take_18 : decode cE_take 18 = .ok (.aload_n 0, 1) := by decide +kernel
theorem dE_take_19 : decode cE_take 19 = .ok (.getfield 38, 3) := by decide +kernel
theorem dE_take_22 : decode cE_take 22 = .ok (.iload_n 1, 1) := by decide +kernel
theorem dE_take_23 : decode cE_take 23 = .ok (.aaload, 1) := by decide +kernel
theorem dE_take_24 : decode cE_take 24 = .ok (.getfield 210, 3) := by decide +kernel
theorem dE_take_27 : decode cE_take 27 = .ok (.iconst 1, 1) := by decide +kernel
theorem dE_take_28 : decode cE_take 28 = .ok (.isub, 1) := by decide +kernel
theorem dE_take_29 : decode cE_take 29 = .ok (.invokevirtual 213, 3) := by decide +kernel
theorem dE_take_32 : decode cE_take 32 = .ok (.ireturn, 1) := by decide +kernel
theorem dE_take_33 : decode cE_take 33 = .ok (.aload_n 0, 1) := by decide +kernel
theorem dE_take_34 : decode cE_take 34 = .ok (.getfield 38, 3) := by decide +kernel
theorem dE_take_37 : decode cE_take 37 = .ok (.aload_n 0, 1) := by decide +kernel
theorem dE_take_38 : decode cE_take 38 = .ok (.getfield 18, 3) := by decide +kernel
theorem dE_take_41 : decode cE_take 41 = .ok (.aaload, 1) := by decide +kernel
theorem dE_take_42 : decode cE_take 42 = .ok (.getfield 210, 3) := by decide +kernel
theorem dE_take_45 : decode cE_take 45 = .ok (.ifCond .le 17, 3) := by decide +kernel
theorem dE_take_48 : decode cE_take 48 = .ok (.aload_n 0, 1) := by decide +kernel
theorem dE_take_49 : decode cE_take 49 = .ok (.getfield 38, 3) := by decide +kernel
theorem dE_take_52 : decode cE_take 52 = .ok (.aload_n 0, 1) := by decide +kernel
theorem dE_take_53 : decode cE_take 53 = .ok (.getfield 18, 3) := by decide +kernel
theorem dE_take_56 : decode cE_take 56 = .ok (.aaload, 1) := by decide +kernel
theorem dE_take_57 : decode cE_take 57 = .ok (.iconst 0, 1) := by decide +kernel
theorem dE_take_58 : decode cE_take 58 = .ok (.invokevirtual 213, 3) := by decide +kernel
theorem dE_take_61 : decode cE_take 61 = .ok (.ireturn, 1) := by decide +kernel
theorem dE_take_62 : decode cE_take 62 = .ok (.aload_n 0, 1) := by decide +kernel
theorem dE_take_63 : decode cE_take 63 = .ok (.iload_n 1, 1) := by decide +kernel
theorem dE_take_64 : decode cE_take 64 = .ok (.invokevirtual 216, 3) := by decide +kernel
theorem dE_take_67 : decode cE_take 67 = .ok (.ireturn, 1) := by decide +kernel
theorem dE_steal_0 : decode cE_steal 0 = .ok (.iconst 1, 1) := by decide +kernel
theorem dE_steal_1 : decode cE_steal 1 = .ok (.istore_n 2, 1) := by decide +kernel
theorem dE_steal_2 : decode cE_steal 2 = .ok (.iload_n 2, 1) := by decide +kernel
theorem dE_steal_3 : decode cE_steal 3 = .ok (.aload_n 0, 1) := by decide +kernel
theorem dE_steal_4 : decode cE_steal 4 = .ok (.getfield 18, 3) := by decide +kernel
theorem dE_steal_7 : decode cE_steal 7 = .ok (.if_icmp .ge 67, 3) := by decide +kernel
theorem dE_steal_10 : decode cE_steal 10 = .ok (.iload_n 1, 1) := by decide +kernel
theorem dE_steal_11 : decode cE_steal 11 = .ok (.iload_n 2, 1) := by decide +kernel
theorem dE_steal_12 : decode cE_steal 12 = .ok (.iadd, 1) := by decide +kernel
theorem dE_steal_13 : decode cE_steal 13 = .ok (.aload_n 0, 1) := by decide +kernel
theorem dE_steal_14 : decode cE_steal 14 = .ok (.getfield 18, 3) := by decide +kernel
theorem dE_steal_17 : decode cE_steal 17 = .ok (.if_icmp .ge 9, 3) := by decide +kernel
theorem dE_steal_20 : decode cE_steal 20 = .ok (.iload_n 1, 1) := by decide +kernel
theorem dE_steal_21 : decode cE_steal 21 = .ok (.iload_n 2, 1) := by decide +kernel
theorem dE_steal_22 : decode cE_steal 22 = .ok (.iadd, 1) := by decide +kernel
theorem dE_steal_23 : decode cE_steal 23 = .ok (.goto 11, 3) := by decide +kernel
theorem dE_steal_26 : decode cE_steal 26 = .ok (.iload_n 1, 1) := by decide +kernel
theorem dE_steal_27 : decode cE_steal 27 = .ok (.iload_n 2, 1) := by decide +kernel
theorem dE_steal_28 : decode cE_steal 28 = .ok (.iadd, 1) := by decide +kernel
theorem dE_steal_29 : decode cE_steal 29 = .ok (.aload_n 0, 1) := by decide +kernel
theorem dE_steal_30 : decode cE_steal 30 = .ok (.getfield 18, 3) := by decide +kernel
theorem dE_steal_33 : decode cE_steal 33 = .ok (.isub, 1) := by decide +kernel
theorem dE_steal_34 : decode cE_steal 34 = .ok (.istore_n 3, 1) := by decide +kernel
theorem dE_steal_35 : decode cE_steal 35 = .ok (.aload_n 0, 1) := by decide +kernel
theorem dE_steal_36 : decode cE_steal 36 = .ok (.getfield 38, 3) := by decide +kernel
theorem dE_steal_39 : decode cE_steal 39 = .ok (.iload_n 3, 1) := by decide +kernel
theorem dE_steal_40 : decode cE_steal 40 = .ok (.aaload, 1) := by decide +kernel
theorem dE_steal_41 : decode cE_steal 41 = .ok (.getfield 210, 3) := by decide +kernel
theorem dE_steal_44 : decode cE_steal 44 = .ok (.ifCond .le 24, 3) := by decide +kernel
theorem dE_steal_47 : decode cE_steal 47 = .ok (.aload_n 0, 1) := by decide +kernel
theorem dE_steal_48 : decode cE_steal 48 = .ok (.dup, 1) := by decide +kernel
theorem dE_steal_49 : decode cE_steal 49 = .ok (.getfield 126, 3) := by decide +kernel
theorem dE_steal_52 : decode cE_steal 52 = .ok (.iconst 1, 1) := by decide +kernel
theorem dE_steal_53 : decode cE_steal 53 = .ok (.iadd, 1) := by decide +kernel
theorem dE_steal_54 : decode cE_steal 54 = .ok (.putfield 126, 3) := by decide +kernel
theorem dE_steal_57 : decode cE_steal 57 = .ok (.aload_n 0, 1) := by decide +kernel
theorem dE_steal_58 : decode cE_steal 58 = .ok (.getfield 38, 3) := by decide +kernel
theorem dE_steal_61 : decode cE_steal 61 = .ok (.iload_n 3, 1) := by decide +kernel
theorem dE_steal_62 : decode cE_steal 62 = .ok (.aaload, 1) := by decide +kernel
theorem dE_steal_63 : decode cE_steal 63 = .ok (.iconst 0, 1) := by decide +kernel
theorem dE_steal_64 : decode cE_steal 64 = .ok (.invokevirtual 213, 3) := by decide +kernel
theorem dE_steal_67 : decode cE_steal 67 = .ok (.ireturn, 1) := by decide +kernel
theorem dE_steal_68 : decode cE_steal 68 = .ok (.iinc 2 1, 3) := by decide +kernel
theorem dE_steal_71 : decode cE_steal 71 = .ok (.goto (-69), 3) := by decide +kernel
theorem dE_steal_74 : decode cE_steal 74 = .ok (.iconst (-1), 1) := by decide +kernel
theorem dE_steal_75 : decode cE_steal 75 = .ok (.ireturn, 1) := by decide +kernel
theorem dE_run_0 : decode cE_run 0 = .ok (.aload_n 0, 1) := by decide +kernel
theorem dE_run_1 : decode cE_run 1 = .ok (.getfield 32, 3) := by decide +kernel
theorem dE_run_4 : decode cE_run 4 = .ok (.aload_n 0, 1) := by decide +kernel
theorem dE_run_5 : decode cE_run 5 = .ok (.getfield 25, 3) := by decide +kernel
theorem dE_run_8 : decode cE_run 8 = .ok (.getfield 139, 3) := by decide +kernel
theorem dE_run_11 : decode cE_run 11 = .ok (.iload_n 1, 1) := by decide +kernel
theorem dE_run_12 : decode cE_run 12 = .ok (.iaload, 1) := by decide +kernel
theorem dE_run_13 : decode cE_run 13 = .ok (.invokevirtual 219, 3) := by decide +kernel
theorem dE_run_16 : decode cE_run 16 = .ok (.aload_n 0, 1) := by decide +kernel
theorem dE_run_17 : decode cE_run 17 = .ok (.getfield 57, 3) := by decide +kernel
theorem dE_run_20 : decode cE_run 20 = .ok (.iload_n 1, 1) := by decide +kernel
theorem dE_run_21 : decode cE_run 21 = .ok (.iconst 3, 1) := by decide +kernel
theorem dE_run_22 : decode cE_run 22 = .ok (.iload_n 2, 1) := by decide +kernel
theorem dE_run_23 : decode cE_run 23 = .ok (.iadd, 1) := by decide +kernel
theorem dE_run_24 : decode cE_run 24 = .ok (.iastore, 1) := by decide +kernel
theorem dE_run_25 : decode cE_run 25 = .ok (.aload_n 0, 1) := by decide +kernel
theorem dE_run_26 : decode cE_run 26 = .ok (.getfield 47, 3) := by decide +kernel
theorem dE_run_29 : decode cE_run 29 = .ok (.iload_n 2, 1) := by decide +kernel
theorem dE_run_30 : decode cE_run 30 = .ok (.iload_n 1, 1) := by decide +kernel
theorem dE_run_31 : decode cE_run 31 = .ok (.iastore, 1) := by decide +kernel
theorem dE_run_32 : decode cE_run 32 = .ok (.aload_n 0, 1) := by decide +kernel
theorem dE_run_33 : decode cE_run 33 = .ok (.getfield 63, 3) := by decide +kernel
theorem dE_run_36 : decode cE_run 36 = .ok (.iload_n 1, 1) := by decide +kernel
theorem dE_run_37 : decode cE_run 37 = .ok (.dup2, 1) := by decide +kernel
theorem dE_run_38 : decode cE_run 38 = .ok (.iaload, 1) := by decide +kernel
theorem dE_run_39 : decode cE_run 39 = .ok (.iconst 1, 1) := by decide +kernel
theorem dE_run_40 : decode cE_run 40 = .ok (.iadd, 1) := by decide +kernel
theorem dE_run_41 : decode cE_run 41 = .ok (.iastore, 1) := by decide +kernel
theorem dE_run_42 : decode cE_run 42 = .ok (.return_, 1) := by decide +kernel
theorem dE_park_0 : decode cE_park 0 = .ok (.aload_n 0, 1) := by decide +kernel
theorem dE_park_1 : decode cE_park 1 = .ok (.getfield 57, 3) := by decide +kernel
theorem dE_park_4 : decode cE_park 4 = .ok (.iload_n 1, 1) := by decide +kernel
theorem dE_park_5 : decode cE_park 5 = .ok (.iconst 1, 1) := by decide +kernel
theorem dE_park_6 : decode cE_park 6 = .ok (.iastore, 1) := by decide +kernel
theorem dE_park_7 : decode cE_park 7 = .ok (.aload_n 0, 1) := by decide +kernel
theorem dE_park_8 : decode cE_park 8 = .ok (.getfield 43, 3) := by decide +kernel
theorem dE_park_11 : decode cE_park 11 = .ok (.iload_n 1, 1) := by decide +kernel
theorem dE_park_12 : decode cE_park 12 = .ok (.invokevirtual 207, 3) := by decide +kernel
theorem dE_park_15 : decode cE_park 15 = .ok (.return_, 1) := by decide +kernel
theorem dE_leaveBody_0 : decode cE_leaveBody 0 = .ok (.aload_n 0, 1) := by decide +kernel
theorem dE_leaveBody_1 : decode cE_leaveBody 1 = .ok (.getfield 47, 3) := by decide +kernel
theorem dE_leaveBody_4 : decode cE_leaveBody 4 = .ok (.iload_n 1, 1) := by decide +kernel
theorem dE_leaveBody_5 : decode cE_leaveBody 5 = .ok (.iaload, 1) := by decide +kernel
theorem dE_leaveBody_6 : decode cE_leaveBody 6 = .ok (.istore_n 2, 1) := by decide +kernel
theorem dE_leaveBody_7 : decode cE_leaveBody 7 = .ok (.aload_n 0, 1) := by decide +kernel
theorem dE_leaveBody_8 : decode cE_leaveBody 8 = .ok (.getfield 47, 3) := by decide +kernel
theorem dE_leaveBody_11 : decode cE_leaveBody 11 = .ok (.iload_n 1, 1) := by decide +kernel
theorem dE_leaveBody_12 : decode cE_leaveBody 12 = .ok (.iconst (-1), 1) := by decide +kernel
theorem dE_leaveBody_13 : decode cE_leaveBody 13 = .ok (.iastore, 1) := by decide +kernel
theorem dE_leaveBody_14 : decode cE_leaveBody 14 = .ok (.aload_n 0, 1) := by decide +kernel
theorem dE_leaveBody_15 : decode cE_leaveBody 15 = .ok (.getfield 32, 3) := by decide +kernel
theorem dE_leaveBody_18 : decode cE_leaveBody 18 = .ok (.aload_n 0, 1) := by decide +kernel
theorem dE_leaveBody_19 : decode cE_leaveBody 19 = .ok (.getfield 25, 3) := by decide +kernel
theorem dE_leaveBody_22 : decode cE_leaveBody 22 = .ok (.getfield 139, 3) := by decide +kernel
theorem dE_leaveBody_25 : decode cE_leaveBody 25 = .ok (.iload_n 2, 1) := by decide +kernel
theorem dE_leaveBody_26 : decode cE_leaveBody 26 = .ok (.iaload, 1) := by decide +kernel
theorem dE_leaveBody_27 : decode cE_leaveBody 27 = .ok (.invokevirtual 222, 3) := by decide +kernel
theorem dE_leaveBody_30 : decode cE_leaveBody 30 = .ok (.aload_n 0, 1) := by decide +kernel
theorem dE_leaveBody_31 : decode cE_leaveBody 31 = .ok (.aload_n 0, 1) := by decide +kernel
theorem dE_leaveBody_32 : decode cE_leaveBody 32 = .ok (.getfield 25, 3) := by decide +kernel
theorem dE_leaveBody_35 : decode cE_leaveBody 35 = .ok (.getfield 139, 3) := by decide +kernel
theorem dE_leaveBody_38 : decode cE_leaveBody 38 = .ok (.iload_n 2, 1) := by decide +kernel
theorem dE_leaveBody_39 : decode cE_leaveBody 39 = .ok (.iaload, 1) := by decide +kernel
theorem dE_leaveBody_40 : decode cE_leaveBody 40 = .ok (.invokevirtual 225, 3) := by decide +kernel
theorem dE_leaveBody_43 : decode cE_leaveBody 43 = .ok (.iload_n 2, 1) := by decide +kernel
theorem dE_leaveBody_44 : decode cE_leaveBody 44 = .ok (.ireturn, 1) := by decide +kernel
theorem dE_wakeParked_0 : decode cE_wakeParked 0 = .ok (.iconst 0, 1) := by decide +kernel
theorem dE_wakeParked_1 : decode cE_wakeParked 1 = .ok (.istore_n 2, 1) := by decide +kernel
theorem dE_wakeParked_2 : decode cE_wakeParked 2 = .ok (.iconst 0, 1) := by decide +kernel
theorem dE_wakeParked_3 : decode cE_wakeParked 3 = .ok (.istore_n 3, 1) := by decide +kernel
theorem dE_wakeParked_4 : decode cE_wakeParked 4 = .ok (.iload_n 3, 1) := by decide +kernel
theorem dE_wakeParked_5 : decode cE_wakeParked 5 = .ok (.aload_n 0, 1) := by decide +kernel
theorem dE_wakeParked_6 : decode cE_wakeParked 6 = .ok (.getfield 43, 3) := by decide +kernel
theorem dE_wakeParked_9 : decode cE_wakeParked 9 = .ok (.getfield 210, 3) := by decide +kernel
theorem dE_wakeParked_12 : decode cE_wakeParked 12 = .ok (.if_icmp .ge 62, 3) := by decide +kernel
theorem dE_wakeParked_15 : decode cE_wakeParked 15 = .ok (.aload_n 0, 1) := by decide +kernel
theorem dE_wakeParked_16 : decode cE_wakeParked 16 = .ok (.getfield 43, 3) := by decide +kernel
theorem dE_wakeParked_19 : decode cE_wakeParked 19 = .ok (.getfield 228, 3) := by decide +kernel
theorem dE_wakeParked_22 : decode cE_wakeParked 22 = .ok (.iload_n 3, 1) := by decide +kernel
theorem dE_wakeParked_23 : decode cE_wakeParked 23 = .ok (.iaload, 1) := by decide +kernel
theorem dE_wakeParked_24 : decode cE_wakeParked 24 = .ok (.istore 4, 2) := by decide +kernel
theorem dE_wakeParked_26 : decode cE_wakeParked 26 = .ok (.aload_n 0, 1) := by decide +kernel
theorem dE_wakeParked_27 : decode cE_wakeParked 27 = .ok (.getfield 25, 3) := by decide +kernel
theorem dE_wakeParked_30 : decode cE_wakeParked 30 = .ok (.getfield 139, 3) := by decide +kernel
theorem dE_wakeParked_33 : decode cE_wakeParked 33 = .ok (.iload 4, 2) := by decide +kernel
theorem dE_wakeParked_35 : decode cE_wakeParked 35 = .ok (.iaload, 1) := by decide +kernel
theorem dE_wakeParked_36 : decode cE_wakeParked 36 = .ok (.iload_n 1, 1) := by decide +kernel
theorem dE_wakeParked_37 : decode cE_wakeParked 37 = .ok (.iand, 1) := by decide +kernel
theorem dE_wakeParked_38 : decode cE_wakeParked 38 = .ok (.ifCond .eq 16, 3) := by decide +kernel
theorem dE_wakeParked_41 : decode cE_wakeParked 41 = .ok (.aload_n 0, 1) := by decide +kernel
theorem dE_wakeParked_42 : decode cE_wakeParked 42 = .ok (.iload 4, 2) := by decide +kernel
theorem dE_wakeParked_44 : decode cE_wakeParked 44 = .ok (.aload_n 0, 1) := by decide +kernel
theorem dE_wakeParked_45 : decode cE_wakeParked 45 = .ok (.getfield 18, 3) := by decide +kernel
theorem dE_wakeParked_48 : decode cE_wakeParked 48 = .ok (.invokevirtual 204, 3) := by decide +kernel
theorem dE_wakeParked_51 : decode cE_wakeParked 51 = .ok (.goto 17, 3) := by decide +kernel
theorem dE_wakeParked_54 : decode cE_wakeParked 54 = .ok (.aload_n 0, 1) := by decide +kernel
theorem dE_wakeParked_55 : decode cE_wakeParked 55 = .ok (.getfield 43, 3) := by decide +kernel
theorem dE_wakeParked_58 : decode cE_wakeParked 58 = .ok (.getfield 228, 3) := by decide +kernel
theorem dE_wakeParked_61 : decode cE_wakeParked 61 = .ok (.iload_n 2, 1) := by decide +kernel
theorem dE_wakeParked_62 : decode cE_wakeParked 62 = .ok (.iload 4, 2) := by decide +kernel
theorem dE_wakeParked_64 : decode cE_wakeParked 64 = .ok (.iastore, 1) := by decide +kernel
theorem dE_wakeParked_65 : decode cE_wakeParked 65 = .ok (.iinc 2 1, 3) := by decide +kernel
theorem dE_wakeParked_68 : decode cE_wakeParked 68 = .ok (.iinc 3 1, 3) := by decide +kernel
theorem dE_wakeParked_71 : decode cE_wakeParked 71 = .ok (.goto (-67), 3) := by decide +kernel
theorem dE_wakeParked_74 : decode cE_wakeParked 74 = .ok (.aload_n 0, 1) := by decide +kernel
theorem dE_wakeParked_75 : decode cE_wakeParked 75 = .ok (.getfield 43, 3) := by decide +kernel
theorem dE_wakeParked_78 : decode cE_wakeParked 78 = .ok (.iload_n 2, 1) := by decide +kernel
theorem dE_wakeParked_79 : decode cE_wakeParked 79 = .ok (.putfield 210, 3) := by decide +kernel
theorem dE_wakeParked_82 : decode cE_wakeParked 82 = .ok (.return_, 1) := by decide +kernel
theorem dE_spawn_0 : decode cE_spawn 0 = .ok (.aload_n 0, 1) := by decide +kernel
theorem dE_spawn_1 : decode cE_spawn 1 = .ok (.getfield 66, 3) := by decide +kernel
theorem dE_spawn_4 : decode cE_spawn 4 = .ok (.iload_n 1, 1) := by decide +kernel
theorem dE_spawn_5 : decode cE_spawn 5 = .ok (.iconst 0, 1) := by decide +kernel
theorem dE_spawn_6 : decode cE_spawn 6 = .ok (.bastore, 1) := by decide +kernel
theorem dE_spawn_7 : decode cE_spawn 7 = .ok (.iconst 0, 1) := by decide +kernel
theorem dE_spawn_8 : decode cE_spawn 8 = .ok (.istore_n 3, 1) := by decide +kernel
theorem dE_spawn_9 : decode cE_spawn 9 = .ok (.iload_n 3, 1) := by decide +kernel
theorem dE_spawn_10 : decode cE_spawn 10 = .ok (.aload_n 0, 1) := by decide +kernel
theorem dE_spawn_11 : decode cE_spawn 11 = .ok (.getfield 25, 3) := by decide +kernel
theorem dE_spawn_14 : decode cE_spawn 14 = .ok (.getfield 100, 3) := by decide +kernel
theorem dE_spawn_17 : decode cE_spawn 17 = .ok (.if_icmp .ge 29, 3) := by decide +kernel
theorem dE_spawn_20 : decode cE_spawn 20 = .ok (.aload_n 0, 1) := by decide +kernel
theorem dE_spawn_21 : decode cE_spawn 21 = .ok (.getfield 25, 3) := by decide +kernel
theorem dE_spawn_24 : decode cE_spawn 24 = .ok (.getfield 195, 3) := by decide +kernel
theorem dE_spawn_27 : decode cE_spawn 27 = .ok (.iload_n 3, 1) := by decide +kernel
theorem dE_spawn_28 : decode cE_spawn 28 = .ok (.iaload, 1) := by decide +kernel
theorem dE_spawn_29 : decode cE_spawn 29 = .ok (.iload_n 1, 1) := by decide +kernel
theorem dE_spawn_30 : decode cE_spawn 30 = .ok (.if_icmp .ne 10, 3) := by decide +kernel
theorem dE_spawn_33 : decode cE_spawn 33 = .ok (.aload_n 0, 1) := by decide +kernel
theorem dE_spawn_34 : decode cE_spawn 34 = .ok (.getfield 60, 3) := by decide +kernel
theorem dE_spawn_37 : decode cE_spawn 37 = .ok (.iload_n 3, 1) := by decide +kernel
theorem dE_spawn_38 : decode cE_spawn 38 = .ok (.iconst 0, 1) := by decide +kernel
theorem dE_spawn_39 : decode cE_spawn 39 = .ok (.iastore, 1) := by decide +kernel
theorem dE_spawn_40 : decode cE_spawn 40 = .ok (.iinc 3 1, 3) := by decide +kernel
theorem dE_spawn_43 : decode cE_spawn 43 = .ok (.goto (-34), 3) := by decide +kernel
theorem dE_spawn_46 : decode cE_spawn 46 = .ok (.aload_n 0, 1) := by decide +kernel
theorem dE_spawn_47 : decode cE_spawn 47 = .ok (.iload_n 1, 1) := by decide +kernel
theorem dE_spawn_48 : decode cE_spawn 48 = .ok (.iload_n 2, 1) := by decide +kernel
theorem dE_spawn_49 : decode cE_spawn 49 = .ok (.invokevirtual 189, 3) := by decide +kernel
theorem dE_spawn_52 : decode cE_spawn 52 = .ok (.return_, 1) := by decide +kernel
theorem dE_endUpwards_0 : decode cE_endUpwards 0 = .ok (.iconst 0, 1) := by decide +kernel
theorem dE_endUpwards_1 : decode cE_endUpwards 1 = .ok (.istore 5, 2) := by decide +kernel
theorem dE_endUpwards_3 : decode cE_endUpwards 3 = .ok (.iload_n 1, 1) := by decide +kernel
theorem dE_endUpwards_4 : decode cE_endUpwards 4 = .ok (.istore 6, 2) := by decide +kernel
theorem dE_endUpwards_6 : decode cE_endUpwards 6 = .ok (.iload_n 2, 1) := by decide +kernel
theorem dE_endUpwards_7 : decode cE_endUpwards 7 = .ok (.istore 7, 2) := by decide +kernel
theorem dE_endUpwards_9 : decode cE_endUpwards 9 = .ok (.iconst 0, 1) := by decide +kernel
theorem dE_endUpwards_10 : decode cE_endUpwards 10 = .ok (.istore 8, 2) := by decide +kernel
theorem dE_endUpwards_12 : decode cE_endUpwards 12 = .ok (.iload 8, 2) := by decide +kernel
theorem dE_endUpwards_14 : decode cE_endUpwards 14 = .ok (.iconst 3, 1) := by decide +kernel
theorem dE_endUpwards_15 : decode cE_endUpwards 15 = .ok (.if_icmp .gt 80, 3) := by decide +kernel
theorem dE_endUpwards_18 : decode cE_endUpwards 18 = .ok (.iload 6, 2) := by decide +kernel
theorem dE_endUpwards_20 : decode cE_endUpwards 20 = .ok (.iconst (-1), 1) := by decide +kernel
theorem dE_endUpwards_21 : decode cE_endUpwards 21 = .ok (.if_icmp .eq 74, 3) := by decide +kernel
theorem dE_endUpwards_24 : decode cE_endUpwards 24 = .ok (.aload_n 0, 1) := by decide +kernel
theorem dE_endUpwards_25 : decode cE_endUpwards 25 = .ok (.getfield 57, 3) := by decide +kernel
theorem dE_endUpwards_28 : decode cE_endUpwards 28 = .ok (.iload 6, 2) := by decide +kernel
theorem dE_endUpwards_30 : decode cE_endUpwards 30 = .ok (.iconst 0, 1) := by decide +kernel
theorem dE_endUpwards_31 : decode cE_endUpwards 31 = .ok (.iastore, 1) := by decide +kernel
theorem dE_endUpwards_32 : decode cE_endUpwards 32 = .ok (.iinc 5 1, 3) := by decide +kernel
theorem dE_endUpwards_35 : decode cE_endUpwards 35 = .ok (.iload 7, 2) := by decide +kernel
theorem dE_endUpwards_37 : decode cE_endUpwards 37 = .ok (.ifCond .ne 19, 3) := by decide +kernel
theorem dE_endUpwards_40 : decode cE_endUpwards 40 = .ok (.aload_n 0, 1) := by decide +kernel
theorem dE_endUpwards_41 : decode cE_endUpwards 41 = .ok (.getfield 114, 3) := by decide +kernel
theorem dE_endUpwards_44 : decode cE_endUpwards 44 = .ok (.ifCond .ne 12, 3) := by decide +kernel
theorem dE_endUpwards_47 : decode cE_endUpwards 47 = .ok (.aload_n 0, 1) := by decide +kernel
theorem dE_endUpwards_48 : decode cE_endUpwards 48 = .ok (.iload 6, 2) := by decide +kernel
theorem dE_endUpwards_50 : decode cE_endUpwards 50 = .ok (.iload_n 3, 1) := by decide +kernel
theorem dE_endUpwards_51 : decode cE_endUpwards 51 = .ok (.iload 4, 2) := by decide +kernel
theorem dE_endUpwards_53 : decode cE_endUpwards 53 = .ok (.invokevirtual 231, 3) := by decide +kernel
theorem dE_endUpwards_56 : decode cE_endUpwards 56 = .ok (.aload_n 0, 1) := by decide +kernel
theorem dE_endUpwards_57 : decode cE_endUpwards 57 = .ok (.iload 6, 2) := by decide +kernel
theorem dE_endUpwards_59 : decode cE_endUpwards 59 = .ok (.iload 7, 2) := by decide +kernel
theorem dE_endUpwards_61 : decode cE_endUpwards 61 = .ok (.invokevirtual 235, 3) := by decide +kernel
theorem dE_endUpwards_64 : decode cE_endUpwards 64 = .ok (.istore 6, 2) := by decide +kernel
theorem dE_endUpwards_66 : decode cE_endUpwards 66 = .ok (.iload 6, 2) := by decide +kernel
theorem dE_endUpwards_68 : decode cE_endUpwards 68 = .ok (.iconst (-1), 1) := by decide +kernel
theorem dE_endUpwards_69 : decode cE_endUpwards 69 = .ok (.if_icmp .eq 17, 3) := by decide +kernel
theorem dE_endUpwards_72 : decode cE_endUpwards 72 = .ok (.aload_n 0, 1) := by decide +kernel
theorem dE_endUpwards_73 : decode cE_endUpwards 73 = .ok (.getfield 66, 3) := by decide +kernel
theorem dE_endUpwards_76 : decode cE_endUpwards 76 = .ok (.iload 6, 2) := by decide +kernel
theorem dE_endUpwards_78 : decode cE_endUpwards 78 = .ok (.baload, 1) := by decide +kernel
theorem dE_endUpwards_79 : decode cE_endUpwards 79 = .ok (.ifCond .eq 7, 3) := by decide +kernel
theorem dE_endUpwards_82 : decode cE_endUpwards 82 = .ok (.iconst 1, 1) := by decide +kernel
theorem dE_endUpwards_83 : decode cE_endUpwards 83 = .ok (.goto 4, 3) := by decide +kernel
theorem dE_endUpwards_86 : decode cE_endUpwards 86 = .ok (.iconst 0, 1) := by decide +kernel
theorem dE_endUpwards_87 : decode cE_endUpwards 87 = .ok (.istore 7, 2) := by decide +kernel
theorem dE_endUpwards_89 : decode cE_endUpwards 89 = .ok (.iinc 8 1, 3) := by decide +kernel
theorem dE_endUpwards_92 : decode cE_endUpwards 92 = .ok (.goto (-80), 3) := by decide +kernel
theorem dE_endUpwards_95 : decode cE_endUpwards 95 = .ok (.iload 5, 2) := by decide +kernel
theorem dE_endUpwards_97 : decode cE_endUpwards 97 = .ok (.ireturn, 1) := by decide +kernel
theorem dE_parentThatEnds_0 : decode cE_parentThatEnds 0 = .ok (.aload_n 0, 1) := by decide +kernel
theorem dE_parentThatEnds_1 : decode cE_parentThatEnds 1 = .ok (.getfield 25, 3) := by decide +kernel
theorem dE_parentThatEnds_4 : decode cE_parentThatEnds 4 = .ok (.getfield 195, 3) := by decide +kernel
theorem dE_parentThatEnds_7 : decode cE_parentThatEnds 7 = .ok (.iload_n 1, 1) := by decide +kernel
theorem dE_parentThatEnds_8 : decode cE_parentThatEnds 8 = .ok (.iaload, 1) := by decide +kernel
theorem dE_parentThatEnds_9 : decode cE_parentThatEnds 9 = .ok (.istore_n 3, 1) := by decide +kernel
theorem dE_parentThatEnds_10 : decode cE_parentThatEnds 10 = .ok (.iload_n 3, 1) := by decide +kernel
theorem dE_parentThatEnds_11 : decode cE_parentThatEnds 11 = .ok (.iconst (-1), 1) := by decide +kernel
theorem dE_parentThatEnds_12 : decode cE_parentThatEnds 12 = .ok (.if_icmp .eq 16, 3) := by decide +kernel
theorem dE_parentThatEnds_15 : decode cE_parentThatEnds 15 = .ok (.aload_n 0, 1) := by decide +kernel
theorem dE_parentThatEnds_16 : decode cE_parentThatEnds 16 = .ok (.getfield 25, 3) := by decide +kernel
theorem dE_parentThatEnds_19 : decode cE_parentThatEnds 19 = .ok (.getfield 161, 3) := by decide +kernel
theorem dE_parentThatEnds_22 : decode cE_parentThatEnds 22 = .ok (.iload_n 3, 1) := by decide +kernel
theorem dE_parentThatEnds_23 : decode cE_parentThatEnds 23 = .ok (.iaload, 1) := by decide +kernel
theorem dE_parentThatEnds_24 : decode cE_parentThatEnds 24 = .ok (.iconst 2, 1) := by decide +kernel
theorem dE_parentThatEnds_25 : decode cE_parentThatEnds 25 = .ok (.if_icmp .eq 5, 3) := by decide +kernel
theorem dE_parentThatEnds_28 : decode cE_parentThatEnds 28 = .ok (.iconst (-1), 1) := by decide +kernel
theorem dE_parentThatEnds_29 : decode cE_parentThatEnds 29 = .ok (.ireturn, 1) := by decide +kernel
theorem dE_parentThatEnds_30 : decode cE_parentThatEnds 30 = .ok (.iload_n 2, 1) := by decide +kernel
theorem dE_parentThatEnds_31 : decode cE_parentThatEnds 31 = .ok (.ifCond .eq 10, 3) := by decide +kernel
theorem dE_parentThatEnds_34 : decode cE_parentThatEnds 34 = .ok (.aload_n 0, 1) := by decide +kernel
theorem dE_parentThatEnds_35 : decode cE_parentThatEnds 35 = .ok (.getfield 66, 3) := by decide +kernel
theorem dE_parentThatEnds_38 : decode cE_parentThatEnds 38 = .ok (.iload_n 3, 1) := by decide +kernel
theorem dE_parentThatEnds_39 : decode cE_parentThatEnds 39 = .ok (.iconst 1, 1) := by decide +kernel
theorem dE_parentThatEnds_40 : decode cE_parentThatEnds 40 = .ok (.bastore, 1) := by decide +kernel
theorem dE_parentThatEnds_41 : decode cE_parentThatEnds 41 = .ok (.aload_n 0, 1) := by decide +kernel
theorem dE_parentThatEnds_42 : decode cE_parentThatEnds 42 = .ok (.iload_n 3, 1) := by decide +kernel
theorem dE_parentThatEnds_43 : decode cE_parentThatEnds 43 = .ok (.invokevirtual 164, 3) := by decide +kernel
theorem dE_parentThatEnds_46 : decode cE_parentThatEnds 46 = .ok (.ifCond .eq 7, 3) := by decide +kernel
theorem dE_parentThatEnds_49 : decode cE_parentThatEnds 49 = .ok (.iconst (-1), 1) := by decide +kernel
theorem dE_parentThatEnds_50 : decode cE_parentThatEnds 50 = .ok (.goto 4, 3) := by decide +kernel
theorem dE_parentThatEnds_53 : decode cE_parentThatEnds 53 = .ok (.iload_n 3, 1) := by decide +kernel
theorem dE_parentThatEnds_54 : decode cE_parentThatEnds 54 = .ok (.ireturn, 1) := by decide +kernel
theorem dE_passOn_0 : decode cE_passOn 0 = .ok (.aload_n 0, 1) := by decide +kernel
theorem dE_passOn_1 : decode cE_passOn 1 = .ok (.getfield 25, 3) := by decide +kernel
theorem dE_passOn_4 : decode cE_passOn 4 = .ok (.getfield 161, 3) := by decide +kernel
theorem dE_passOn_7 : decode cE_passOn 7 = .ok (.iload_n 1, 1) := by decide +kernel
theorem dE_passOn_8 : decode cE_passOn 8 = .ok (.iaload, 1) := by decide +kernel
theorem dE_passOn_9 : decode cE_passOn 9 = .ok (.iconst 1, 1) := by decide +kernel
theorem dE_passOn_10 : decode cE_passOn 10 = .ok (.if_icmp .ne 37, 3) := by decide +kernel
theorem dE_passOn_13 : decode cE_passOn 13 = .ok (.iload_n 2, 1) := by decide +kernel
theorem dE_passOn_14 : decode cE_passOn 14 = .ok (.ifCond .lt 32, 3) := by decide +kernel
theorem dE_passOn_17 : decode cE_passOn 17 = .ok (.iload_n 2, 1) := by decide +kernel
theorem dE_passOn_18 : decode cE_passOn 18 = .ok (.aload_n 0, 1) := by decide +kernel
theorem dE_passOn_19 : decode cE_passOn 19 = .ok (.getfield 25, 3) := by decide +kernel
theorem dE_passOn_22 : decode cE_passOn 22 = .ok (.getfield 239, 3) := by decide +kernel
theorem dE_passOn_25 : decode cE_passOn 25 = .ok (.iload_n 1, 1) := by decide +kernel
theorem dE_passOn_26 : decode cE_passOn 26 = .ok (.iaload, 1) := by decide +kernel
theorem dE_passOn_27 : decode cE_passOn 27 = .ok (.if_icmp .ge 19, 3) := by decide +kernel
theorem dE_passOn_30 : decode cE_passOn 30 = .ok (.aload_n 0, 1) := by decide +kernel
theorem dE_passOn_31 : decode cE_passOn 31 = .ok (.aload_n 0, 1) := by decide +kernel
theorem dE_passOn_32 : decode cE_passOn 32 = .ok (.getfield 25, 3) := by decide +kernel
theorem dE_passOn_35 : decode cE_passOn 35 = .ok (.getfield 242, 3) := by decide +kernel
theorem dE_passOn_38 : decode cE_passOn 38 = .ok (.iload_n 1, 1) := by decide +kernel
theorem dE_passOn_39 : decode cE_passOn 39 = .ok (.aaload, 1) := by decide +kernel
theorem dE_passOn_40 : decode cE_passOn 40 = .ok (.iload_n 2, 1) := by decide +kernel
theorem dE_passOn_41 : decode cE_passOn 41 = .ok (.iaload, 1) := by decide +kernel
theorem dE_passOn_42 : decode cE_passOn 42 = .ok (.iload_n 3, 1) := by decide +kernel
theorem dE_passOn_43 : decode cE_passOn 43 = .ok (.invokevirtual 201, 3) := by decide +kernel
theorem dE_passOn_46 : decode cE_passOn 46 = .ok (.return_, 1) := by decide +kernel
theorem dE_passOn_47 : decode cE_passOn 47 = .ok (.iconst 0, 1) := by decide +kernel
theorem dE_passOn_48 : decode cE_passOn 48 = .ok (.istore 4, 2) := by decide +kernel
theorem dE_passOn_50 : decode cE_passOn 50 = .ok (.iload 4, 2) := by decide +kernel
theorem dE_passOn_52 : decode cE_passOn 52 = .ok (.aload_n 0, 1) := by decide +kernel
theorem dE_passOn_53 : decode cE_passOn 53 = .ok (.getfield 25, 3) := by decide +kernel
theorem dE_passOn_56 : decode cE_passOn 56 = .ok (.getfield 239, 3) := by decide +kernel
theorem dE_passOn_59 : decode cE_passOn 59 = .ok (.iload_n 1, 1) := by decide +kernel
theorem dE_passOn_60 : decode cE_passOn 60 = .ok (.iaload, 1) := by decide +kernel
theorem dE_passOn_61 : decode cE_passOn 61 = .ok (.if_icmp .ge 26, 3) := by decide +kernel
theorem dE_passOn_64 : decode cE_passOn 64 = .ok (.aload_n 0, 1) := by decide +kernel
theorem dE_passOn_65 : decode cE_passOn 65 = .ok (.aload_n 0, 1) := by decide +kernel
theorem dE_passOn_66 : decode cE_passOn 66 = .ok (.getfield 25, 3) := by decide +kernel
theorem dE_passOn_69 : decode cE_passOn 69 = .ok (.getfield 242, 3) := by decide +kernel
theorem dE_passOn_72 : decode cE_passOn 72 = .ok (.iload_n 1, 1) := by decide +kernel
theorem dE_passOn_73 : decode cE_passOn 73 = .ok (.aaload, 1) := by decide +kernel
theorem dE_passOn_74 : decode cE_passOn 74 = .ok (.iload 4, 2) := by decide +kernel
theorem dE_passOn_76 : decode cE_passOn 76 = .ok (.iaload, 1) := by decide +kernel
theorem dE_passOn_77 : decode cE_passOn 77 = .ok (.iload_n 3, 1) := by decide +kernel
theorem dE_passOn_78 : decode cE_passOn 78 = .ok (.invokevirtual 246, 3) := by decide +kernel
theorem dE_passOn_81 : decode cE_passOn 81 = .ok (.iinc 4 1, 3) := by decide +kernel
theorem dE_passOn_84 : decode cE_passOn 84 = .ok (.goto (-34), 3) := by decide +kernel
theorem dE_passOn_87 : decode cE_passOn 87 = .ok (.return_, 1) := by decide +kernel
theorem dE_arrive_0 : decode cE_arrive 0 = .ok (.aload_n 0, 1) := by decide +kernel
theorem dE_arrive_1 : decode cE_arrive 1 = .ok (.getfield 60, 3) := by decide +kernel
theorem dE_arrive_4 : decode cE_arrive 4 = .ok (.iload_n 1, 1) := by decide +kernel
theorem dE_arrive_5 : decode cE_arrive 5 = .ok (.dup2, 1) := by decide +kernel
theorem dE_arrive_6 : decode cE_arrive 6 = .ok (.iaload, 1) := by decide +kernel
theorem dE_arrive_7 : decode cE_arrive 7 = .ok (.iconst 1, 1) := by decide +kernel
theorem dE_arrive_8 : decode cE_arrive 8 = .ok (.iadd, 1) := by decide +kernel
theorem dE_arrive_9 : decode cE_arrive 9 = .ok (.iastore, 1) := by decide +kernel
theorem dE_arrive_10 : decode cE_arrive 10 = .ok (.aload_n 0, 1) := by decide +kernel
theorem dE_arrive_11 : decode cE_arrive 11 = .ok (.getfield 60, 3) := by decide +kernel
theorem dE_arrive_14 : decode cE_arrive 14 = .ok (.iload_n 1, 1) := by decide +kernel
theorem dE_arrive_15 : decode cE_arrive 15 = .ok (.iaload, 1) := by decide +kernel
theorem dE_arrive_16 : decode cE_arrive 16 = .ok (.aload_n 0, 1) := by decide +kernel
theorem dE_arrive_17 : decode cE_arrive 17 = .ok (.getfield 25, 3) := by decide +kernel
theorem dE_arrive_20 : decode cE_arrive 20 = .ok (.getfield 249, 3) := by decide +kernel
theorem dE_arrive_23 : decode cE_arrive 23 = .ok (.iload_n 1, 1) := by decide +kernel
theorem dE_arrive_24 : decode cE_arrive 24 = .ok (.iaload, 1) := by decide +kernel
theorem dE_arrive_25 : decode cE_arrive 25 = .ok (.if_icmp .ne 16, 3) := by decide +kernel
theorem dE_arrive_28 : decode cE_arrive 28 = .ok (.aload_n 0, 1) := by decide +kernel
theorem dE_arrive_29 : decode cE_arrive 29 = .ok (.getfield 60, 3) := by decide +kernel
theorem dE_arrive_32 : decode cE_arrive 32 = .ok (.iload_n 1, 1) := by decide +kernel
theorem dE_arrive_33 : decode cE_arrive 33 = .ok (.iconst 0, 1) := by decide +kernel
theorem dE_arrive_34 : decode cE_arrive 34 = .ok (.iastore, 1) := by decide +kernel
theorem dE_arrive_35 : decode cE_arrive 35 = .ok (.aload_n 0, 1) := by decide +kernel
theorem dE_arrive_36 : decode cE_arrive 36 = .ok (.iload_n 1, 1) := by decide +kernel
theorem dE_arrive_37 : decode cE_arrive 37 = .ok (.iload_n 2, 1) := by decide +kernel
theorem dE_arrive_38 : decode cE_arrive 38 = .ok (.invokevirtual 201, 3) := by decide +kernel
theorem dE_arrive_41 : decode cE_arrive 41 = .ok (.return_, 1) := by decide +kernel
theorem dE_dropReadyAndParked_0 : decode cE_dropReadyAndParked 0 = .ok (.iconst 0, 1) := by decide +kernel
theorem dE_dropReadyAndParked_1 : decode cE_dropReadyAndParked 1 = .ok (.istore_n 1, 1) := by decide +kernel
theorem dE_dropReadyAndParked_2 : decode cE_dropReadyAndParked 2 = .ok (.iconst 0, 1) := by decide +kernel
theorem dE_dropReadyAndParked_3 : decode cE_dropReadyAndParked 3 = .ok (.istore_n 2, 1) := by decide +kernel
theorem dE_dropReadyAndParked_4 : decode cE_dropReadyAndParked 4 = .ok (.iload_n 2, 1) := by decide +kernel
theorem dE_dropReadyAndParked_5 : decode cE_dropReadyAndParked 5 = .ok (.aload_n 0, 1) := by decide +kernel
theorem dE_dropReadyAndParked_6 : decode cE_dropReadyAndParked 6 = .ok (.getfield 25, 3) := by decide +kernel
theorem dE_dropReadyAndParked_9 : decode cE_dropReadyAndParked 9 = .ok (.getfield 100, 3) := by decide +kernel
theorem dE_dropReadyAndParked_12 : decode cE_dropReadyAndParked 12 = .ok (.if_icmp .ge 40, 3) := by decide +kernel
theorem dE_dropReadyAndParked_15 : decode cE_dropReadyAndParked 15 = .ok (.aload_n 0, 1) := by decide +kernel
theorem dE_dropReadyAndParked_16 : decode cE_dropReadyAndParked 16 = .ok (.getfield 57, 3) := by decide +kernel
theorem dE_dropReadyAndParked_19 : decode cE_dropReadyAndParked 19 = .ok (.iload_n 2, 1) := by decide +kernel
theorem dE_dropReadyAndParked_20 : decode cE_dropReadyAndParked 20 = .ok (.iaload, 1) := by decide +kernel
theorem dE_dropReadyAndParked_21 : decode cE_dropReadyAndParked 21 = .ok (.iconst 1, 1) := by decide +kernel
theorem dE_dropReadyAndParked_22 : decode cE_dropReadyAndParked 22 = .ok (.if_icmp .eq 14, 3) := by decide +kernel
theorem dE_dropReadyAndParked_25 : decode cE_dropReadyAndParked 25 = .ok (.aload_n 0, 1) := by decide +kernel
theorem dE_dropReadyAndParked_26 : decode cE_dropReadyAndParked 26 = .ok (.getfield 57, 3) := by decide +kernel
theorem dE_dropReadyAndParked_29 : decode cE_dropReadyAndParked 29 = .ok (.iload_n 2, 1) := by decide +kernel
theorem dE_dropReadyAndParked_30 : decode cE_dropReadyAndParked 30 = .ok (.iaload, 1) := by decide +kernel
theorem dE_dropReadyAndParked_31 : decode cE_dropReadyAndParked 31 = .ok (.bipush 10, 2) := by decide +kernel
theorem dE_dropReadyAndParked_33 : decode cE_dropReadyAndParked 33 = .ok (.if_icmp .lt 13, 3) := by decide +kernel
theorem dE_dropReadyAndParked_36 : decode cE_dropReadyAndParked 36 = .ok (.aload_n 0, 1) := by decide +kernel
theorem dE_dropReadyAndParked_37 : decode cE_dropReadyAndParked 37 = .ok (.getfield 57, 3) := by decide +kernel
theorem dE_dropReadyAndParked_40 : decode cE_dropReadyAndParked 40 = .ok (.iload_n 2, 1) := by decide +kernel
theorem dE_dropReadyAndParked_41 : decode cE_dropReadyAndParked 41 = .ok (.iconst 0, 1) := by decide +kernel
theorem dE_dropReadyAndParked_42 : decode cE_dropReadyAndParked 42 = .ok (.iastore, 1) := by decide +kernel
theorem dE_dropReadyAndParked_43 : decode cE_dropReadyAndParked 43 = .ok (.iinc 1 1, 3) := by decide +kernel
theorem dE_dropReadyAndParked_46 : decode cE_dropReadyAndParked 46 = .ok (.iinc 2 1, 3) := by decide +kernel
theorem dE_dropReadyAndParked_49 : decode cE_dropReadyAndParked 49 = .ok (.goto (-45), 3) := by decide +kernel
theorem dE_dropReadyAndParked_52 : decode cE_dropReadyAndParked 52 = .ok (.iconst 0, 1) := by decide +kernel
theorem dE_dropReadyAndParked_53 : decode cE_dropReadyAndParked 53 = .ok (.istore_n 2, 1) := by decide +kernel
theorem dE_dropReadyAndParked_54 : decode cE_dropReadyAndParked 54 = .ok (.iload_n 2, 1) := by decide +kernel
theorem dE_dropReadyAndParked_55 : decode cE_dropReadyAndParked 55 = .ok (.aload_n 0, 1) := by decide +kernel
theorem dE_dropReadyAndParked_56 : decode cE_dropReadyAndParked 56 = .ok (.getfield 18, 3) := by decide +kernel
theorem dE_dropReadyAndParked_59 : decode cE_dropReadyAndParked 59 = .ok (.if_icmp .gt 19, 3) := by decide +kernel
theorem dE_dropReadyAndParked_62 : decode cE_dropReadyAndParked 62 = .ok (.aload_n 0, 1) := by decide +kernel
theorem dE_dropReadyAndParked_63 : decode cE_dropReadyAndParked 63 = .ok (.getfield 38, 3) := by decide +kernel
theorem dE_dropReadyAndParked_66 : decode cE_dropReadyAndParked 66 = .ok (.iload_n 2, 1) := by decide +kernel
theorem dE_dropReadyAndParked_67 : decode cE_dropReadyAndParked 67 = .ok (.aaload, 1) := by decide +kernel
theorem dE_dropReadyAndParked_68 : decode cE_dropReadyAndParked 68 = .ok (.iconst 0, 1) := by decide +kernel
theorem dE_dropReadyAndParked_69 : decode cE_dropReadyAndParked 69 = .ok (.putfield 210, 3) := by decide +kernel
theorem dE_dropReadyAndParked_72 : decode cE_dropReadyAndParked 72 = .ok (.iinc 2 1, 3) := by decide +kernel
theorem dE_dropReadyAndParked_75 : decode cE_dropReadyAndParked 75 = .ok (.goto (-21), 3) := by decide +kernel
theorem dE_dropReadyAndParked_78 : decode cE_dropReadyAndParked 78 = .ok (.aload_n 0, 1) := by decide +kernel
theorem dE_dropReadyAndParked_79 : decode cE_dropReadyAndParked 79 = .ok (.getfield 43, 3) := by decide +kernel
theorem dE_dropReadyAndParked_82 : decode cE_dropReadyAndParked 82 = .ok (.iconst 0, 1) := by decide +kernel
theorem dE_dropReadyAndParked_83 : decode cE_dropReadyAndParked 83 = .ok (.putfield 210, 3) := by decide +kernel
theorem dE_dropReadyAndParked_86 : decode cE_dropReadyAndParked 86 = .ok (.iload_n 1, 1) := by decide +kernel
theorem dE_dropReadyAndParked_87 : decode cE_dropReadyAndParked 87 = .ok (.ireturn, 1) := by decide +kernel
theorem dE_endChildlessWaiting_0 : decode cE_endChildlessWaiting 0 = .ok (.aload_n 0, 1) := by decide +kernel
theorem dE_endChildlessWaiting_1 : decode cE_endChildlessWaiting 1 = .ok (.getfield 25, 3) := by decide +kernel
theorem dE_endChildlessWaiting_4 : decode cE_endChildlessWaiting 4 = .ok (.getfield 100, 3) := by decide +kernel
theorem dE_endChildlessWaiting_7 : decode cE_endChildlessWaiting 7 = .ok (.iconst 1, 1) := by decide +kernel
theorem dE_endChildlessWaiting_8 : decode cE_endChildlessWaiting 8 = .ok (.isub, 1) := by decide +kernel
theorem dE_endChildlessWaiting_9 : decode cE_endChildlessWaiting 9 = .ok (.istore_n 1, 1) := by decide +kernel
theorem dE_endChildlessWaiting_10 : decode cE_endChildlessWaiting 10 = .ok (.iload_n 1, 1) := by decide +kernel
theorem dE_endChildlessWaiting_11 : decode cE_endChildlessWaiting 11 = .ok (.ifCond .lt 34, 3) := by decide +kernel
theorem dE_endChildlessWaiting_14 : decode cE_endChildlessWaiting 14 = .ok (.aload_n 0, 1) := by decide +kernel
theorem dE_endChildlessWaiting_15 : decode cE_endChildlessWaiting 15 = .ok (.getfield 57, 3) := by decide +kernel
theorem dE_endChildlessWaiting_18 : decode cE_endChildlessWaiting 18 = .ok (.iload_n 1, 1) := by decide +kernel
theorem dE_endChildlessWaiting_19 : decode cE_endChildlessWaiting 19 = .ok (.iaload, 1) := by decide +kernel
theorem dE_endChildlessWaiting_20 : decode cE_endChildlessWaiting 20 = .ok (.iconst 2, 1) := by decide +kernel
theorem dE_endChildlessWaiting_21 : decode cE_endChildlessWaiting 21 = .ok (.if_icmp .ne 18, 3) := by decide +kernel
theorem dE_endChildlessWaiting_24 : decode cE_endChildlessWaiting 24 = .ok (.aload_n 0, 1) := by decide +kernel
theorem dE_endChildlessWaiting_25 : decode cE_endChildlessWaiting 25 = .ok (.iload_n 1, 1) := by decide +kernel
theorem dE_endChildlessWaiting_26 : decode cE_endChildlessWaiting 26 = .ok (.invokevirtual 164, 3) := by decide +kernel
theorem dE_endChildlessWaiting_29 : decode cE_endChildlessWaiting 29 = .ok (.ifCond .ne 10, 3) := by decide +kernel
theorem dE_endChildlessWaiting_32 : decode cE_endChildlessWaiting 32 = .ok (.aload_n 0, 1) := by decide +kernel
theorem dE_endChildlessWaiting_33 : decode cE_endChildlessWaiting 33 = .ok (.getfield 57, 3) := by decide +kernel
theorem dE_endChildlessWaiting_36 : decode cE_endChildlessWaiting 36 = .ok (.iload_n 1, 1) := by decide +kernel
theorem dE_endChildlessWaiting_37 : decode cE_endChildlessWaiting 37 = .ok (.iconst 0, 1) := by decide +kernel
theorem dE_endChildlessWaiting_38 : decode cE_endChildlessWaiting 38 = .ok (.iastore, 1) := by decide +kernel
theorem dE_endChildlessWaiting_39 : decode cE_endChildlessWaiting 39 = .ok (.iinc 1 (-1), 3) := by decide +kernel
theorem dE_endChildlessWaiting_42 : decode cE_endChildlessWaiting 42 = .ok (.goto (-32), 3) := by decide +kernel
theorem dE_endChildlessWaiting_45 : decode cE_endChildlessWaiting 45 = .ok (.return_, 1) := by decide +kernel
