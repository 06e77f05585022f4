theorem dR_settle_46 : decode cR_settle 46 = .ok (.ifCond .ne 21, 3) := by decide +kernel
theorem dR_settle_49 : decode cR_settle 49 = .ok (.aload_n 0, 1) := by decide +kernel
theorem dR_settle_50 : decode cR_settle 50 = .ok (.getfield 53, 3) := by decide +kernel
theorem dR_settle_53 : decode cR_settle 53 = .ok (.ifCond .ge 14, 3) := by decide +kernel
theorem dR_settle_56 : decode cR_settle 56 = .ok (.aload_n 0, 1) := by decide +kernel
theorem dR_settle_57 : decode cR_settle 57 = .ok (.getfield 99, 3) := by decide +kernel
theorem dR_settle_60 : decode cR_settle 60 = .ok (.aload_n 0, 1) := by decide +kernel
theorem dR_settle_61 : decode cR_settle 61 = .ok (.getfield 115, 3) := by decide +kernel
theorem dR_settle_64 : decode cR_settle 64 = .ok (.if_icmp .ne 11, 3) := by decide +kernel
theorem dR_settle_67 : decode cR_settle 67 = .ok (.aload_n 0, 1) := by decide +kernel
theorem dR_settle_68 : decode cR_settle 68 = .ok (.iconst 0, 1) := by decide +kernel
theorem dR_settle_69 : decode cR_settle 69 = .ok (.putfield 67, 3) := by decide +kernel
theorem dR_settle_72 : decode cR_settle 72 = .ok (.goto 7, 3) := by decide +kernel
theorem dR_settle_75 : decode cR_settle 75 = .ok (.aload_n 0, 1) := by decide +kernel
theorem dR_settle_76 : decode cR_settle 76 = .ok (.invokevirtual 121, 3) := by decide +kernel
theorem dR_settle_79 : decode cR_settle 79 = .ok (.return_, 1) := by decide +kernel
theorem dR_finish_0 : decode cR_finish 0 = .ok (.aload_n 0, 1) := by decide +kernel
theorem dR_finish_1 : decode cR_finish 1 = .ok (.iload_n 1, 1) := by decide +kernel
theorem dR_finish_2 : decode cR_finish 2 = .ok (.invokevirtual 131, 3) := by decide +kernel
theorem dR_finish_5 : decode cR_finish 5 = .ok (.istore_n 3, 1) := by decide +kernel
theorem dR_finish_6 : decode cR_finish 6 = .ok (.iload_n 3, 1) := by decide +kernel
theorem dR_finish_7 : decode cR_finish 7 = .ok (.ifCond .ge 5, 3) := by decide +kernel
theorem dR_finish_10 : decode cR_finish 10 = .ok (.iconst (-1), 1) := by decide +kernel
theorem dR_finish_11 : decode cR_finish 11 = .ok (.ireturn, 1) := by decide +kernel
theorem dR_finish_12 : decode cR_finish 12 = .ok (.aload_n 0, 1) := by decide +kernel
theorem dR_finish_13 : decode cR_finish 13 = .ok (.iload_n 3, 1) := by decide +kernel
theorem dR_finish_14 : decode cR_finish 14 = .ok (.invokevirtual 147, 3) := by decide +kernel
theorem dR_finish_17 : decode cR_finish 17 = .ok (.aload_n 0, 1) := by decide +kernel
theorem dR_finish_18 : decode cR_finish 18 = .ok (.getfield 112, 3) := by decide +kernel
theorem dR_finish_21 : decode cR_finish 21 = .ok (.ifCond .ne 53, 3) := by decide +kernel
theorem dR_finish_24 : decode cR_finish 24 = .ok (.aload_n 0, 1) := by decide +kernel
theorem dR_finish_25 : decode cR_finish 25 = .ok (.getfield 7, 3) := by decide +kernel
theorem dR_finish_28 : decode cR_finish 28 = .ok (.iload_n 3, 1) := by decide +kernel
theorem dR_finish_29 : decode cR_finish 29 = .ok (.iaload, 1) := by decide +kernel
theorem dR_finish_30 : decode cR_finish 30 = .ok (.iconst 2, 1) := by decide +kernel
theorem dR_finish_31 : decode cR_finish 31 = .ok (.if_icmp .lt 43, 3) := by decide +kernel
theorem dR_finish_34 : decode cR_finish 34 = .ok (.aload_n 0, 1) := by decide +kernel
theorem dR_finish_35 : decode cR_finish 35 = .ok (.getfield 37, 3) := by decide +kernel
theorem dR_finish_38 : decode cR_finish 38 = .ok (.iload_n 3, 1) := by decide +kernel
theorem dR_finish_39 : decode cR_finish 39 = .ok (.iconst 0, 1) := by decide +kernel
theorem dR_finish_40 : decode cR_finish 40 = .ok (.bastore, 1) := by decide +kernel
theorem dR_finish_41 : decode cR_finish 41 = .ok (.aload_n 0, 1) := by decide +kernel
theorem dR_finish_42 : decode cR_finish 42 = .ok (.iload_n 3, 1) := by decide +kernel
theorem dR_finish_43 : decode cR_finish 43 = .ok (.iload_n 1, 1) := by decide +kernel
theorem dR_finish_44 : decode cR_finish 44 = .ok (.invokevirtual 102, 3) := by decide +kernel
theorem dR_finish_47 : decode cR_finish 47 = .ok (.aload_n 0, 1) := by decide +kernel
theorem dR_finish_48 : decode cR_finish 48 = .ok (.getfield 7, 3) := by decide +kernel
theorem dR_finish_51 : decode cR_finish 51 = .ok (.iload_n 3, 1) := by decide +kernel
theorem dR_finish_52 : decode cR_finish 52 = .ok (.iaload, 1) := by decide +kernel
theorem dR_finish_53 : decode cR_finish 53 = .ok (.iconst 2, 1) := by decide +kernel
theorem dR_finish_54 : decode cR_finish 54 = .ok (.if_icmp .ne 20, 3) := by decide +kernel
theorem dR_finish_57 : decode cR_finish 57 = .ok (.aload_n 0, 1) := by decide +kernel
theorem dR_finish_58 : decode cR_finish 58 = .ok (.iload_n 3, 1) := by decide +kernel
theorem dR_finish_59 : decode cR_finish 59 = .ok (.invokevirtual 144, 3) := by decide +kernel
theorem dR_finish_62 : decode cR_finish 62 = .ok (.ifCond .eq 12, 3) := by decide +kernel
theorem dR_finish_65 : decode cR_finish 65 = .ok (.aload_n 0, 1) := by decide +kernel
theorem dR_finish_66 : decode cR_finish 66 = .ok (.getfield 22, 3) := by decide +kernel
theorem dR_finish_69 : decode cR_finish 69 = .ok (.iload_n 3, 1) := by decide +kernel
theorem dR_finish_70 : decode cR_finish 70 = .ok (.iconst 2, 1) := by decide +kernel
theorem dR_finish_71 : decode cR_finish 71 = .ok (.iastore, 1) := by decide +kernel
theorem dR_finish_72 : decode cR_finish 72 = .ok (.iconst 0, 1) := by decide +kernel
theorem dR_finish_73 : decode cR_finish 73 = .ok (.ireturn, 1) := by decide +kernel
theorem dR_finish_74 : decode cR_finish 74 = .ok (.aload_n 0, 1) := by decide +kernel
theorem dR_finish_75 : decode cR_finish 75 = .ok (.iload_n 3, 1) := by decide +kernel
theorem dR_finish_76 : decode cR_finish 76 = .ok (.iload_n 1, 1) := by decide +kernel
theorem dR_finish_77 : decode cR_finish 77 = .ok (.iload_n 2, 1) := by decide +kernel
theorem dR_finish_78 : decode cR_finish 78 = .ok (.iconst 0, 1) := by decide +kernel
theorem dR_finish_79 : decode cR_finish 79 = .ok (.invokevirtual 151, 3) := by decide +kernel
theorem dR_finish_82 : decode cR_finish 82 = .ok (.istore 4, 2) := by decide +kernel
theorem dR_finish_84 : decode cR_finish 84 = .ok (.aload_n 0, 1) := by decide +kernel
theorem dR_finish_85 : decode cR_finish 85 = .ok (.invokevirtual 155, 3) := by decide +kernel
theorem dR_finish_88 : decode cR_finish 88 = .ok (.iload 4, 2) := by decide +kernel
theorem dR_finish_90 : decode cR_finish 90 = .ok (.ireturn, 1) := by decide +kernel
theorem dR_fail_0 : decode cR_fail 0 = .ok (.aload_n 0, 1) := by decide +kernel
theorem dR_fail_1 : decode cR_fail 1 = .ok (.iload_n 1, 1) := by decide +kernel
theorem dR_fail_2 : decode cR_fail 2 = .ok (.invokevirtual 131, 3) := by decide +kernel
theorem dR_fail_5 : decode cR_fail 5 = .ok (.istore_n 2, 1) := by decide +kernel
theorem dR_fail_6 : decode cR_fail 6 = .ok (.iload_n 2, 1) := by decide +kernel
theorem dR_fail_7 : decode cR_fail 7 = .ok (.ifCond .ge 5, 3) := by decide +kernel
theorem dR_fail_10 : decode cR_fail 10 = .ok (.iconst (-1), 1) := by decide +kernel
theorem dR_fail_11 : decode cR_fail 11 = .ok (.ireturn, 1) := by decide +kernel
theorem dR_fail_12 : decode cR_fail 12 = .ok (.aload_n 0, 1) := by decide +kernel
theorem dR_fail_13 : decode cR_fail 13 = .ok (.aload_n 0, 1) := by decide +kernel
theorem dR_fail_14 : decode cR_fail 14 = .ok (.getfield 53, 3) := by decide +kernel
theorem dR_fail_17 : decode cR_fail 17 = .ok (.ifCond .ge 7, 3) := by decide +kernel
theorem dR_fail_20 : decode cR_fail 20 = .ok (.iload_n 2, 1) := by decide +kernel
theorem dR_fail_21 : decode cR_fail 21 = .ok (.goto 7, 3) := by decide +kernel
theorem dR_fail_24 : decode cR_fail 24 = .ok (.aload_n 0, 1) := by decide +kernel
theorem dR_fail_25 : decode cR_fail 25 = .ok (.getfield 53, 3) := by decide +kernel
theorem dR_fail_28 : decode cR_fail 28 = .ok (.putfield 53, 3) := by decide +kernel
theorem dR_fail_31 : decode cR_fail 31 = .ok (.aload_n 0, 1) := by decide +kernel
theorem dR_fail_32 : decode cR_fail 32 = .ok (.iload_n 2, 1) := by decide +kernel
theorem dR_fail_33 : decode cR_fail 33 = .ok (.invokevirtual 147, 3) := by decide +kernel
theorem dR_fail_36 : decode cR_fail 36 = .ok (.aload_n 0, 1) := by decide +kernel
theorem dR_fail_37 : decode cR_fail 37 = .ok (.iload_n 2, 1) := by decide +kernel
theorem dR_fail_38 : decode cR_fail 38 = .ok (.iload_n 1, 1) := by decide +kernel
theorem dR_fail_39 : decode cR_fail 39 = .ok (.iconst 0, 1) := by decide +kernel
theorem dR_fail_40 : decode cR_fail 40 = .ok (.iconst 1, 1) := by decide +kernel
theorem dR_fail_41 : decode cR_fail 41 = .ok (.invokevirtual 151, 3) := by decide +kernel
theorem dR_fail_44 : decode cR_fail 44 = .ok (.istore_n 3, 1) := by decide +kernel
theorem dR_fail_45 : decode cR_fail 45 = .ok (.aload_n 0, 1) := by decide +kernel
theorem dR_fail_46 : decode cR_fail 46 = .ok (.invokevirtual 155, 3) := by decide +kernel
theorem dR_fail_49 : decode cR_fail 49 = .ok (.iload_n 3, 1) := by decide +kernel
theorem dR_fail_50 : decode cR_fail 50 = .ok (.ireturn, 1) := by decide +kernel
theorem dR_cancel_0 : decode cR_cancel 0 = .ok (.aload_n 0, 1) := by decide +kernel
theorem dR_cancel_1 : decode cR_cancel 1 = .ok (.getfield 67, 3) := by decide +kernel
theorem dR_cancel_4 : decode cR_cancel 4 = .ok (.ifCond .eq 10, 3) := by decide +kernel
theorem dR_cancel_7 : decode cR_cancel 7 = .ok (.aload_n 0, 1) := by decide +kernel
theorem dR_cancel_8 : decode cR_cancel 8 = .ok (.getfield 112, 3) := by decide +kernel
theorem dR_cancel_11 : decode cR_cancel 11 = .ok (.ifCond .eq 5, 3) := by decide +kernel
theorem dR_cancel_14 : decode cR_cancel 14 = .ok (.iconst (-1), 1) := by decide +kernel
theorem dR_cancel_15 : decode cR_cancel 15 = .ok (.ireturn, 1) := by decide +kernel
theorem dR_cancel_16 : decode cR_cancel 16 = .ok (.aload_n 0, 1) := by decide +kernel
theorem dR_cancel_17 : decode cR_cancel 17 = .ok (.iconst 1, 1) := by decide +kernel
theorem dR_cancel_18 : decode cR_cancel 18 = .ok (.putfield 112, 3) := by decide +kernel
theorem dR_cancel_21 : decode cR_cancel 21 = .ok (.iconst 0, 1) := by decide +kernel
theorem dR_cancel_22 : decode cR_cancel 22 = .ok (.istore_n 1, 1) := by decide +kernel
theorem dR_cancel_23 : decode cR_cancel 23 = .ok (.iconst 0, 1) := by decide +kernel
theorem dR_cancel_24 : decode cR_cancel 24 = .ok (.istore_n 2, 1) := by decide +kernel
theorem dR_cancel_25 : decode cR_cancel 25 = .ok (.iload_n 2, 1) := by decide +kernel
theorem dR_cancel_26 : decode cR_cancel 26 = .ok (.aload_n 0, 1) := by decide +kernel
theorem dR_cancel_27 : decode cR_cancel 27 = .ok (.getfield 60, 3) := by decide +kernel
theorem dR_cancel_30 : decode cR_cancel 30 = .ok (.if_icmp .ge 40, 3) := by decide +kernel
theorem dR_cancel_33 : decode cR_cancel 33 = .ok (.aload_n 0, 1) := by decide +kernel
theorem dR_cancel_34 : decode cR_cancel 34 = .ok (.getfield 22, 3) := by decide +kernel
theorem dR_cancel_37 : decode cR_cancel 37 = .ok (.iload_n 2, 1) := by decide +kernel
theorem dR_cancel_38 : decode cR_cancel 38 = .ok (.iaload, 1) := by decide +kernel
theorem dR_cancel_39 : decode cR_cancel 39 = .ok (.iconst 4, 1) := by decide +kernel
theorem dR_cancel_40 : decode cR_cancel 40 = .ok (.if_icmp .eq 13, 3) := by decide +kernel
theorem dR_cancel_43 : decode cR_cancel 43 = .ok (.aload_n 0, 1) := by decide +kernel
theorem dR_cancel_44 : decode cR_cancel 44 = .ok (.getfield 22, 3) := by decide +kernel
theorem dR_cancel_47 : decode cR_cancel 47 = .ok (.iload_n 2, 1) := by decide +kernel
theorem dR_cancel_48 : decode cR_cancel 48 = .ok (.iaload, 1) := by decide +kernel
theorem dR_cancel_49 : decode cR_cancel 49 = .ok (.iconst 1, 1) := by decide +kernel
theorem dR_cancel_50 : decode cR_cancel 50 = .ok (.if_icmp .ne 14, 3) := by decide +kernel
theorem dR_cancel_53 : decode cR_cancel 53 = .ok (.aload_n 0, 1) := by decide +kernel
theorem dR_cancel_54 : decode cR_cancel 54 = .ok (.getfield 22, 3) := by decide +kernel
theorem dR_cancel_57 : decode cR_cancel 57 = .ok (.iload_n 2, 1) := by decide +kernel
theorem dR_cancel_58 : decode cR_cancel 58 = .ok (.iconst 0, 1) := by decide +kernel
theorem dR_cancel_59 : decode cR_cancel 59 = .ok (.iastore, 1) := by decide +kernel
theorem dR_cancel_60 : decode cR_cancel 60 = .ok (.iload_n 1, 1) := by decide +kernel
theorem dR_cancel_61 : decode cR_cancel 61 = .ok (.iconst 1, 1) := by decide +kernel
theorem dR_cancel_62 : decode cR_cancel 62 = .ok (.iadd, 1) := by decide +kernel
theorem dR_cancel_63 : decode cR_cancel 63 = .ok (.istore_n 1, 1) := by decide +kernel
theorem dR_cancel_64 : decode cR_cancel 64 = .ok (.iinc 2 1, 3) := by decide +kernel
theorem dR_cancel_67 : decode cR_cancel 67 = .ok (.goto (-42), 3) := by decide +kernel
theorem dR_cancel_70 : decode cR_cancel 70 = .ok (.iconst 0, 1) := by decide +kernel
theorem dR_cancel_71 : decode cR_cancel 71 = .ok (.istore_n 2, 1) := by decide +kernel
theorem dR_cancel_72 : decode cR_cancel 72 = .ok (.iload_n 2, 1) := by decide +kernel
theorem dR_cancel_73 : decode cR_cancel 73 = .ok (.iconst 4, 1) := by decide +kernel
theorem dR_cancel_74 : decode cR_cancel 74 = .ok (.if_icmp .ge 50, 3) := by decide +kernel
theorem dR_cancel_77 : decode cR_cancel 77 = .ok (.iconst 0, 1) := by decide +kernel
theorem dR_cancel_78 : decode cR_cancel 78 = .ok (.istore_n 3, 1) := by decide +kernel
theorem dR_cancel_79 : decode cR_cancel 79 = .ok (.iload_n 3, 1) := by decide +kernel
theorem dR_cancel_80 : decode cR_cancel 80 = .ok (.aload_n 0, 1) := by decide +kernel
theorem dR_cancel_81 : decode cR_cancel 81 = .ok (.getfield 60, 3) := by decide +kernel
theorem dR_cancel_84 : decode cR_cancel 84 = .ok (.if_icmp .ge 34, 3) := by decide +kernel
theorem dR_cancel_87 : decode cR_cancel 87 = .ok (.aload_n 0, 1) := by decide +kernel
theorem dR_cancel_88 : decode cR_cancel 88 = .ok (.getfield 22, 3) := by decide +kernel
theorem dR_cancel_91 : decode cR_cancel 91 = .ok (.iload_n 3, 1) := by decide +kernel
theorem dR_cancel_92 : decode cR_cancel 92 = .ok (.iaload, 1) := by decide +kernel
theorem dR_cancel_93 : decode cR_cancel 93 = .ok (.iconst 2, 1) := by decide +kernel
theorem dR_cancel_94 : decode cR_cancel 94 = .ok (.if_icmp .ne 18, 3) := by decide +kernel
theorem dR_cancel_97 : decode cR_cancel 97 = .ok (.aload_n 0, 1) := by decide +kernel
theorem dR_cancel_98 : decode cR_cancel 98 = .ok (.iload_n 3, 1) := by decide +kernel
theorem dR_cancel_99 : decode cR_cancel 99 = .ok (.invokevirtual 144, 3) := by decide +kernel
theorem dR_cancel_102 : decode cR_cancel 102 = .ok (.ifCond .ne 10, 3) := by decide +kernel
theorem dR_cancel_105 : decode cR_cancel 105 = .ok (.aload_n 0, 1) := by decide +kernel
theorem dR_cancel_106 : decode cR_cancel 106 = .ok (.getfield 22, 3) := by decide +kernel
theorem dR_cancel_109 : decode cR_cancel 109 = .ok (.iload_n 3, 1) := by decide +kernel
theorem dR_cancel_110 : decode cR_cancel 110 = .ok (.iconst 0, 1) := by decide +kernel
theorem dR_cancel_111 : decode cR_cancel 111 = .ok (.iastore, 1) := by decide +kernel
theorem dR_cancel_112 : decode cR_cancel 112 = .ok (.iinc 3 1, 3) := by decide +kernel
theorem dR_cancel_115 : decode cR_cancel 115 = .ok (.goto (-36), 3) := by decide +kernel
theorem dR_cancel_118 : decode cR_cancel 118 = .ok (.iinc 2 1, 3) := by decide +kernel
theorem dR_cancel_121 : decode cR_cancel 121 = .ok (.goto (-49), 3) := by decide +kernel
theorem dR_cancel_124 : decode cR_cancel 124 = .ok (.aload_n 0, 1) := by decide +kernel
theorem dR_cancel_125 : decode cR_cancel 125 = .ok (.invokevirtual 155, 3) := by decide +kernel
theorem dR_cancel_128 : decode cR_cancel 128 = .ok (.iload_n 1, 1) := by decide +kernel
theorem dR_cancel_129 : decode cR_cancel 129 = .ok (.ireturn, 1) := by decide +kernel
theorem dR_state_0 : decode cR_state 0 = .ok (.aload_n 0, 1) := by decide +kernel
theorem dR_state_1 : decode cR_state 1 = .ok (.getfield 67, 3) := by decide +kernel
theorem dR_state_4 : decode cR_state 4 = .ok (.ifCond .eq 16, 3) := by decide +kernel
theorem dR_state_7 : decode cR_state 7 = .ok (.aload_n 0, 1) := by decide +kernel
theorem dR_state_8 : decode cR_state 8 = .ok (.getfield 112, 3) := by decide +kernel
theorem dR_state_11 : decode cR_state 11 = .ok (.ifCond .eq 7, 3) := by decide +kernel
theorem dR_state_14 : decode cR_state 14 = .ok (.iconst 2, 1) := by decide +kernel
theorem dR_state_15 : decode cR_state 15 = .ok (.goto 4, 3) := by decide +kernel
theorem dR_state_18 : decode cR_state 18 = .ok (.iconst 1, 1) := by decide +kernel
theorem dR_state_19 : decode cR_state 19 = .ok (.ireturn, 1) := by decide +kernel
theorem dR_state_20 : decode cR_state 20 = .ok (.aload_n 0, 1) := by decide +kernel
theorem dR_state_21 : decode cR_state 21 = .ok (.getfield 109, 3) := by decide +kernel
theorem dR_state_24 : decode cR_state 24 = .ok (.ifCond .ne 7, 3) := by decide +kernel
theorem dR_state_27 : decode cR_state 27 = .ok (.iconst 0, 1) := by decide +kernel
theorem dR_state_28 : decode cR_state 28 = .ok (.goto 26, 3) := by decide +kernel
theorem dR_state_31 : decode cR_state 31 = .ok (.aload_n 0, 1) := by decide +kernel
theorem dR_state_32 : decode cR_state 32 = .ok (.getfield 112, 3) := by decide +kernel
theorem dR_state_35 : decode cR_state 35 = .ok (.ifCond .eq 7, 3) := by decide +kernel
theorem dR_state_38 : decode cR_state 38 = .ok (.iconst 5, 1) := by decide +kernel
theorem dR_state_39 : decode cR_state 39 = .ok (.goto 15, 3) := by decide +kernel
theorem dR_state_42 : decode cR_state 42 = .ok (.aload_n 0, 1) := by decide +kernel
theorem dR_state_43 : decode cR_state 43 = .ok (.getfield 53, 3) := by decide +kernel
theorem dR_state_46 : decode cR_state 46 = .ok (.ifCond .lt 7, 3) := by decide +kernel
theorem dR_state_49 : decode cR_state 49 = .ok (.iconst 4, 1) := by decide +kernel
theorem dR_state_50 : decode cR_state 50 = .ok (.goto 4, 3) := by decide +kernel
theorem dR_state_53 : decode cR_state 53 = .ok (.iconst 3, 1) := by decide +kernel
theorem dR_state_54 : decode cR_state 54 = .ok (.ireturn, 1) := by decide +kernel
theorem dR_thrower_0 : decode cR_thrower 0 = .ok (.aload_n 0, 1) := by decide +kernel
theorem dR_thrower_1 : decode cR_thrower 1 = .ok (.getfield 53, 3) := by decide +kernel
theorem dR_thrower_4 : decode cR_thrower 4 = .ok (.ireturn, 1) := by decide +kernel
theorem dR_round_0 : decode cR_round 0 = .ok (.aload_n 0, 1) := by decide +kernel
theorem dR_round_1 : decode cR_round 1 = .ok (.getfield 99, 3) := by decide +kernel
theorem dR_round_4 : decode cR_round 4 = .ok (.ireturn, 1) := by decide +kernel
theorem dR_lost_0 : decode cR_lost 0 = .ok (.aload_n 0, 1) := by decide +kernel
theorem dR_lost_1 : decode cR_lost 1 = .ok (.getfield 86, 3) := by decide +kernel
theorem dR_lost_4 : decode cR_lost 4 = .ok (.ireturn, 1) := by decide +kernel
theorem dR_steals_0 : decode cR_steals 0 = .ok (.aload_n 0, 1) := by decide +kernel
theorem dR_steals_1 : decode cR_steals 1 = .ok (.getfield 118, 3) := by decide +kernel
theorem dR_steals_4 : decode cR_steals 4 = .ok (.ireturn, 1) := by decide +kernel
theorem dR_runs_0 : decode cR_runs 0 = .ok (.aload_n 0, 1) := by decide +kernel
theorem dR_runs_1 : decode cR_runs 1 = .ok (.iload_n 1, 1) := by decide +kernel
theorem dR_runs_2 : decode cR_runs 2 = .ok (.invokevirtual 63, 3) := by decide +kernel
theorem dR_runs_5 : decode cR_runs 5 = .ok (.ifCond .eq 12, 3) := by decide +kernel
theorem dR_runs_8 : decode cR_runs 8 = .ok (.aload_n 0, 1) := by decide +kernel
theorem dR_runs_9 : decode cR_runs 9 = .ok (.getfield 34, 3) := by decide +kernel
theorem dR_runs_12 : decode cR_runs 12 = .ok (.iload_n 1, 1) := by decide +kernel
theorem dR_runs_13 : decode cR_runs 13 = .ok (.iaload, 1) := by decide +kernel
theorem dR_runs_14 : decode cR_runs 14 = .ok (.goto 4, 3) := by decide +kernel
theorem dR_runs_17 : decode cR_runs 17 = .ok (.iconst 0, 1) := by decide +kernel
theorem dR_runs_18 : decode cR_runs 18 = .ok (.ireturn, 1) := by decide +kernel
theorem dR_arrivals_0 : decode cR_arrivals 0 = .ok (.aload_n 0, 1) := by decide +kernel
theorem dR_arrivals_1 : decode cR_arrivals 1 = .ok (.getfield 67, 3) := by decide +kernel
theorem dR_arrivals_4 : decode cR_arrivals 4 = .ok (.ifCond .eq 20, 3) := by decide +kernel
theorem dR_arrivals_7 : decode cR_arrivals 7 = .ok (.aload_n 0, 1) := by decide +kernel
theorem dR_arrivals_8 : decode cR_arrivals 8 = .ok (.iload_n 1, 1) := by decide +kernel
theorem dR_arrivals_9 : decode cR_arrivals 9 = .ok (.invokevirtual 63, 3) := by decide +kernel
theorem dR_arrivals_12 : decode cR_arrivals 12 = .ok (.ifCond .eq 12, 3) := by decide +kernel
theorem dR_arrivals_15 : decode cR_arrivals 15 = .ok (.aload_n 0, 1) := by decide +kernel
theorem dR_arrivals_16 : decode cR_arrivals 16 = .ok (.getfield 31, 3) := by decide +kernel
theorem dR_arrivals_19 : decode cR_arrivals 19 = .ok (.iload_n 1, 1) := by decide +kernel
theorem dR_arrivals_20 : decode cR_arrivals 20 = .ok (.iaload, 1) := by decide +kernel
theorem dR_arrivals_21 : decode cR_arrivals 21 = .ok (.goto 4, 3) := by decide +kernel
theorem dR_arrivals_24 : decode cR_arrivals 24 = .ok (.iconst 0, 1) := by decide +kernel
theorem dR_arrivals_25 : decode cR_arrivals 25 = .ok (.ireturn, 1) := by decide +kernel
theorem dR_where_0 : decode cR_where 0 = .ok (.aload_n 0, 1) := by decide +kernel
theorem dR_where_1 : decode cR_where 1 = .ok (.iload_n 1, 1) := by decide +kernel
theorem dR_where_2 : decode cR_where 2 = .ok (.invokevirtual 63, 3) := by decide +kernel
theorem dR_where_5 : decode cR_where 5 = .ok (.ifCond .ne 5, 3) := by decide +kernel
theorem dR_where_8 : decode cR_where 8 = .ok (.iconst (-1), 1) := by decide +kernel
theorem dR_where_9 : decode cR_where 9 = .ok (.ireturn, 1) := by decide +kernel
theorem dR_where_10 : decode cR_where 10 = .ok (.aload_n 0, 1) := by decide +kernel
theorem dR_where_11 : decode cR_where 11 = .ok (.getfield 22, 3) := by decide +kernel
theorem dR_where_14 : decode cR_where 14 = .ok (.iload_n 1, 1) := by decide +kernel
theorem dR_where_15 : decode cR_where 15 = .ok (.iaload, 1) := by decide +kernel
theorem dR_where_16 : decode cR_where 16 = .ok (.iconst 3, 1) := by decide +kernel
theorem dR_where_17 : decode cR_where 17 = .ok (.if_icmp .ne 12, 3) := by decide +kernel
theorem dR_where_20 : decode cR_where 20 = .ok (.iconst 3, 1) := by decide +kernel
theorem dR_where_21 : decode cR_where 21 = .ok (.aload_n 0, 1) := by decide +kernel
theorem dR_where_22 : decode cR_where 22 = .ok (.getfield 25, 3) := by decide +kernel
theorem dR_where_25 : decode cR_where 25 = .ok (.iload_n 1, 1) := by decide +kernel
theorem dR_where_26 : decode cR_where 26 = .ok (.iaload, 1) := by decide +kernel
theorem dR_where_27 : decode cR_where 27 = .ok (.iadd, 1) := by decide +kernel
theorem dR_where_28 : decode cR_where 28 = .ok (.ireturn, 1) := by decide +kernel
theorem dR_where_29 : decode cR_where 29 = .ok (.aload_n 0, 1) := by decide +kernel
theorem dR_where_30 : decode cR_where 30 = .ok (.getfield 22, 3) := by decide +kernel
theorem dR_where_33 : decode cR_where 33 = .ok (.iload_n 1, 1) := by decide +kernel
theorem dR_where_34 : decode cR_where 34 = .ok (.iaload, 1) := by decide +kernel
theorem dR_where_35 : decode cR_where 35 = .ok (.iconst 4, 1) := by decide +kernel
theorem dR_where_36 : decode cR_where 36 = .ok (.if_icmp .ne 31, 3) := by decide +kernel
theorem dR_where_39 : decode cR_where 39 = .ok (.aload_n 0, 1) := by decide +kernel
theorem dR_where_40 : decode cR_where 40 = .ok (.getfield 25, 3) := by decide +kernel
theorem dR_where_43 : decode cR_where 43 = .ok (.iload_n 1, 1) := by decide +kernel
theorem dR_where_44 : decode cR_where 44 = .ok (.iaload, 1) := by decide +kernel
theorem dR_where_45 : decode cR_where 45 = .ok (.aload_n 0, 1) := by decide +kernel
theorem dR_where_46 : decode cR_where 46 = .ok (.getfield 57, 3) := by decide +kernel
theorem dR_where_49 : decode cR_where 49 = .ok (.if_icmp .ne 8, 3) := by decide +kernel
theorem dR_where_52 : decode cR_where 52 = .ok (.bipush 20, 2) := by decide +kernel
theorem dR_where_54 : decode cR_where 54 = .ok (.goto 12, 3) := by decide +kernel
theorem dR_where_57 : decode cR_where 57 = .ok (.bipush 10, 2) := by decide +kernel
theorem dR_where_59 : decode cR_where 59 = .ok (.aload_n 0, 1) := by decide +kernel
theorem dR_where_60 : decode cR_where 60 = .ok (.getfield 25, 3) := by decide +kernel
theorem dR_where_63 : decode cR_where 63 = .ok (.iload_n 1, 1) := by decide +kernel
theorem dR_where_64 : decode cR_where 64 = .ok (.iaload, 1) := by decide +kernel
theorem dR_where_65 : decode cR_where 65 = .ok (.iadd, 1) := by decide +kernel
theorem dR_where_66 : decode cR_where 66 = .ok (.ireturn, 1) := by decide +kernel
theorem dR_where_67 : decode cR_where 67 = .ok (.aload_n 0, 1) := by decide +kernel
theorem dR_where_68 : decode cR_where 68 = .ok (.getfield 22, 3) := by decide +kernel
theorem dR_where_71 : decode cR_where 71 = .ok (.iload_n 1, 1) := by decide +kernel
theorem dR_where_72 : decode cR_where 72 = .ok (.iaload, 1) := by decide +kernel
theorem dR_where_73 : decode cR_where 73 = .ok (.ireturn, 1) := by decide +kernel
theorem dR_lineAt_0 : decode cR_lineAt 0 = .ok (.iload_n 1, 1) := by decide +kernel
theorem dR_lineAt_1 : decode cR_lineAt 1 = .ok (.ifCond .lt 11, 3) := by decide +kernel
theorem dR_lineAt_4 : decode cR_lineAt 4 = .ok (.iload_n 1, 1) := by decide +kernel
theorem dR_lineAt_5 : decode cR_lineAt 5 = .ok (.aload_n 0, 1) := by decide +kernel
theorem dR_lineAt_6 : decode cR_lineAt 6 = .ok (.getfield 57, 3) := by decide +kernel
theorem dR_lineAt_9 : decode cR_lineAt 9 = .ok (.if_icmp .le 5, 3) := by decide +kernel
theorem dR_lineAt_12 : decode cR_lineAt 12 = .ok (.iconst (-1), 1) := by decide +kernel
theorem dR_lineAt_13 : decode cR_lineAt 13 = .ok (.ireturn, 1) := by decide +kernel
theorem dR_lineAt_14 : decode cR_lineAt 14 = .ok (.iconst 0, 1) := by decide +kernel
theorem dR_lineAt_15 : decode cR_lineAt 15 = .ok (.istore_n 3, 1) := by decide +kernel
theorem dR_lineAt_16 : decode cR_lineAt 16 = .ok (.iload_n 3, 1) := by decide +kernel
theorem dR_lineAt_17 : decode cR_lineAt 17 = .ok (.aload_n 0, 1) := by decide +kernel
theorem dR_lineAt_18 : decode cR_lineAt 18 = .ok (.getfield 60, 3) := by decide +kernel
theorem dR_lineAt_21 : decode cR_lineAt 21 = .ok (.if_icmp .ge 107, 3) := by decide +kernel
theorem dR_lineAt_24 : decode cR_lineAt 24 = .ok (.iconst 0, 1) := by decide +kernel
theorem dR_lineAt_25 : decode cR_lineAt 25 = .ok (.istore 4, 2) := by decide +kernel
theorem dR_lineAt_27 : decode cR_lineAt 27 = .ok (.iconst 0, 1) := by decide +kernel
theorem dR_lineAt_28 : decode cR_lineAt 28 = .ok (.istore 5, 2) := by decide +kernel
theorem dR_lineAt_30 : decode cR_lineAt 30 = .ok (.iload 5, 2) := by decide +kernel
theorem dR_lineAt_32 : decode cR_lineAt 32 = .ok (.aload_n 0, 1) := by decide +kernel
theorem dR_lineAt_33 : decode cR_lineAt 33 = .ok (.getfield 60, 3) := by decide +kernel
theorem dR_lineAt_36 : decode cR_lineAt 36 = .ok (.if_icmp .ge 58, 3) := by decide +kernel
theorem dR_lineAt_39 : decode cR_lineAt 39 = .ok (.aload_n 0, 1) := by decide +kernel
theorem dR_lineAt_40 : decode cR_lineAt 40 = .ok (.getfield 22, 3) := by decide +kernel
theorem dR_lineAt_43 : decode cR_lineAt 43 = .ok (.iload 5, 2) := by decide +kernel
theorem dR_lineAt_45 : decode cR_lineAt 45 = .ok (.iaload, 1) := by decide +kernel
theorem dR_lineAt_46 : decode cR_lineAt 46 = .ok (.iconst 4, 1) := by decide +kernel
theorem dR_lineAt_47 : decode cR_lineAt 47 = .ok (.if_icmp .ne 37, 3) := by decide +kernel
theorem dR_lineAt_50 : decode cR_lineAt 50 = .ok (.aload_n 0, 1) := by decide +kernel
theorem dR_lineAt_51 : decode cR_lineAt 51 = .ok (.getfield 25, 3) := by decide +kernel
theorem dR_lineAt_54 : decode cR_lineAt 54 = .ok (.iload 5, 2) := by decide +kernel
theorem dR_lineAt_56 : decode cR_lineAt 56 = .ok (.iaload, 1) := by decide +kernel
theorem dR_lineAt_57 : decode cR_lineAt 57 = .ok (.iload_n 1, 1) := by decide +kernel
theorem dR_lineAt_58 : decode cR_lineAt 58 = .ok (.if_icmp .ne 26, 3) := by decide +kernel
theorem dR_lineAt_61 : decode cR_lineAt 61 = .ok (.aload_n 0, 1) := by decide +kernel
theorem dR_lineAt_62 : decode cR_lineAt 62 = .ok (.getfield 28, 3) := by decide +kernel
theorem dR_lineAt_65 : decode cR_lineAt 65 = .ok (.iload 5, 2) := by decide +kernel
theorem dR_lineAt_67 : decode cR_lineAt 67 = .ok (.iaload, 1) := by decide +kernel
theorem dR_lineAt_68 : decode cR_lineAt 68 = .ok (.aload_n 0, 1) := by decide +kernel
theorem dR_lineAt_69 : decode cR_lineAt 69 = .ok (.getfield 28, 3) := by decide +kernel
theorem dR_lineAt_72 : decode cR_lineAt 72 = .ok (.iload_n 3, 1) := by decide +kernel
theorem dR_lineAt_73 : decode cR_lineAt 73 = .ok (.iaload, 1) := by decide +kernel
theorem dR_lineAt_74 : decode cR_lineAt 74 = .ok (.if_icmp .ge 10, 3) := by decide +kernel
theorem dR_lineAt_77 : decode cR_lineAt 77 = .ok (.iload 4, 2) := by decide +kernel
theorem dR_lineAt_79 : decode cR_lineAt 79 = .ok (.iconst 1, 1) := by decide +kernel
theorem dR_lineAt_80 : decode cR_lineAt 80 = .ok (.iadd, 1) := by decide +kernel
theorem dR_lineAt_81 : decode cR_lineAt 81 = .ok (.goto 5, 3) := by decide +kernel
theorem dR_lineAt_84 : decode cR_lineAt 84 = .ok (.iload 4, 2) := by decide +kernel
theorem dR_lineAt_86 : decode cR_lineAt 86 = .ok (.istore 4, 2) := by decide +kernel
theorem dR_lineAt_88 : decode cR_lineAt 88 = .ok (.iinc 5 1, 3) := by decide +kernel
theorem dR_lineAt_91 : decode cR_lineAt 91 = .ok (.goto (-61), 3) := by decide +kernel
theorem dR_lineAt_94 : decode cR_lineAt 94 = .ok (.aload_n 0, 1) := by decide +kernel
theorem dR_lineAt_95 : decode cR_lineAt 95 = .ok (.getfield 22, 3) := by decide +kernel
theorem dR_lineAt_98 : decode cR_lineAt 98 = .ok (.iload_n 3, 1) := by decide +kernel
theorem dR_lineAt_99 : decode cR_lineAt 99 = .ok (.iaload, 1) := by decide +kernel
theorem dR_lineAt_100 : decode cR_lineAt 100 = .ok (.iconst 4, 1) := by decide +kernel
theorem dR_lineAt_101 : decode cR_lineAt 101 = .ok (.if_icmp .ne 21, 3) := by decide +kernel
theorem dR_lineAt_104 : decode cR_lineAt 104 = .ok (.aload_n 0, 1) := by decide +kernel
theorem dR_lineAt_105 : decode cR_lineAt 105 = .ok (.getfield 25, 3) := by decide +kernel
theorem dR_lineAt_108 : decode cR_lineAt 108 = .ok (.iload_n 3, 1) := by decide +kernel
theorem dR_lineAt_109 : decode cR_lineAt 109 = .ok (.iaload, 1) := by decide +kernel
theorem dR_lineAt_110 : decode cR_lineAt 110 = .ok (.iload_n 1, 1) := by decide +kernel
theorem dR_lineAt_111 : decode cR_lineAt 111 = .ok (.if_icmp .ne 11, 3) := by decide +kernel
theorem dR_lineAt_114 : decode cR_lineAt 114 = .ok (.iload 4, 2) := by decide +kernel
theorem dR_lineAt_116 : decode cR_lineAt 116 = .ok (.iload_n 2, 1) := by decide +kernel
theorem dR_lineAt_117 : decode cR_lineAt 117 = .ok (.if_icmp .ne 5, 3) := by decide +kernel
theorem dR_lineAt_120 : decode cR_lineAt 120 = .ok (.iload_n 3, 1) := by decide +kernel
theorem dR_lineAt_121 : decode cR_lineAt 121 = .ok (.ireturn, 1) := by decide +kernel
theorem dR_lineAt_122 : decode cR_lineAt 122 = .ok (.iinc 3 1, 3) := by decide +kernel
theorem dR_lineAt_125 : decode cR_lineAt 125 = .ok (.goto (-109), 3) := by decide +kernel
theorem dR_lineAt_128 : decode cR_lineAt 128 = .ok (.iconst (-1), 1) := by decide +kernel
theorem dR_lineAt_129 : decode cR_lineAt 129 = .ok (.ireturn, 1) := by decide +kernel
theorem dR_held_0 : decode cR_held 0 = .ok (.iconst 0, 1) := by decide +kernel
theorem dR_held_1 : decode cR_held 1 = .ok (.istore_n 2, 1) := by decide +kernel
theorem dR_held_2 : decode cR_held 2 = .ok (.iconst 0, 1) := by decide +kernel
theorem dR_held_3 : decode cR_held 3 = .ok (.istore_n 3, 1) := by decide +kernel
theorem dR_held_4 : decode cR_held 4 = .ok (.iload_n 3, 1) := by decide +kernel
theorem dR_held_5 : decode cR_held 5 = .ok (.aload_n 0, 1) := by decide +kernel
theorem dR_held_6 : decode cR_held 6 = .ok (.getfield 60, 3) := by decide +kernel
theorem dR_held_9 : decode cR_held 9 = .ok (.if_icmp .ge 50, 3) := by decide +kernel
theorem dR_held_12 : decode cR_held 12 = .ok (.iload_n 1, 1) := by decide +kernel
theorem dR_held_13 : decode cR_held 13 = .ok (.ifCond .lt 46, 3) := by decide +kernel
theorem dR_held_16 : decode cR_held 16 = .ok (.iload_n 1, 1) := by decide +kernel
theorem dR_held_17 : decode cR_held 17 = .ok (.iconst 4, 1) := by decide +kernel
theorem dR_held_18 : decode cR_held 18 = .ok (.if_icmp .ge 41, 3) := by decide +kernel
theorem dR_held_21 : decode cR_held 21 = .ok (.aload_n 0, 1) := by decide +kernel
theorem dR_held_22 : decode cR_held 22 = .ok (.getfield 22, 3) := by decide +kernel
theorem dR_held_25 : decode cR_held 25 = .ok (.iload_n 3, 1) := by decide +kernel
theorem dR_held_26 : decode cR_held 26 = .ok (.iaload, 1) := by decide +kernel
theorem dR_held_27 : decode cR_held 27 = .ok (.iconst 3, 1) := by decide +kernel
theorem dR_held_28 : decode cR_held 28 = .ok (.if_icmp .ne 23, 3) := by decide +kernel
theorem dR_held_31 : decode cR_held 31 = .ok (.aload_n 0, 1) := by decide +kernel
theorem dR_held_32 : decode cR_held 32 = .ok (.getfield 19, 3) := by decide +kernel
theorem dR_held_35 : decode cR_held 35 = .ok (.iload_n 3, 1) := by decide +kernel
theorem dR_held_36 : decode cR_held 36 = .ok (.iaload, 1) := by decide +kernel
theorem dR_held_37 : decode cR_held 37 = .ok (.iload_n 1, 1) := by decide +kernel
theorem dR_held_38 : decode cR_held 38 = .ok (.ishr, 1) := by decide +kernel
theorem dR_held_39 : decode cR_held 39 = .ok (.iconst 1, 1) := by decide +kernel
theorem dR_held_40 : decode cR_held 40 = .ok (.iand, 1) := by decide +kernel
theorem dR_held_41 : decode cR_held 41 = .ok (.iconst 1, 1) := by decide +kernel
theorem dR_held_42 : decode cR_held 42 = .ok (.if_icmp .ne 9, 3) := by decide +kernel
theorem dR_held_45 : decode cR_held 45 = .ok (.iload_n 2, 1) := by decide +kernel
theorem dR_held_46 : decode cR_held 46 = .ok (.iconst 1, 1) := by decide +kernel
theorem dR_held_47 : decode cR_held 47 = .ok (.iadd, 1) := by decide +kernel
theorem dR_held_48 : decode cR_held 48 = .ok (.goto 4, 3) := by decide +kernel
theorem dR_held_51 : decode cR_held 51 = .ok (.iload_n 2, 1) := by decide +kernel
theorem dR_held_52 : decode cR_held 52 = .ok (.istore_n 2, 1) := by decide +kernel
theorem dR_held_53 : decode cR_held 53 = .ok (.iinc 3 1, 3) := by decide +kernel
theorem dR_held_56 : decode cR_held 56 = .ok (.goto (-52), 3) := by decide +kernel
theorem dR_held_59 : decode cR_held 59 = .ok (.iload_n 2, 1) := by decide +kernel
theorem dR_held_60 : decode cR_held 60 = .ok (.ireturn, 1) := by decide +kernel
