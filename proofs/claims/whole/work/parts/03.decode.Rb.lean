theorem dR_nextRound_10 : decode cR_nextRound 10 = .ok (.iconst 0, 1) := by decide +kernel
theorem dR_nextRound_11 : decode cR_nextRound 11 = .ok (.istore_n 1, 1) := by decide +kernel
theorem dR_nextRound_12 : decode cR_nextRound 12 = .ok (.iload_n 1, 1) := by decide +kernel
theorem dR_nextRound_13 : decode cR_nextRound 13 = .ok (.aload_n 0, 1) := by decide +kernel
theorem dR_nextRound_14 : decode cR_nextRound 14 = .ok (.getfield 60, 3) := by decide +kernel
theorem dR_nextRound_17 : decode cR_nextRound 17 = .ok (.if_icmp .ge 16, 3) := by decide +kernel
theorem dR_nextRound_20 : decode cR_nextRound 20 = .ok (.aload_n 0, 1) := by decide +kernel
theorem dR_nextRound_21 : decode cR_nextRound 21 = .ok (.getfield 31, 3) := by decide +kernel
theorem dR_nextRound_24 : decode cR_nextRound 24 = .ok (.iload_n 1, 1) := by decide +kernel
theorem dR_nextRound_25 : decode cR_nextRound 25 = .ok (.iconst 0, 1) := by decide +kernel
theorem dR_nextRound_26 : decode cR_nextRound 26 = .ok (.iastore, 1) := by decide +kernel
theorem dR_nextRound_27 : decode cR_nextRound 27 = .ok (.iinc 1 1, 3) := by decide +kernel
theorem dR_nextRound_30 : decode cR_nextRound 30 = .ok (.goto (-18), 3) := by decide +kernel
theorem dR_nextRound_33 : decode cR_nextRound 33 = .ok (.aload_n 0, 1) := by decide +kernel
theorem dR_nextRound_34 : decode cR_nextRound 34 = .ok (.iconst (-1), 1) := by decide +kernel
theorem dR_nextRound_35 : decode cR_nextRound 35 = .ok (.aload_n 0, 1) := by decide +kernel
theorem dR_nextRound_36 : decode cR_nextRound 36 = .ok (.getfield 57, 3) := by decide +kernel
theorem dR_nextRound_39 : decode cR_nextRound 39 = .ok (.invokevirtual 102, 3) := by decide +kernel
theorem dR_nextRound_42 : decode cR_nextRound 42 = .ok (.return_, 1) := by decide +kernel
theorem dR_endOf_0 : decode cR_endOf 0 = .ok (.iconst (-1), 1) := by decide +kernel
theorem dR_endOf_1 : decode cR_endOf 1 = .ok (.istore_n 3, 1) := by decide +kernel
theorem dR_endOf_2 : decode cR_endOf 2 = .ok (.iconst 0, 1) := by decide +kernel
theorem dR_endOf_3 : decode cR_endOf 3 = .ok (.istore 4, 2) := by decide +kernel
theorem dR_endOf_5 : decode cR_endOf 5 = .ok (.iload 4, 2) := by decide +kernel
theorem dR_endOf_7 : decode cR_endOf 7 = .ok (.aload_n 0, 1) := by decide +kernel
theorem dR_endOf_8 : decode cR_endOf 8 = .ok (.getfield 60, 3) := by decide +kernel
theorem dR_endOf_11 : decode cR_endOf 11 = .ok (.if_icmp .ge 79, 3) := by decide +kernel
theorem dR_endOf_14 : decode cR_endOf 14 = .ok (.aload_n 0, 1) := by decide +kernel
theorem dR_endOf_15 : decode cR_endOf 15 = .ok (.getfield 22, 3) := by decide +kernel
theorem dR_endOf_18 : decode cR_endOf 18 = .ok (.iload 4, 2) := by decide +kernel
theorem dR_endOf_20 : decode cR_endOf 20 = .ok (.iaload, 1) := by decide +kernel
theorem dR_endOf_21 : decode cR_endOf 21 = .ok (.iconst 4, 1) := by decide +kernel
theorem dR_endOf_22 : decode cR_endOf 22 = .ok (.if_icmp .ne 62, 3) := by decide +kernel
theorem dR_endOf_25 : decode cR_endOf 25 = .ok (.aload_n 0, 1) := by decide +kernel
theorem dR_endOf_26 : decode cR_endOf 26 = .ok (.getfield 25, 3) := by decide +kernel
theorem dR_endOf_29 : decode cR_endOf 29 = .ok (.iload 4, 2) := by decide +kernel
theorem dR_endOf_31 : decode cR_endOf 31 = .ok (.iaload, 1) := by decide +kernel
theorem dR_endOf_32 : decode cR_endOf 32 = .ok (.iload_n 1, 1) := by decide +kernel
theorem dR_endOf_33 : decode cR_endOf 33 = .ok (.if_icmp .ne 51, 3) := by decide +kernel
theorem dR_endOf_36 : decode cR_endOf 36 = .ok (.iload_n 3, 1) := by decide +kernel
theorem dR_endOf_37 : decode cR_endOf 37 = .ok (.ifCond .lt 28, 3) := by decide +kernel
theorem dR_endOf_40 : decode cR_endOf 40 = .ok (.aload_n 0, 1) := by decide +kernel
theorem dR_endOf_41 : decode cR_endOf 41 = .ok (.getfield 28, 3) := by decide +kernel
theorem dR_endOf_44 : decode cR_endOf 44 = .ok (.iload 4, 2) := by decide +kernel
theorem dR_endOf_46 : decode cR_endOf 46 = .ok (.iaload, 1) := by decide +kernel
theorem dR_endOf_47 : decode cR_endOf 47 = .ok (.aload_n 0, 1) := by decide +kernel
theorem dR_endOf_48 : decode cR_endOf 48 = .ok (.getfield 28, 3) := by decide +kernel
theorem dR_endOf_51 : decode cR_endOf 51 = .ok (.iload_n 3, 1) := by decide +kernel
theorem dR_endOf_52 : decode cR_endOf 52 = .ok (.iaload, 1) := by decide +kernel
theorem dR_endOf_53 : decode cR_endOf 53 = .ok (.if_icmp .le 7, 3) := by decide +kernel
theorem dR_endOf_56 : decode cR_endOf 56 = .ok (.iconst 1, 1) := by decide +kernel
theorem dR_endOf_57 : decode cR_endOf 57 = .ok (.goto 4, 3) := by decide +kernel
theorem dR_endOf_60 : decode cR_endOf 60 = .ok (.iconst 0, 1) := by decide +kernel
theorem dR_endOf_61 : decode cR_endOf 61 = .ok (.iload_n 2, 1) := by decide +kernel
theorem dR_endOf_62 : decode cR_endOf 62 = .ok (.if_icmp .ne 7, 3) := by decide +kernel
theorem dR_endOf_65 : decode cR_endOf 65 = .ok (.iconst 1, 1) := by decide +kernel
theorem dR_endOf_66 : decode cR_endOf 66 = .ok (.goto 4, 3) := by decide +kernel
theorem dR_endOf_69 : decode cR_endOf 69 = .ok (.iconst 0, 1) := by decide +kernel
theorem dR_endOf_70 : decode cR_endOf 70 = .ok (.istore 5, 2) := by decide +kernel
theorem dR_endOf_72 : decode cR_endOf 72 = .ok (.iload 5, 2) := by decide +kernel
theorem dR_endOf_74 : decode cR_endOf 74 = .ok (.ifCond .eq 8, 3) := by decide +kernel
theorem dR_endOf_77 : decode cR_endOf 77 = .ok (.iload 4, 2) := by decide +kernel
theorem dR_endOf_79 : decode cR_endOf 79 = .ok (.goto 4, 3) := by decide +kernel
theorem dR_endOf_82 : decode cR_endOf 82 = .ok (.iload_n 3, 1) := by decide +kernel
theorem dR_endOf_83 : decode cR_endOf 83 = .ok (.istore_n 3, 1) := by decide +kernel
theorem dR_endOf_84 : decode cR_endOf 84 = .ok (.iinc 4 1, 3) := by decide +kernel
theorem dR_endOf_87 : decode cR_endOf 87 = .ok (.goto (-82), 3) := by decide +kernel
theorem dR_endOf_90 : decode cR_endOf 90 = .ok (.iload_n 3, 1) := by decide +kernel
theorem dR_endOf_91 : decode cR_endOf 91 = .ok (.ireturn, 1) := by decide +kernel
theorem dR_running_0 : decode cR_running 0 = .ok (.iconst (-1), 1) := by decide +kernel
theorem dR_running_1 : decode cR_running 1 = .ok (.istore_n 2, 1) := by decide +kernel
theorem dR_running_2 : decode cR_running 2 = .ok (.iconst 0, 1) := by decide +kernel
theorem dR_running_3 : decode cR_running 3 = .ok (.istore_n 3, 1) := by decide +kernel
theorem dR_running_4 : decode cR_running 4 = .ok (.iload_n 3, 1) := by decide +kernel
theorem dR_running_5 : decode cR_running 5 = .ok (.aload_n 0, 1) := by decide +kernel
theorem dR_running_6 : decode cR_running 6 = .ok (.getfield 60, 3) := by decide +kernel
theorem dR_running_9 : decode cR_running 9 = .ok (.if_icmp .ge 35, 3) := by decide +kernel
theorem dR_running_12 : decode cR_running 12 = .ok (.aload_n 0, 1) := by decide +kernel
theorem dR_running_13 : decode cR_running 13 = .ok (.getfield 22, 3) := by decide +kernel
theorem dR_running_16 : decode cR_running 16 = .ok (.iload_n 3, 1) := by decide +kernel
theorem dR_running_17 : decode cR_running 17 = .ok (.iaload, 1) := by decide +kernel
theorem dR_running_18 : decode cR_running 18 = .ok (.iconst 3, 1) := by decide +kernel
theorem dR_running_19 : decode cR_running 19 = .ok (.if_icmp .ne 17, 3) := by decide +kernel
theorem dR_running_22 : decode cR_running 22 = .ok (.aload_n 0, 1) := by decide +kernel
theorem dR_running_23 : decode cR_running 23 = .ok (.getfield 25, 3) := by decide +kernel
theorem dR_running_26 : decode cR_running 26 = .ok (.iload_n 3, 1) := by decide +kernel
theorem dR_running_27 : decode cR_running 27 = .ok (.iaload, 1) := by decide +kernel
theorem dR_running_28 : decode cR_running 28 = .ok (.iload_n 1, 1) := by decide +kernel
theorem dR_running_29 : decode cR_running 29 = .ok (.if_icmp .ne 7, 3) := by decide +kernel
theorem dR_running_32 : decode cR_running 32 = .ok (.iload_n 3, 1) := by decide +kernel
theorem dR_running_33 : decode cR_running 33 = .ok (.goto 4, 3) := by decide +kernel
theorem dR_running_36 : decode cR_running 36 = .ok (.iload_n 2, 1) := by decide +kernel
theorem dR_running_37 : decode cR_running 37 = .ok (.istore_n 2, 1) := by decide +kernel
theorem dR_running_38 : decode cR_running 38 = .ok (.iinc 3 1, 3) := by decide +kernel
theorem dR_running_41 : decode cR_running 41 = .ok (.goto (-37), 3) := by decide +kernel
theorem dR_running_44 : decode cR_running 44 = .ok (.iload_n 2, 1) := by decide +kernel
theorem dR_running_45 : decode cR_running 45 = .ok (.ireturn, 1) := by decide +kernel
theorem dR_activeChild_0 : decode cR_activeChild 0 = .ok (.iconst 0, 1) := by decide +kernel
theorem dR_activeChild_1 : decode cR_activeChild 1 = .ok (.istore_n 2, 1) := by decide +kernel
theorem dR_activeChild_2 : decode cR_activeChild 2 = .ok (.iconst 0, 1) := by decide +kernel
theorem dR_activeChild_3 : decode cR_activeChild 3 = .ok (.istore_n 3, 1) := by decide +kernel
theorem dR_activeChild_4 : decode cR_activeChild 4 = .ok (.iload_n 3, 1) := by decide +kernel
theorem dR_activeChild_5 : decode cR_activeChild 5 = .ok (.aload_n 0, 1) := by decide +kernel
theorem dR_activeChild_6 : decode cR_activeChild 6 = .ok (.getfield 60, 3) := by decide +kernel
theorem dR_activeChild_9 : decode cR_activeChild 9 = .ok (.if_icmp .ge 38, 3) := by decide +kernel
theorem dR_activeChild_12 : decode cR_activeChild 12 = .ok (.iload_n 2, 1) := by decide +kernel
theorem dR_activeChild_13 : decode cR_activeChild 13 = .ok (.ifCond .ne 22, 3) := by decide +kernel
theorem dR_activeChild_16 : decode cR_activeChild 16 = .ok (.aload_n 0, 1) := by decide +kernel
theorem dR_activeChild_17 : decode cR_activeChild 17 = .ok (.getfield 13, 3) := by decide +kernel
theorem dR_activeChild_20 : decode cR_activeChild 20 = .ok (.iload_n 3, 1) := by decide +kernel
theorem dR_activeChild_21 : decode cR_activeChild 21 = .ok (.iaload, 1) := by decide +kernel
theorem dR_activeChild_22 : decode cR_activeChild 22 = .ok (.iload_n 1, 1) := by decide +kernel
theorem dR_activeChild_23 : decode cR_activeChild 23 = .ok (.if_icmp .ne 16, 3) := by decide +kernel
theorem dR_activeChild_26 : decode cR_activeChild 26 = .ok (.aload_n 0, 1) := by decide +kernel
theorem dR_activeChild_27 : decode cR_activeChild 27 = .ok (.getfield 22, 3) := by decide +kernel
theorem dR_activeChild_30 : decode cR_activeChild 30 = .ok (.iload_n 3, 1) := by decide +kernel
theorem dR_activeChild_31 : decode cR_activeChild 31 = .ok (.iaload, 1) := by decide +kernel
theorem dR_activeChild_32 : decode cR_activeChild 32 = .ok (.ifCond .eq 7, 3) := by decide +kernel
theorem dR_activeChild_35 : decode cR_activeChild 35 = .ok (.iconst 1, 1) := by decide +kernel
theorem dR_activeChild_36 : decode cR_activeChild 36 = .ok (.goto 4, 3) := by decide +kernel
theorem dR_activeChild_39 : decode cR_activeChild 39 = .ok (.iconst 0, 1) := by decide +kernel
theorem dR_activeChild_40 : decode cR_activeChild 40 = .ok (.istore_n 2, 1) := by decide +kernel
theorem dR_activeChild_41 : decode cR_activeChild 41 = .ok (.iinc 3 1, 3) := by decide +kernel
theorem dR_activeChild_44 : decode cR_activeChild 44 = .ok (.goto (-40), 3) := by decide +kernel
theorem dR_activeChild_47 : decode cR_activeChild 47 = .ok (.iload_n 2, 1) := by decide +kernel
theorem dR_activeChild_48 : decode cR_activeChild 48 = .ok (.ireturn, 1) := by decide +kernel
theorem dR_start_0 : decode cR_start 0 = .ok (.aload_n 0, 1) := by decide +kernel
theorem dR_start_1 : decode cR_start 1 = .ok (.getfield 67, 3) := by decide +kernel
theorem dR_start_4 : decode cR_start 4 = .ok (.ifCond .ne 21, 3) := by decide +kernel
theorem dR_start_7 : decode cR_start 7 = .ok (.iload_n 1, 1) := by decide +kernel
theorem dR_start_8 : decode cR_start 8 = .ok (.iconst 1, 1) := by decide +kernel
theorem dR_start_9 : decode cR_start 9 = .ok (.if_icmp .lt 16, 3) := by decide +kernel
theorem dR_start_12 : decode cR_start 12 = .ok (.iload_n 1, 1) := by decide +kernel
theorem dR_start_13 : decode cR_start 13 = .ok (.bipush 9, 2) := by decide +kernel
theorem dR_start_15 : decode cR_start 15 = .ok (.if_icmp .gt 10, 3) := by decide +kernel
theorem dR_start_18 : decode cR_start 18 = .ok (.aload_n 0, 1) := by decide +kernel
theorem dR_start_19 : decode cR_start 19 = .ok (.invokevirtual 105, 3) := by decide +kernel
theorem dR_start_22 : decode cR_start 22 = .ok (.ifCond .eq 5, 3) := by decide +kernel
theorem dR_start_25 : decode cR_start 25 = .ok (.iconst 0, 1) := by decide +kernel
theorem dR_start_26 : decode cR_start 26 = .ok (.ireturn, 1) := by decide +kernel
theorem dR_start_27 : decode cR_start 27 = .ok (.aload_n 0, 1) := by decide +kernel
theorem dR_start_28 : decode cR_start 28 = .ok (.iconst 1, 1) := by decide +kernel
theorem dR_start_29 : decode cR_start 29 = .ok (.putfield 109, 3) := by decide +kernel
theorem dR_start_32 : decode cR_start 32 = .ok (.aload_n 0, 1) := by decide +kernel
theorem dR_start_33 : decode cR_start 33 = .ok (.iconst 1, 1) := by decide +kernel
theorem dR_start_34 : decode cR_start 34 = .ok (.putfield 67, 3) := by decide +kernel
theorem dR_start_37 : decode cR_start 37 = .ok (.aload_n 0, 1) := by decide +kernel
theorem dR_start_38 : decode cR_start 38 = .ok (.iconst 0, 1) := by decide +kernel
theorem dR_start_39 : decode cR_start 39 = .ok (.putfield 112, 3) := by decide +kernel
theorem dR_start_42 : decode cR_start 42 = .ok (.aload_n 0, 1) := by decide +kernel
theorem dR_start_43 : decode cR_start 43 = .ok (.iconst (-1), 1) := by decide +kernel
theorem dR_start_44 : decode cR_start 44 = .ok (.putfield 53, 3) := by decide +kernel
theorem dR_start_47 : decode cR_start 47 = .ok (.aload_n 0, 1) := by decide +kernel
theorem dR_start_48 : decode cR_start 48 = .ok (.iload_n 1, 1) := by decide +kernel
theorem dR_start_49 : decode cR_start 49 = .ok (.putfield 115, 3) := by decide +kernel
theorem dR_start_52 : decode cR_start 52 = .ok (.aload_n 0, 1) := by decide +kernel
theorem dR_start_53 : decode cR_start 53 = .ok (.iconst 0, 1) := by decide +kernel
theorem dR_start_54 : decode cR_start 54 = .ok (.putfield 99, 3) := by decide +kernel
theorem dR_start_57 : decode cR_start 57 = .ok (.aload_n 0, 1) := by decide +kernel
theorem dR_start_58 : decode cR_start 58 = .ok (.iconst 0, 1) := by decide +kernel
theorem dR_start_59 : decode cR_start 59 = .ok (.putfield 86, 3) := by decide +kernel
theorem dR_start_62 : decode cR_start 62 = .ok (.aload_n 0, 1) := by decide +kernel
theorem dR_start_63 : decode cR_start 63 = .ok (.iconst 0, 1) := by decide +kernel
theorem dR_start_64 : decode cR_start 64 = .ok (.putfield 118, 3) := by decide +kernel
theorem dR_start_67 : decode cR_start 67 = .ok (.iconst 0, 1) := by decide +kernel
theorem dR_start_68 : decode cR_start 68 = .ok (.istore_n 2, 1) := by decide +kernel
theorem dR_start_69 : decode cR_start 69 = .ok (.iload_n 2, 1) := by decide +kernel
theorem dR_start_70 : decode cR_start 70 = .ok (.aload_n 0, 1) := by decide +kernel
theorem dR_start_71 : decode cR_start 71 = .ok (.getfield 60, 3) := by decide +kernel
theorem dR_start_74 : decode cR_start 74 = .ok (.if_icmp .ge 23, 3) := by decide +kernel
theorem dR_start_77 : decode cR_start 77 = .ok (.aload_n 0, 1) := by decide +kernel
theorem dR_start_78 : decode cR_start 78 = .ok (.getfield 34, 3) := by decide +kernel
theorem dR_start_81 : decode cR_start 81 = .ok (.iload_n 2, 1) := by decide +kernel
theorem dR_start_82 : decode cR_start 82 = .ok (.iconst 0, 1) := by decide +kernel
theorem dR_start_83 : decode cR_start 83 = .ok (.iastore, 1) := by decide +kernel
theorem dR_start_84 : decode cR_start 84 = .ok (.aload_n 0, 1) := by decide +kernel
theorem dR_start_85 : decode cR_start 85 = .ok (.getfield 37, 3) := by decide +kernel
theorem dR_start_88 : decode cR_start 88 = .ok (.iload_n 2, 1) := by decide +kernel
theorem dR_start_89 : decode cR_start 89 = .ok (.iconst 0, 1) := by decide +kernel
theorem dR_start_90 : decode cR_start 90 = .ok (.bastore, 1) := by decide +kernel
theorem dR_start_91 : decode cR_start 91 = .ok (.iinc 2 1, 3) := by decide +kernel
theorem dR_start_94 : decode cR_start 94 = .ok (.goto (-25), 3) := by decide +kernel
theorem dR_start_97 : decode cR_start 97 = .ok (.aload_n 0, 1) := by decide +kernel
theorem dR_start_98 : decode cR_start 98 = .ok (.invokevirtual 121, 3) := by decide +kernel
theorem dR_start_101 : decode cR_start 101 = .ok (.iconst 1, 1) := by decide +kernel
theorem dR_start_102 : decode cR_start 102 = .ok (.ireturn, 1) := by decide +kernel
theorem dR_take_0 : decode cR_take 0 = .ok (.aload_n 0, 1) := by decide +kernel
theorem dR_take_1 : decode cR_take 1 = .ok (.iload_n 1, 1) := by decide +kernel
theorem dR_take_2 : decode cR_take 2 = .ok (.iconst 1, 1) := by decide +kernel
theorem dR_take_3 : decode cR_take 3 = .ok (.invokevirtual 124, 3) := by decide +kernel
theorem dR_take_6 : decode cR_take 6 = .ok (.istore_n 2, 1) := by decide +kernel
theorem dR_take_7 : decode cR_take 7 = .ok (.iload_n 2, 1) := by decide +kernel
theorem dR_take_8 : decode cR_take 8 = .ok (.ifCond .ge 13, 3) := by decide +kernel
theorem dR_take_11 : decode cR_take 11 = .ok (.aload_n 0, 1) := by decide +kernel
theorem dR_take_12 : decode cR_take 12 = .ok (.aload_n 0, 1) := by decide +kernel
theorem dR_take_13 : decode cR_take 13 = .ok (.getfield 57, 3) := by decide +kernel
theorem dR_take_16 : decode cR_take 16 = .ok (.iconst 0, 1) := by decide +kernel
theorem dR_take_17 : decode cR_take 17 = .ok (.invokevirtual 124, 3) := by decide +kernel
theorem dR_take_20 : decode cR_take 20 = .ok (.istore_n 2, 1) := by decide +kernel
theorem dR_take_21 : decode cR_take 21 = .ok (.iconst 1, 1) := by decide +kernel
theorem dR_take_22 : decode cR_take 22 = .ok (.istore_n 3, 1) := by decide +kernel
theorem dR_take_23 : decode cR_take 23 = .ok (.iload_n 3, 1) := by decide +kernel
theorem dR_take_24 : decode cR_take 24 = .ok (.aload_n 0, 1) := by decide +kernel
theorem dR_take_25 : decode cR_take 25 = .ok (.getfield 57, 3) := by decide +kernel
theorem dR_take_28 : decode cR_take 28 = .ok (.if_icmp .ge 48, 3) := by decide +kernel
theorem dR_take_31 : decode cR_take 31 = .ok (.iload_n 2, 1) := by decide +kernel
theorem dR_take_32 : decode cR_take 32 = .ok (.ifCond .ge 44, 3) := by decide +kernel
theorem dR_take_35 : decode cR_take 35 = .ok (.aload_n 0, 1) := by decide +kernel
theorem dR_take_36 : decode cR_take 36 = .ok (.iload_n 1, 1) := by decide +kernel
theorem dR_take_37 : decode cR_take 37 = .ok (.iload_n 3, 1) := by decide +kernel
theorem dR_take_38 : decode cR_take 38 = .ok (.iadd, 1) := by decide +kernel
theorem dR_take_39 : decode cR_take 39 = .ok (.aload_n 0, 1) := by decide +kernel
theorem dR_take_40 : decode cR_take 40 = .ok (.getfield 57, 3) := by decide +kernel
theorem dR_take_43 : decode cR_take 43 = .ok (.irem, 1) := by decide +kernel
theorem dR_take_44 : decode cR_take 44 = .ok (.iconst 0, 1) := by decide +kernel
theorem dR_take_45 : decode cR_take 45 = .ok (.invokevirtual 124, 3) := by decide +kernel
theorem dR_take_48 : decode cR_take 48 = .ok (.istore_n 2, 1) := by decide +kernel
theorem dR_take_49 : decode cR_take 49 = .ok (.aload_n 0, 1) := by decide +kernel
theorem dR_take_50 : decode cR_take 50 = .ok (.iload_n 2, 1) := by decide +kernel
theorem dR_take_51 : decode cR_take 51 = .ok (.ifCond .ge 10, 3) := by decide +kernel
theorem dR_take_54 : decode cR_take 54 = .ok (.aload_n 0, 1) := by decide +kernel
theorem dR_take_55 : decode cR_take 55 = .ok (.getfield 118, 3) := by decide +kernel
theorem dR_take_58 : decode cR_take 58 = .ok (.goto 9, 3) := by decide +kernel
theorem dR_take_61 : decode cR_take 61 = .ok (.aload_n 0, 1) := by decide +kernel
theorem dR_take_62 : decode cR_take 62 = .ok (.getfield 118, 3) := by decide +kernel
theorem dR_take_65 : decode cR_take 65 = .ok (.iconst 1, 1) := by decide +kernel
theorem dR_take_66 : decode cR_take 66 = .ok (.iadd, 1) := by decide +kernel
theorem dR_take_67 : decode cR_take 67 = .ok (.putfield 118, 3) := by decide +kernel
theorem dR_take_70 : decode cR_take 70 = .ok (.iinc 3 1, 3) := by decide +kernel
theorem dR_take_73 : decode cR_take 73 = .ok (.goto (-50), 3) := by decide +kernel
theorem dR_take_76 : decode cR_take 76 = .ok (.iload_n 2, 1) := by decide +kernel
theorem dR_take_77 : decode cR_take 77 = .ok (.ireturn, 1) := by decide +kernel
theorem dR_unitsFor_0 : decode cR_unitsFor 0 = .ok (.iconst 1, 1) := by decide +kernel
theorem dR_unitsFor_1 : decode cR_unitsFor 1 = .ok (.istore_n 2, 1) := by decide +kernel
theorem dR_unitsFor_2 : decode cR_unitsFor 2 = .ok (.iconst 0, 1) := by decide +kernel
theorem dR_unitsFor_3 : decode cR_unitsFor 3 = .ok (.istore_n 3, 1) := by decide +kernel
theorem dR_unitsFor_4 : decode cR_unitsFor 4 = .ok (.iload_n 3, 1) := by decide +kernel
theorem dR_unitsFor_5 : decode cR_unitsFor 5 = .ok (.iconst 4, 1) := by decide +kernel
theorem dR_unitsFor_6 : decode cR_unitsFor 6 = .ok (.if_icmp .ge 59, 3) := by decide +kernel
theorem dR_unitsFor_9 : decode cR_unitsFor 9 = .ok (.aload_n 0, 1) := by decide +kernel
theorem dR_unitsFor_10 : decode cR_unitsFor 10 = .ok (.getfield 19, 3) := by decide +kernel
theorem dR_unitsFor_13 : decode cR_unitsFor 13 = .ok (.iload_n 1, 1) := by decide +kernel
theorem dR_unitsFor_14 : decode cR_unitsFor 14 = .ok (.iaload, 1) := by decide +kernel
theorem dR_unitsFor_15 : decode cR_unitsFor 15 = .ok (.iload_n 3, 1) := by decide +kernel
theorem dR_unitsFor_16 : decode cR_unitsFor 16 = .ok (.ishr, 1) := by decide +kernel
theorem dR_unitsFor_17 : decode cR_unitsFor 17 = .ok (.iconst 1, 1) := by decide +kernel
theorem dR_unitsFor_18 : decode cR_unitsFor 18 = .ok (.iand, 1) := by decide +kernel
theorem dR_unitsFor_19 : decode cR_unitsFor 19 = .ok (.iconst 1, 1) := by decide +kernel
theorem dR_unitsFor_20 : decode cR_unitsFor 20 = .ok (.if_icmp .ne 7, 3) := by decide +kernel
theorem dR_unitsFor_23 : decode cR_unitsFor 23 = .ok (.iconst 1, 1) := by decide +kernel
theorem dR_unitsFor_24 : decode cR_unitsFor 24 = .ok (.goto 4, 3) := by decide +kernel
theorem dR_unitsFor_27 : decode cR_unitsFor 27 = .ok (.iconst 0, 1) := by decide +kernel
theorem dR_unitsFor_28 : decode cR_unitsFor 28 = .ok (.istore 4, 2) := by decide +kernel
theorem dR_unitsFor_30 : decode cR_unitsFor 30 = .ok (.iload_n 2, 1) := by decide +kernel
theorem dR_unitsFor_31 : decode cR_unitsFor 31 = .ok (.ifCond .eq 26, 3) := by decide +kernel
theorem dR_unitsFor_34 : decode cR_unitsFor 34 = .ok (.iload 4, 2) := by decide +kernel
theorem dR_unitsFor_36 : decode cR_unitsFor 36 = .ok (.ifCond .eq 17, 3) := by decide +kernel
theorem dR_unitsFor_39 : decode cR_unitsFor 39 = .ok (.aload_n 0, 1) := by decide +kernel
theorem dR_unitsFor_40 : decode cR_unitsFor 40 = .ok (.iload_n 3, 1) := by decide +kernel
theorem dR_unitsFor_41 : decode cR_unitsFor 41 = .ok (.invokevirtual 127, 3) := by decide +kernel
theorem dR_unitsFor_44 : decode cR_unitsFor 44 = .ok (.aload_n 0, 1) := by decide +kernel
theorem dR_unitsFor_45 : decode cR_unitsFor 45 = .ok (.getfield 50, 3) := by decide +kernel
theorem dR_unitsFor_48 : decode cR_unitsFor 48 = .ok (.iload_n 3, 1) := by decide +kernel
theorem dR_unitsFor_49 : decode cR_unitsFor 49 = .ok (.iaload, 1) := by decide +kernel
theorem dR_unitsFor_50 : decode cR_unitsFor 50 = .ok (.if_icmp .gt 7, 3) := by decide +kernel
theorem dR_unitsFor_53 : decode cR_unitsFor 53 = .ok (.iconst 1, 1) := by decide +kernel
theorem dR_unitsFor_54 : decode cR_unitsFor 54 = .ok (.goto 4, 3) := by decide +kernel
theorem dR_unitsFor_57 : decode cR_unitsFor 57 = .ok (.iconst 0, 1) := by decide +kernel
theorem dR_unitsFor_58 : decode cR_unitsFor 58 = .ok (.istore_n 2, 1) := by decide +kernel
theorem dR_unitsFor_59 : decode cR_unitsFor 59 = .ok (.iinc 3 1, 3) := by decide +kernel
theorem dR_unitsFor_62 : decode cR_unitsFor 62 = .ok (.goto (-58), 3) := by decide +kernel
theorem dR_unitsFor_65 : decode cR_unitsFor 65 = .ok (.iload_n 2, 1) := by decide +kernel
theorem dR_unitsFor_66 : decode cR_unitsFor 66 = .ok (.ireturn, 1) := by decide +kernel
theorem dR_begin_0 : decode cR_begin 0 = .ok (.aload_n 0, 1) := by decide +kernel
theorem dR_begin_1 : decode cR_begin 1 = .ok (.getfield 67, 3) := by decide +kernel
theorem dR_begin_4 : decode cR_begin 4 = .ok (.ifCond .eq 23, 3) := by decide +kernel
theorem dR_begin_7 : decode cR_begin 7 = .ok (.iload_n 1, 1) := by decide +kernel
theorem dR_begin_8 : decode cR_begin 8 = .ok (.ifCond .lt 19, 3) := by decide +kernel
theorem dR_begin_11 : decode cR_begin 11 = .ok (.iload_n 1, 1) := by decide +kernel
theorem dR_begin_12 : decode cR_begin 12 = .ok (.aload_n 0, 1) := by decide +kernel
theorem dR_begin_13 : decode cR_begin 13 = .ok (.getfield 57, 3) := by decide +kernel
theorem dR_begin_16 : decode cR_begin 16 = .ok (.if_icmp .ge 11, 3) := by decide +kernel
theorem dR_begin_19 : decode cR_begin 19 = .ok (.aload_n 0, 1) := by decide +kernel
theorem dR_begin_20 : decode cR_begin 20 = .ok (.iload_n 1, 1) := by decide +kernel
theorem dR_begin_21 : decode cR_begin 21 = .ok (.invokevirtual 131, 3) := by decide +kernel
theorem dR_begin_24 : decode cR_begin 24 = .ok (.ifCond .lt 5, 3) := by decide +kernel
theorem dR_begin_27 : decode cR_begin 27 = .ok (.iconst (-1), 1) := by decide +kernel
theorem dR_begin_28 : decode cR_begin 28 = .ok (.ireturn, 1) := by decide +kernel
theorem dR_begin_29 : decode cR_begin 29 = .ok (.iconst 0, 1) := by decide +kernel
theorem dR_begin_30 : decode cR_begin 30 = .ok (.istore_n 2, 1) := by decide +kernel
theorem dR_begin_31 : decode cR_begin 31 = .ok (.iload_n 2, 1) := by decide +kernel
theorem dR_begin_32 : decode cR_begin 32 = .ok (.bipush 24, 2) := by decide +kernel
theorem dR_begin_34 : decode cR_begin 34 = .ok (.if_icmp .ge 86, 3) := by decide +kernel
theorem dR_begin_37 : decode cR_begin 37 = .ok (.aload_n 0, 1) := by decide +kernel
theorem dR_begin_38 : decode cR_begin 38 = .ok (.iload_n 1, 1) := by decide +kernel
theorem dR_begin_39 : decode cR_begin 39 = .ok (.invokevirtual 134, 3) := by decide +kernel
theorem dR_begin_42 : decode cR_begin 42 = .ok (.istore_n 3, 1) := by decide +kernel
theorem dR_begin_43 : decode cR_begin 43 = .ok (.iload_n 3, 1) := by decide +kernel
theorem dR_begin_44 : decode cR_begin 44 = .ok (.ifCond .ge 5, 3) := by decide +kernel
theorem dR_begin_47 : decode cR_begin 47 = .ok (.iconst (-1), 1) := by decide +kernel
theorem dR_begin_48 : decode cR_begin 48 = .ok (.ireturn, 1) := by decide +kernel
theorem dR_begin_49 : decode cR_begin 49 = .ok (.aload_n 0, 1) := by decide +kernel
theorem dR_begin_50 : decode cR_begin 50 = .ok (.iload_n 3, 1) := by decide +kernel
theorem dR_begin_51 : decode cR_begin 51 = .ok (.invokevirtual 137, 3) := by decide +kernel
theorem dR_begin_54 : decode cR_begin 54 = .ok (.ifCond .eq 33, 3) := by decide +kernel
theorem dR_begin_57 : decode cR_begin 57 = .ok (.aload_n 0, 1) := by decide +kernel
theorem dR_begin_58 : decode cR_begin 58 = .ok (.getfield 22, 3) := by decide +kernel
theorem dR_begin_61 : decode cR_begin 61 = .ok (.iload_n 3, 1) := by decide +kernel
theorem dR_begin_62 : decode cR_begin 62 = .ok (.iconst 3, 1) := by decide +kernel
theorem dR_begin_63 : decode cR_begin 63 = .ok (.iastore, 1) := by decide +kernel
theorem dR_begin_64 : decode cR_begin 64 = .ok (.aload_n 0, 1) := by decide +kernel
theorem dR_begin_65 : decode cR_begin 65 = .ok (.getfield 25, 3) := by decide +kernel
theorem dR_begin_68 : decode cR_begin 68 = .ok (.iload_n 3, 1) := by decide +kernel
theorem dR_begin_69 : decode cR_begin 69 = .ok (.iload_n 1, 1) := by decide +kernel
theorem dR_begin_70 : decode cR_begin 70 = .ok (.iastore, 1) := by decide +kernel
theorem dR_begin_71 : decode cR_begin 71 = .ok (.aload_n 0, 1) := by decide +kernel
theorem dR_begin_72 : decode cR_begin 72 = .ok (.getfield 34, 3) := by decide +kernel
theorem dR_begin_75 : decode cR_begin 75 = .ok (.iload_n 3, 1) := by decide +kernel
theorem dR_begin_76 : decode cR_begin 76 = .ok (.aload_n 0, 1) := by decide +kernel
theorem dR_begin_77 : decode cR_begin 77 = .ok (.getfield 34, 3) := by decide +kernel
theorem dR_begin_80 : decode cR_begin 80 = .ok (.iload_n 3, 1) := by decide +kernel
theorem dR_begin_81 : decode cR_begin 81 = .ok (.iaload, 1) := by decide +kernel
theorem dR_begin_82 : decode cR_begin 82 = .ok (.iconst 1, 1) := by decide +kernel
theorem dR_begin_83 : decode cR_begin 83 = .ok (.iadd, 1) := by decide +kernel
theorem dR_begin_84 : decode cR_begin 84 = .ok (.iastore, 1) := by decide +kernel
theorem dR_begin_85 : decode cR_begin 85 = .ok (.iload_n 3, 1) := by decide +kernel
theorem dR_begin_86 : decode cR_begin 86 = .ok (.ireturn, 1) := by decide +kernel
theorem dR_begin_87 : decode cR_begin 87 = .ok (.aload_n 0, 1) := by decide +kernel
theorem dR_begin_88 : decode cR_begin 88 = .ok (.getfield 22, 3) := by decide +kernel
theorem dR_begin_91 : decode cR_begin 91 = .ok (.iload_n 3, 1) := by decide +kernel
theorem dR_begin_92 : decode cR_begin 92 = .ok (.iconst 1, 1) := by decide +kernel
theorem dR_begin_93 : decode cR_begin 93 = .ok (.iastore, 1) := by decide +kernel
theorem dR_begin_94 : decode cR_begin 94 = .ok (.aload_n 0, 1) := by decide +kernel
theorem dR_begin_95 : decode cR_begin 95 = .ok (.getfield 28, 3) := by decide +kernel
theorem dR_begin_98 : decode cR_begin 98 = .ok (.iload_n 3, 1) := by decide +kernel
theorem dR_begin_99 : decode cR_begin 99 = .ok (.aload_n 0, 1) := by decide +kernel
theorem dR_begin_100 : decode cR_begin 100 = .ok (.getfield 93, 3) := by decide +kernel
theorem dR_begin_103 : decode cR_begin 103 = .ok (.iastore, 1) := by decide +kernel
theorem dR_begin_104 : decode cR_begin 104 = .ok (.aload_n 0, 1) := by decide +kernel
theorem dR_begin_105 : decode cR_begin 105 = .ok (.aload_n 0, 1) := by decide +kernel
theorem dR_begin_106 : decode cR_begin 106 = .ok (.getfield 93, 3) := by decide +kernel
theorem dR_begin_109 : decode cR_begin 109 = .ok (.iconst 1, 1) := by decide +kernel
theorem dR_begin_110 : decode cR_begin 110 = .ok (.iadd, 1) := by decide +kernel
theorem dR_begin_111 : decode cR_begin 111 = .ok (.putfield 93, 3) := by decide +kernel
theorem dR_begin_114 : decode cR_begin 114 = .ok (.iinc 2 1, 3) := by decide +kernel
theorem dR_begin_117 : decode cR_begin 117 = .ok (.goto (-86), 3) := by decide +kernel
theorem dR_begin_120 : decode cR_begin 120 = .ok (.iconst (-1), 1) := by decide +kernel
theorem dR_begin_121 : decode cR_begin 121 = .ok (.ireturn, 1) := by decide +kernel
theorem dR_release_0 : decode cR_release 0 = .ok (.aload_n 0, 1) := by decide +kernel
theorem dR_release_1 : decode cR_release 1 = .ok (.getfield 22, 3) := by decide +kernel
theorem dR_release_4 : decode cR_release 4 = .ok (.iload_n 1, 1) := by decide +kernel
theorem dR_release_5 : decode cR_release 5 = .ok (.iconst 5, 1) := by decide +kernel
theorem dR_release_6 : decode cR_release 6 = .ok (.iastore, 1) := by decide +kernel
theorem dR_release_7 : decode cR_release 7 = .ok (.iconst 0, 1) := by decide +kernel
theorem dR_release_8 : decode cR_release 8 = .ok (.istore_n 2, 1) := by decide +kernel
theorem dR_release_9 : decode cR_release 9 = .ok (.iload_n 2, 1) := by decide +kernel
theorem dR_release_10 : decode cR_release 10 = .ok (.bipush 24, 2) := by decide +kernel
theorem dR_release_12 : decode cR_release 12 = .ok (.if_icmp .ge 109, 3) := by decide +kernel
theorem dR_release_15 : decode cR_release 15 = .ok (.iconst (-1), 1) := by decide +kernel
theorem dR_release_16 : decode cR_release 16 = .ok (.istore_n 3, 1) := by decide +kernel
theorem dR_release_17 : decode cR_release 17 = .ok (.iconst 0, 1) := by decide +kernel
theorem dR_release_18 : decode cR_release 18 = .ok (.istore 4, 2) := by decide +kernel
theorem dR_release_20 : decode cR_release 20 = .ok (.iload 4, 2) := by decide +kernel
theorem dR_release_22 : decode cR_release 22 = .ok (.aload_n 0, 1) := by decide +kernel
theorem dR_release_23 : decode cR_release 23 = .ok (.getfield 60, 3) := by decide +kernel
theorem dR_release_26 : decode cR_release 26 = .ok (.if_icmp .ge 76, 3) := by decide +kernel
theorem dR_release_29 : decode cR_release 29 = .ok (.aload_n 0, 1) := by decide +kernel
theorem dR_release_30 : decode cR_release 30 = .ok (.getfield 22, 3) := by decide +kernel
theorem dR_release_33 : decode cR_release 33 = .ok (.iload 4, 2) := by decide +kernel
theorem dR_release_35 : decode cR_release 35 = .ok (.iaload, 1) := by decide +kernel
theorem dR_release_36 : decode cR_release 36 = .ok (.iconst 1, 1) := by decide +kernel
theorem dR_release_37 : decode cR_release 37 = .ok (.if_icmp .ne 24, 3) := by decide +kernel
theorem dR_release_40 : decode cR_release 40 = .ok (.aload_n 0, 1) := by decide +kernel
theorem dR_release_41 : decode cR_release 41 = .ok (.getfield 19, 3) := by decide +kernel
theorem dR_release_44 : decode cR_release 44 = .ok (.iload 4, 2) := by decide +kernel
theorem dR_release_46 : decode cR_release 46 = .ok (.iaload, 1) := by decide +kernel
theorem dR_release_47 : decode cR_release 47 = .ok (.aload_n 0, 1) := by decide +kernel
theorem dR_release_48 : decode cR_release 48 = .ok (.getfield 19, 3) := by decide +kernel
theorem dR_release_51 : decode cR_release 51 = .ok (.iload_n 1, 1) := by decide +kernel
theorem dR_release_52 : decode cR_release 52 = .ok (.iaload, 1) := by decide +kernel
theorem dR_release_53 : decode cR_release 53 = .ok (.iand, 1) := by decide +kernel
theorem dR_release_54 : decode cR_release 54 = .ok (.ifCond .eq 7, 3) := by decide +kernel
theorem dR_release_57 : decode cR_release 57 = .ok (.iconst 1, 1) := by decide +kernel
theorem dR_release_58 : decode cR_release 58 = .ok (.goto 4, 3) := by decide +kernel
theorem dR_release_61 : decode cR_release 61 = .ok (.iconst 0, 1) := by decide +kernel
theorem dR_release_62 : decode cR_release 62 = .ok (.istore 5, 2) := by decide +kernel
theorem dR_release_64 : decode cR_release 64 = .ok (.iload 5, 2) := by decide +kernel
theorem dR_release_66 : decode cR_release 66 = .ok (.ifCond .eq 28, 3) := by decide +kernel
theorem dR_release_69 : decode cR_release 69 = .ok (.iload_n 3, 1) := by decide +kernel
theorem dR_release_70 : decode cR_release 70 = .ok (.ifCond .lt 19, 3) := by decide +kernel
theorem dR_release_73 : decode cR_release 73 = .ok (.aload_n 0, 1) := by decide +kernel
theorem dR_release_74 : decode cR_release 74 = .ok (.getfield 28, 3) := by decide +kernel
theorem dR_release_77 : decode cR_release 77 = .ok (.iload 4, 2) := by decide +kernel
theorem dR_release_79 : decode cR_release 79 = .ok (.iaload, 1) := by decide +kernel
theorem dR_release_80 : decode cR_release 80 = .ok (.aload_n 0, 1) := by decide +kernel
theorem dR_release_81 : decode cR_release 81 = .ok (.getfield 28, 3) := by decide +kernel
theorem dR_release_84 : decode cR_release 84 = .ok (.iload_n 3, 1) := by decide +kernel
theorem dR_release_85 : decode cR_release 85 = .ok (.iaload, 1) := by decide +kernel
theorem dR_release_86 : decode cR_release 86 = .ok (.if_icmp .ge 8, 3) := by decide +kernel
theorem dR_release_89 : decode cR_release 89 = .ok (.iload 4, 2) := by decide +kernel
theorem dR_release_91 : decode cR_release 91 = .ok (.goto 4, 3) := by decide +kernel
theorem dR_release_94 : decode cR_release 94 = .ok (.iload_n 3, 1) := by decide +kernel
theorem dR_release_95 : decode cR_release 95 = .ok (.istore_n 3, 1) := by decide +kernel
theorem dR_release_96 : decode cR_release 96 = .ok (.iinc 4 1, 3) := by decide +kernel
theorem dR_release_99 : decode cR_release 99 = .ok (.goto (-79), 3) := by decide +kernel
theorem dR_release_102 : decode cR_release 102 = .ok (.iload_n 3, 1) := by decide +kernel
theorem dR_release_103 : decode cR_release 103 = .ok (.ifCond .lt 12, 3) := by decide +kernel
theorem dR_release_106 : decode cR_release 106 = .ok (.aload_n 0, 1) := by decide +kernel
theorem dR_release_107 : decode cR_release 107 = .ok (.iload_n 3, 1) := by decide +kernel
theorem dR_release_108 : decode cR_release 108 = .ok (.aload_n 0, 1) := by decide +kernel
theorem dR_release_109 : decode cR_release 109 = .ok (.getfield 57, 3) := by decide +kernel
theorem dR_release_112 : decode cR_release 112 = .ok (.invokevirtual 89, 3) := by decide +kernel
theorem dR_release_115 : decode cR_release 115 = .ok (.iinc 2 1, 3) := by decide +kernel
theorem dR_release_118 : decode cR_release 118 = .ok (.goto (-109), 3) := by decide +kernel
theorem dR_release_121 : decode cR_release 121 = .ok (.return_, 1) := by decide +kernel
theorem dR_pass_0 : decode cR_pass 0 = .ok (.aload_n 0, 1) := by decide +kernel
theorem dR_pass_1 : decode cR_pass 1 = .ok (.getfield 7, 3) := by decide +kernel
theorem dR_pass_4 : decode cR_pass 4 = .ok (.iload_n 1, 1) := by decide +kernel
theorem dR_pass_5 : decode cR_pass 5 = .ok (.iaload, 1) := by decide +kernel
theorem dR_pass_6 : decode cR_pass 6 = .ok (.iconst 1, 1) := by decide +kernel
theorem dR_pass_7 : decode cR_pass 7 = .ok (.if_icmp .ne 34, 3) := by decide +kernel
theorem dR_pass_10 : decode cR_pass 10 = .ok (.iload_n 3, 1) := by decide +kernel
theorem dR_pass_11 : decode cR_pass 11 = .ok (.ifCond .lt 29, 3) := by decide +kernel
theorem dR_pass_14 : decode cR_pass 14 = .ok (.iload_n 3, 1) := by decide +kernel
theorem dR_pass_15 : decode cR_pass 15 = .ok (.aload_n 0, 1) := by decide +kernel
theorem dR_pass_16 : decode cR_pass 16 = .ok (.getfield 41, 3) := by decide +kernel
theorem dR_pass_19 : decode cR_pass 19 = .ok (.iload_n 1, 1) := by decide +kernel
theorem dR_pass_20 : decode cR_pass 20 = .ok (.iaload, 1) := by decide +kernel
theorem dR_pass_21 : decode cR_pass 21 = .ok (.if_icmp .ge 19, 3) := by decide +kernel
theorem dR_pass_24 : decode cR_pass 24 = .ok (.aload_n 0, 1) := by decide +kernel
theorem dR_pass_25 : decode cR_pass 25 = .ok (.aload_n 0, 1) := by decide +kernel
theorem dR_pass_26 : decode cR_pass 26 = .ok (.getfield 44, 3) := by decide +kernel
theorem dR_pass_29 : decode cR_pass 29 = .ok (.bipush 6, 2) := by decide +kernel
theorem dR_pass_31 : decode cR_pass 31 = .ok (.iload_n 1, 1) := by decide +kernel
theorem dR_pass_32 : decode cR_pass 32 = .ok (.imul, 1) := by decide +kernel
theorem dR_pass_33 : decode cR_pass 33 = .ok (.iload_n 3, 1) := by decide +kernel
theorem dR_pass_34 : decode cR_pass 34 = .ok (.iadd, 1) := by decide +kernel
theorem dR_pass_35 : decode cR_pass 35 = .ok (.iaload, 1) := by decide +kernel
theorem dR_pass_36 : decode cR_pass 36 = .ok (.iload_n 2, 1) := by decide +kernel
theorem dR_pass_37 : decode cR_pass 37 = .ok (.invokevirtual 96, 3) := by decide +kernel
theorem dR_pass_40 : decode cR_pass 40 = .ok (.return_, 1) := by decide +kernel
theorem dR_pass_41 : decode cR_pass 41 = .ok (.iconst 0, 1) := by decide +kernel
theorem dR_pass_42 : decode cR_pass 42 = .ok (.istore 4, 2) := by decide +kernel
theorem dR_pass_44 : decode cR_pass 44 = .ok (.iload 4, 2) := by decide +kernel
theorem dR_pass_46 : decode cR_pass 46 = .ok (.aload_n 0, 1) := by decide +kernel
theorem dR_pass_47 : decode cR_pass 47 = .ok (.getfield 41, 3) := by decide +kernel
theorem dR_pass_50 : decode cR_pass 50 = .ok (.iload_n 1, 1) := by decide +kernel
theorem dR_pass_51 : decode cR_pass 51 = .ok (.iaload, 1) := by decide +kernel
theorem dR_pass_52 : decode cR_pass 52 = .ok (.if_icmp .ge 71, 3) := by decide +kernel
theorem dR_pass_55 : decode cR_pass 55 = .ok (.aload_n 0, 1) := by decide +kernel
theorem dR_pass_56 : decode cR_pass 56 = .ok (.getfield 44, 3) := by decide +kernel
theorem dR_pass_59 : decode cR_pass 59 = .ok (.bipush 6, 2) := by decide +kernel
theorem dR_pass_61 : decode cR_pass 61 = .ok (.iload_n 1, 1) := by decide +kernel
theorem dR_pass_62 : decode cR_pass 62 = .ok (.imul, 1) := by decide +kernel
theorem dR_pass_63 : decode cR_pass 63 = .ok (.iload 4, 2) := by decide +kernel
theorem dR_pass_65 : decode cR_pass 65 = .ok (.iadd, 1) := by decide +kernel
theorem dR_pass_66 : decode cR_pass 66 = .ok (.iaload, 1) := by decide +kernel
theorem dR_pass_67 : decode cR_pass 67 = .ok (.istore 5, 2) := by decide +kernel
theorem dR_pass_69 : decode cR_pass 69 = .ok (.aload_n 0, 1) := by decide +kernel
theorem dR_pass_70 : decode cR_pass 70 = .ok (.getfield 31, 3) := by decide +kernel
theorem dR_pass_73 : decode cR_pass 73 = .ok (.iload 5, 2) := by decide +kernel
theorem dR_pass_75 : decode cR_pass 75 = .ok (.aload_n 0, 1) := by decide +kernel
theorem dR_pass_76 : decode cR_pass 76 = .ok (.getfield 31, 3) := by decide +kernel
theorem dR_pass_79 : decode cR_pass 79 = .ok (.iload 5, 2) := by decide +kernel
theorem dR_pass_81 : decode cR_pass 81 = .ok (.iaload, 1) := by decide +kernel
theorem dR_pass_82 : decode cR_pass 82 = .ok (.iconst 1, 1) := by decide +kernel
theorem dR_pass_83 : decode cR_pass 83 = .ok (.iadd, 1) := by decide +kernel
theorem dR_pass_84 : decode cR_pass 84 = .ok (.iastore, 1) := by decide +kernel
theorem dR_pass_85 : decode cR_pass 85 = .ok (.aload_n 0, 1) := by decide +kernel
theorem dR_pass_86 : decode cR_pass 86 = .ok (.getfield 31, 3) := by decide +kernel
theorem dR_pass_89 : decode cR_pass 89 = .ok (.iload 5, 2) := by decide +kernel
theorem dR_pass_91 : decode cR_pass 91 = .ok (.iaload, 1) := by decide +kernel
theorem dR_pass_92 : decode cR_pass 92 = .ok (.aload_n 0, 1) := by decide +kernel
theorem dR_pass_93 : decode cR_pass 93 = .ok (.iload 5, 2) := by decide +kernel
theorem dR_pass_95 : decode cR_pass 95 = .ok (.iconst 1, 1) := by decide +kernel
theorem dR_pass_96 : decode cR_pass 96 = .ok (.invokevirtual 75, 3) := by decide +kernel
theorem dR_pass_99 : decode cR_pass 99 = .ok (.if_icmp .ne 18, 3) := by decide +kernel
theorem dR_pass_102 : decode cR_pass 102 = .ok (.aload_n 0, 1) := by decide +kernel
theorem dR_pass_103 : decode cR_pass 103 = .ok (.getfield 31, 3) := by decide +kernel
theorem dR_pass_106 : decode cR_pass 106 = .ok (.iload 5, 2) := by decide +kernel
theorem dR_pass_108 : decode cR_pass 108 = .ok (.iconst 0, 1) := by decide +kernel
theorem dR_pass_109 : decode cR_pass 109 = .ok (.iastore, 1) := by decide +kernel
theorem dR_pass_110 : decode cR_pass 110 = .ok (.aload_n 0, 1) := by decide +kernel
theorem dR_pass_111 : decode cR_pass 111 = .ok (.iload 5, 2) := by decide +kernel
theorem dR_pass_113 : decode cR_pass 113 = .ok (.iload_n 2, 1) := by decide +kernel
theorem dR_pass_114 : decode cR_pass 114 = .ok (.invokevirtual 96, 3) := by decide +kernel
theorem dR_pass_117 : decode cR_pass 117 = .ok (.iinc 4 1, 3) := by decide +kernel
theorem dR_pass_120 : decode cR_pass 120 = .ok (.goto (-76), 3) := by decide +kernel
theorem dR_pass_123 : decode cR_pass 123 = .ok (.return_, 1) := by decide +kernel
theorem dR_end_0 : decode cR_end 0 = .ok (.iload_n 1, 1) := by decide +kernel
theorem dR_end_1 : decode cR_end 1 = .ok (.istore 5, 2) := by decide +kernel
theorem dR_end_3 : decode cR_end 3 = .ok (.iconst 0, 1) := by decide +kernel
theorem dR_end_4 : decode cR_end 4 = .ok (.istore 6, 2) := by decide +kernel
theorem dR_end_6 : decode cR_end 6 = .ok (.iload 4, 2) := by decide +kernel
theorem dR_end_8 : decode cR_end 8 = .ok (.istore 7, 2) := by decide +kernel
theorem dR_end_10 : decode cR_end 10 = .ok (.iconst 0, 1) := by decide +kernel
theorem dR_end_11 : decode cR_end 11 = .ok (.istore 8, 2) := by decide +kernel
theorem dR_end_13 : decode cR_end 13 = .ok (.iload 8, 2) := by decide +kernel
theorem dR_end_15 : decode cR_end 15 = .ok (.iconst 5, 1) := by decide +kernel
theorem dR_end_16 : decode cR_end 16 = .ok (.if_icmp .ge 144, 3) := by decide +kernel
theorem dR_end_19 : decode cR_end 19 = .ok (.iload 5, 2) := by decide +kernel
theorem dR_end_21 : decode cR_end 21 = .ok (.ifCond .lt 139, 3) := by decide +kernel
theorem dR_end_24 : decode cR_end 24 = .ok (.aload_n 0, 1) := by decide +kernel
theorem dR_end_25 : decode cR_end 25 = .ok (.getfield 22, 3) := by decide +kernel
theorem dR_end_28 : decode cR_end 28 = .ok (.iload 5, 2) := by decide +kernel
theorem dR_end_30 : decode cR_end 30 = .ok (.iconst 0, 1) := by decide +kernel
theorem dR_end_31 : decode cR_end 31 = .ok (.iastore, 1) := by decide +kernel
theorem dR_end_32 : decode cR_end 32 = .ok (.iload 6, 2) := by decide +kernel
theorem dR_end_34 : decode cR_end 34 = .ok (.iconst 1, 1) := by decide +kernel
theorem dR_end_35 : decode cR_end 35 = .ok (.iadd, 1) := by decide +kernel
theorem dR_end_36 : decode cR_end 36 = .ok (.istore 6, 2) := by decide +kernel
theorem dR_end_38 : decode cR_end 38 = .ok (.iload 7, 2) := by decide +kernel
theorem dR_end_40 : decode cR_end 40 = .ok (.ifCond .ne 24, 3) := by decide +kernel
theorem dR_end_43 : decode cR_end 43 = .ok (.aload_n 0, 1) := by decide +kernel
theorem dR_end_44 : decode cR_end 44 = .ok (.getfield 7, 3) := by decide +kernel
theorem dR_end_47 : decode cR_end 47 = .ok (.iload 5, 2) := by decide +kernel
theorem dR_end_49 : decode cR_end 49 = .ok (.iaload, 1) := by decide +kernel
theorem dR_end_50 : decode cR_end 50 = .ok (.iconst 2, 1) := by decide +kernel
theorem dR_end_51 : decode cR_end 51 = .ok (.if_icmp .ne 17, 3) := by decide +kernel
theorem dR_end_54 : decode cR_end 54 = .ok (.aload_n 0, 1) := by decide +kernel
theorem dR_end_55 : decode cR_end 55 = .ok (.getfield 37, 3) := by decide +kernel
theorem dR_end_58 : decode cR_end 58 = .ok (.iload 5, 2) := by decide +kernel
theorem dR_end_60 : decode cR_end 60 = .ok (.baload, 1) := by decide +kernel
theorem dR_end_61 : decode cR_end 61 = .ok (.ifCond .eq 7, 3) := by decide +kernel
theorem dR_end_64 : decode cR_end 64 = .ok (.iconst 1, 1) := by decide +kernel
theorem dR_end_65 : decode cR_end 65 = .ok (.goto 4, 3) := by decide +kernel
theorem dR_end_68 : decode cR_end 68 = .ok (.iconst 0, 1) := by decide +kernel
theorem dR_end_69 : decode cR_end 69 = .ok (.istore 7, 2) := by decide +kernel
theorem dR_end_71 : decode cR_end 71 = .ok (.iload 7, 2) := by decide +kernel
theorem dR_end_73 : decode cR_end 73 = .ok (.ifCond .ne 18, 3) := by decide +kernel
theorem dR_end_76 : decode cR_end 76 = .ok (.aload_n 0, 1) := by decide +kernel
theorem dR_end_77 : decode cR_end 77 = .ok (.getfield 112, 3) := by decide +kernel
theorem dR_end_80 : decode cR_end 80 = .ok (.ifCond .ne 11, 3) := by decide +kernel
theorem dR_end_83 : decode cR_end 83 = .ok (.aload_n 0, 1) := by decide +kernel
theorem dR_end_84 : decode cR_end 84 = .ok (.iload 5, 2) := by decide +kernel
theorem dR_end_86 : decode cR_end 86 = .ok (.iload_n 2, 1) := by decide +kernel
theorem dR_end_87 : decode cR_end 87 = .ok (.iload_n 3, 1) := by decide +kernel
theorem dR_end_88 : decode cR_end 88 = .ok (.invokevirtual 140, 3) := by decide +kernel
theorem dR_end_91 : decode cR_end 91 = .ok (.aload_n 0, 1) := by decide +kernel
theorem dR_end_92 : decode cR_end 92 = .ok (.getfield 13, 3) := by decide +kernel
theorem dR_end_95 : decode cR_end 95 = .ok (.iload 5, 2) := by decide +kernel
theorem dR_end_97 : decode cR_end 97 = .ok (.iaload, 1) := by decide +kernel
theorem dR_end_98 : decode cR_end 98 = .ok (.istore 9, 2) := by decide +kernel
theorem dR_end_100 : decode cR_end 100 = .ok (.iload 9, 2) := by decide +kernel
theorem dR_end_102 : decode cR_end 102 = .ok (.ifCond .lt 16, 3) := by decide +kernel
theorem dR_end_105 : decode cR_end 105 = .ok (.iload 7, 2) := by decide +kernel
theorem dR_end_107 : decode cR_end 107 = .ok (.ifCond .eq 11, 3) := by decide +kernel
theorem dR_end_110 : decode cR_end 110 = .ok (.aload_n 0, 1) := by decide +kernel
theorem dR_end_111 : decode cR_end 111 = .ok (.getfield 37, 3) := by decide +kernel
theorem dR_end_114 : decode cR_end 114 = .ok (.iload 9, 2) := by decide +kernel
theorem dR_end_116 : decode cR_end 116 = .ok (.iconst 1, 1) := by decide +kernel
theorem dR_end_117 : decode cR_end 117 = .ok (.bastore, 1) := by decide +kernel
theorem dR_end_118 : decode cR_end 118 = .ok (.iload 9, 2) := by decide +kernel
theorem dR_end_120 : decode cR_end 120 = .ok (.ifCond .lt 28, 3) := by decide +kernel
theorem dR_end_123 : decode cR_end 123 = .ok (.aload_n 0, 1) := by decide +kernel
theorem dR_end_124 : decode cR_end 124 = .ok (.getfield 7, 3) := by decide +kernel
theorem dR_end_127 : decode cR_end 127 = .ok (.iload 9, 2) := by decide +kernel
theorem dR_end_129 : decode cR_end 129 = .ok (.iaload, 1) := by decide +kernel
theorem dR_end_130 : decode cR_end 130 = .ok (.iconst 2, 1) := by decide +kernel
theorem dR_end_131 : decode cR_end 131 = .ok (.if_icmp .ne 17, 3) := by decide +kernel
theorem dR_end_134 : decode cR_end 134 = .ok (.aload_n 0, 1) := by decide +kernel
theorem dR_end_135 : decode cR_end 135 = .ok (.iload 9, 2) := by decide +kernel
theorem dR_end_137 : decode cR_end 137 = .ok (.invokevirtual 144, 3) := by decide +kernel
theorem dR_end_140 : decode cR_end 140 = .ok (.ifCond .ne 8, 3) := by decide +kernel
theorem dR_end_143 : decode cR_end 143 = .ok (.iload 9, 2) := by decide +kernel
theorem dR_end_145 : decode cR_end 145 = .ok (.goto 4, 3) := by decide +kernel
theorem dR_end_148 : decode cR_end 148 = .ok (.iconst (-1), 1) := by decide +kernel
theorem dR_end_149 : decode cR_end 149 = .ok (.istore 5, 2) := by decide +kernel
theorem dR_end_151 : decode cR_end 151 = .ok (.iconst 0, 1) := by decide +kernel
theorem dR_end_152 : decode cR_end 152 = .ok (.istore 7, 2) := by decide +kernel
theorem dR_end_154 : decode cR_end 154 = .ok (.iinc 8 1, 3) := by decide +kernel
theorem dR_end_157 : decode cR_end 157 = .ok (.goto (-144), 3) := by decide +kernel
theorem dR_end_160 : decode cR_end 160 = .ok (.iload 6, 2) := by decide +kernel
theorem dR_end_162 : decode cR_end 162 = .ok (.ireturn, 1) := by decide +kernel
theorem dR_settle_0 : decode cR_settle 0 = .ok (.iconst 0, 1) := by decide +kernel
theorem dR_settle_1 : decode cR_settle 1 = .ok (.istore_n 1, 1) := by decide +kernel
theorem dR_settle_2 : decode cR_settle 2 = .ok (.iconst 0, 1) := by decide +kernel
theorem dR_settle_3 : decode cR_settle 3 = .ok (.istore_n 2, 1) := by decide +kernel
theorem dR_settle_4 : decode cR_settle 4 = .ok (.iload_n 2, 1) := by decide +kernel
theorem dR_settle_5 : decode cR_settle 5 = .ok (.aload_n 0, 1) := by decide +kernel
theorem dR_settle_6 : decode cR_settle 6 = .ok (.getfield 60, 3) := by decide +kernel
theorem dR_settle_9 : decode cR_settle 9 = .ok (.if_icmp .ge 28, 3) := by decide +kernel
theorem dR_settle_12 : decode cR_settle 12 = .ok (.iload_n 1, 1) := by decide +kernel
theorem dR_settle_13 : decode cR_settle 13 = .ok (.ifCond .ne 12, 3) := by decide +kernel
theorem dR_settle_16 : decode cR_settle 16 = .ok (.aload_n 0, 1) := by decide +kernel
theorem dR_settle_17 : decode cR_settle 17 = .ok (.getfield 22, 3) := by decide +kernel
theorem dR_settle_20 : decode cR_settle 20 = .ok (.iload_n 2, 1) := by decide +kernel
theorem dR_settle_21 : decode cR_settle 21 = .ok (.iaload, 1) := by decide +kernel
theorem dR_settle_22 : decode cR_settle 22 = .ok (.ifCond .eq 7, 3) := by decide +kernel
theorem dR_settle_25 : decode cR_settle 25 = .ok (.iconst 1, 1) := by decide +kernel
theorem dR_settle_26 : decode cR_settle 26 = .ok (.goto 4, 3) := by decide +kernel
theorem dR_settle_29 : decode cR_settle 29 = .ok (.iconst 0, 1) := by decide +kernel
theorem dR_settle_30 : decode cR_settle 30 = .ok (.istore_n 1, 1) := by decide +kernel
theorem dR_settle_31 : decode cR_settle 31 = .ok (.iinc 2 1, 3) := by decide +kernel
theorem dR_settle_34 : decode cR_settle 34 = .ok (.goto (-30), 3) := by decide +kernel
theorem dR_settle_37 : decode cR_settle 37 = .ok (.iload_n 1, 1) := by decide +kernel
theorem dR_settle_38 : decode cR_settle 38 = .ok (.ifCond .eq 4, 3) := by decide +kernel
theorem dR_settle_41 : decode cR_settle 41 = .ok (.return_, 1) := by decide +kernel
theorem dR_settle_42 : decode cR_settle 42 = .ok (.aload_n 0, 1) := by decide +kernel
theorem dR_settle_43 : decode cR_settle 43 = .ok (.getfield 112, 3) := by decide +kernel
