theorem dE_init_0 : decode cE_init 0 = .ok (.aload_n 0, 1) := by decide +kernel
theorem dE_init_1 : decode cE_init 1 = .ok (.invokespecial 3, 3) := by decide +kernel
theorem dE_init_4 : decode cE_init 4 = .ok (.aload_n 0, 1) := by decide +kernel
theorem dE_init_5 : decode cE_init 5 = .ok (.iconst 1, 1) := by decide +kernel
theorem dE_init_6 : decode cE_init 6 = .ok (.iload_n 1, 1) := by decide +kernel
theorem dE_init_7 : decode cE_init 7 = .ok (.iconst 4, 1) := by decide +kernel
theorem dE_init_8 : decode cE_init 8 = .ok (.invokestatic 9, 3) := by decide +kernel
theorem dE_init_11 : decode cE_init 11 = .ok (.invokestatic 15, 3) := by decide +kernel
theorem dE_init_14 : decode cE_init 14 = .ok (.putfield 18, 3) := by decide +kernel
theorem dE_init_17 : decode cE_init 17 = .ok (.aload_n 0, 1) := by decide +kernel
theorem dE_init_18 : decode cE_init 18 = .ok (.new 22, 3) := by decide +kernel
theorem dE_init_21 : decode cE_init 21 = .ok (.dup, 1) := by decide +kernel
theorem dE_init_22 : decode cE_init 22 = .ok (.invokespecial 24, 3) := by decide +kernel
theorem dE_init_25 : decode cE_init 25 = .ok (.putfield 25, 3) := by decide +kernel
theorem dE_init_28 : decode cE_init 28 = .ok (.aload_n 0, 1) := by decide +kernel
theorem dE_init_29 : decode cE_init 29 = .ok (.new 29, 3) := by decide +kernel
theorem dE_init_32 : decode cE_init 32 = .ok (.dup, 1) := by decide +kernel
theorem dE_init_33 : decode cE_init 33 = .ok (.invokespecial 31, 3) := by decide +kernel
theorem dE_init_36 : decode cE_init 36 = .ok (.putfield 32, 3) := by decide +kernel
theorem dE_init_39 : decode cE_init 39 = .ok (.aload_n 0, 1) := by decide +kernel
theorem dE_init_40 : decode cE_init 40 = .ok (.aload_n 0, 1) := by decide +kernel
theorem dE_init_41 : decode cE_init 41 = .ok (.getfield 18, 3) := by decide +kernel
theorem dE_init_44 : decode cE_init 44 = .ok (.iconst 1, 1) := by decide +kernel
theorem dE_init_45 : decode cE_init 45 = .ok (.iadd, 1) := by decide +kernel
theorem dE_init_46 : decode cE_init 46 = .ok (.anewarray 36, 3) := by decide +kernel
theorem dE_init_49 : decode cE_init 49 = .ok (.putfield 38, 3) := by decide +kernel
theorem dE_init_52 : decode cE_init 52 = .ok (.iconst 0, 1) := by decide +kernel
theorem dE_init_53 : decode cE_init 53 = .ok (.istore_n 2, 1) := by decide +kernel
theorem dE_init_54 : decode cE_init 54 = .ok (.iload_n 2, 1) := by decide +kernel
theorem dE_init_55 : decode cE_init 55 = .ok (.aload_n 0, 1) := by decide +kernel
theorem dE_init_56 : decode cE_init 56 = .ok (.getfield 18, 3) := by decide +kernel
theorem dE_init_59 : decode cE_init 59 = .ok (.if_icmp .gt 22, 3) := by decide +kernel
theorem dE_init_62 : decode cE_init 62 = .ok (.aload_n 0, 1) := by decide +kernel
theorem dE_init_63 : decode cE_init 63 = .ok (.getfield 38, 3) := by decide +kernel
theorem dE_init_66 : decode cE_init 66 = .ok (.iload_n 2, 1) := by decide +kernel
theorem dE_init_67 : decode cE_init 67 = .ok (.new 36, 3) := by decide +kernel
theorem dE_init_70 : decode cE_init 70 = .ok (.dup, 1) := by decide +kernel
theorem dE_init_71 : decode cE_init 71 = .ok (.invokespecial 42, 3) := by decide +kernel
theorem dE_init_74 : decode cE_init 74 = .ok (.aastore, 1) := by decide +kernel
theorem dE_init_75 : decode cE_init 75 = .ok (.iinc 2 1, 3) := by decide +kernel
theorem dE_init_78 : decode cE_init 78 = .ok (.goto (-24), 3) := by decide +kernel
theorem dE_init_81 : decode cE_init 81 = .ok (.aload_n 0, 1) := by decide +kernel
theorem dE_init_82 : decode cE_init 82 = .ok (.new 36, 3) := by decide +kernel
theorem dE_init_85 : decode cE_init 85 = .ok (.dup, 1) := by decide +kernel
theorem dE_init_86 : decode cE_init 86 = .ok (.invokespecial 42, 3) := by decide +kernel
theorem dE_init_89 : decode cE_init 89 = .ok (.putfield 43, 3) := by decide +kernel
theorem dE_init_92 : decode cE_init 92 = .ok (.aload_n 0, 1) := by decide +kernel
theorem dE_init_93 : decode cE_init 93 = .ok (.aload_n 0, 1) := by decide +kernel
theorem dE_init_94 : decode cE_init 94 = .ok (.getfield 18, 3) := by decide +kernel
theorem dE_init_97 : decode cE_init 97 = .ok (.newarray .int, 2) := by decide +kernel
theorem dE_init_99 : decode cE_init 99 = .ok (.putfield 47, 3) := by decide +kernel
theorem dE_init_102 : decode cE_init 102 = .ok (.aload_n 0, 1) := by decide +kernel
theorem dE_init_103 : decode cE_init 103 = .ok (.getfield 47, 3) := by decide +kernel
theorem dE_init_106 : decode cE_init 106 = .ok (.iconst (-1), 1) := by decide +kernel
theorem dE_init_107 : decode cE_init 107 = .ok (.invokestatic 51, 3) := by decide +kernel
theorem dE_init_110 : decode cE_init 110 = .ok (.aload_n 0, 1) := by decide +kernel
theorem dE_init_111 : decode cE_init 111 = .ok (.bipush 24, 2) := by decide +kernel
theorem dE_init_113 : decode cE_init 113 = .ok (.newarray .int, 2) := by decide +kernel
theorem dE_init_115 : decode cE_init 115 = .ok (.putfield 57, 3) := by decide +kernel
theorem dE_init_118 : decode cE_init 118 = .ok (.aload_n 0, 1) := by decide +kernel
theorem dE_init_119 : decode cE_init 119 = .ok (.bipush 24, 2) := by decide +kernel
theorem dE_init_121 : decode cE_init 121 = .ok (.newarray .int, 2) := by decide +kernel
theorem dE_init_123 : decode cE_init 123 = .ok (.putfield 60, 3) := by decide +kernel
theorem dE_init_126 : decode cE_init 126 = .ok (.aload_n 0, 1) := by decide +kernel
theorem dE_init_127 : decode cE_init 127 = .ok (.bipush 24, 2) := by decide +kernel
theorem dE_init_129 : decode cE_init 129 = .ok (.newarray .int, 2) := by decide +kernel
theorem dE_init_131 : decode cE_init 131 = .ok (.putfield 63, 3) := by decide +kernel
theorem dE_init_134 : decode cE_init 134 = .ok (.aload_n 0, 1) := by decide +kernel
theorem dE_init_135 : decode cE_init 135 = .ok (.bipush 24, 2) := by decide +kernel
theorem dE_init_137 : decode cE_init 137 = .ok (.newarray .boolean, 2) := by decide +kernel
theorem dE_init_139 : decode cE_init 139 = .ok (.putfield 66, 3) := by decide +kernel
theorem dE_init_142 : decode cE_init 142 = .ok (.aload_n 0, 1) := by decide +kernel
theorem dE_init_143 : decode cE_init 143 = .ok (.iconst (-1), 1) := by decide +kernel
theorem dE_init_144 : decode cE_init 144 = .ok (.putfield 70, 3) := by decide +kernel
theorem dE_init_147 : decode cE_init 147 = .ok (.return_, 1) := by decide +kernel
theorem dE_add_0 : decode cE_add 0 = .ok (.aload_n 0, 1) := by decide +kernel
theorem dE_add_1 : decode cE_add 1 = .ok (.getfield 73, 3) := by decide +kernel
theorem dE_add_4 : decode cE_add 4 = .ok (.ifCond .ne 16, 3) := by decide +kernel
theorem dE_add_7 : decode cE_add 7 = .ok (.aload_n 0, 1) := by decide +kernel
theorem dE_add_8 : decode cE_add 8 = .ok (.getfield 25, 3) := by decide +kernel
theorem dE_add_11 : decode cE_add 11 = .ok (.iload_n 1, 1) := by decide +kernel
theorem dE_add_12 : decode cE_add 12 = .ok (.iload_n 2, 1) := by decide +kernel
theorem dE_add_13 : decode cE_add 13 = .ok (.iload_n 3, 1) := by decide +kernel
theorem dE_add_14 : decode cE_add 14 = .ok (.invokevirtual 77, 3) := by decide +kernel
theorem dE_add_17 : decode cE_add 17 = .ok (.ifCond .ne 5, 3) := by decide +kernel
theorem dE_add_20 : decode cE_add 20 = .ok (.iconst (-1), 1) := by decide +kernel
theorem dE_add_21 : decode cE_add 21 = .ok (.ireturn, 1) := by decide +kernel
theorem dE_add_22 : decode cE_add 22 = .ok (.aload_n 0, 1) := by decide +kernel
theorem dE_add_23 : decode cE_add 23 = .ok (.getfield 25, 3) := by decide +kernel
theorem dE_add_26 : decode cE_add 26 = .ok (.iload_n 1, 1) := by decide +kernel
theorem dE_add_27 : decode cE_add 27 = .ok (.iload_n 2, 1) := by decide +kernel
theorem dE_add_28 : decode cE_add 28 = .ok (.iload_n 3, 1) := by decide +kernel
theorem dE_add_29 : decode cE_add 29 = .ok (.invokevirtual 81, 3) := by decide +kernel
theorem dE_add_32 : decode cE_add 32 = .ok (.ireturn, 1) := by decide +kernel
theorem dE_edge_0 : decode cE_edge 0 = .ok (.aload_n 0, 1) := by decide +kernel
theorem dE_edge_1 : decode cE_edge 1 = .ok (.getfield 73, 3) := by decide +kernel
theorem dE_edge_4 : decode cE_edge 4 = .ok (.ifCond .ne 15, 3) := by decide +kernel
theorem dE_edge_7 : decode cE_edge 7 = .ok (.aload_n 0, 1) := by decide +kernel
theorem dE_edge_8 : decode cE_edge 8 = .ok (.getfield 25, 3) := by decide +kernel
theorem dE_edge_11 : decode cE_edge 11 = .ok (.iload_n 1, 1) := by decide +kernel
theorem dE_edge_12 : decode cE_edge 12 = .ok (.iload_n 2, 1) := by decide +kernel
theorem dE_edge_13 : decode cE_edge 13 = .ok (.invokevirtual 85, 3) := by decide +kernel
theorem dE_edge_16 : decode cE_edge 16 = .ok (.ifCond .ne 5, 3) := by decide +kernel
theorem dE_edge_19 : decode cE_edge 19 = .ok (.iconst 0, 1) := by decide +kernel
theorem dE_edge_20 : decode cE_edge 20 = .ok (.ireturn, 1) := by decide +kernel
theorem dE_edge_21 : decode cE_edge 21 = .ok (.aload_n 0, 1) := by decide +kernel
theorem dE_edge_22 : decode cE_edge 22 = .ok (.getfield 25, 3) := by decide +kernel
theorem dE_edge_25 : decode cE_edge 25 = .ok (.iload_n 1, 1) := by decide +kernel
theorem dE_edge_26 : decode cE_edge 26 = .ok (.iload_n 2, 1) := by decide +kernel
theorem dE_edge_27 : decode cE_edge 27 = .ok (.invokevirtual 89, 3) := by decide +kernel
theorem dE_edge_30 : decode cE_edge 30 = .ok (.iconst 1, 1) := by decide +kernel
theorem dE_edge_31 : decode cE_edge 31 = .ok (.ireturn, 1) := by decide +kernel
theorem dE_capacity_0 : decode cE_capacity 0 = .ok (.aload_n 0, 1) := by decide +kernel
theorem dE_capacity_1 : decode cE_capacity 1 = .ok (.getfield 73, 3) := by decide +kernel
theorem dE_capacity_4 : decode cE_capacity 4 = .ok (.ifCond .ne 20, 3) := by decide +kernel
theorem dE_capacity_7 : decode cE_capacity 7 = .ok (.iload_n 1, 1) := by decide +kernel
theorem dE_capacity_8 : decode cE_capacity 8 = .ok (.invokestatic 93, 3) := by decide +kernel
theorem dE_capacity_11 : decode cE_capacity 11 = .ok (.ifCond .eq 13, 3) := by decide +kernel
theorem dE_capacity_14 : decode cE_capacity 14 = .ok (.iload_n 2, 1) := by decide +kernel
theorem dE_capacity_15 : decode cE_capacity 15 = .ok (.iconst 1, 1) := by decide +kernel
theorem dE_capacity_16 : decode cE_capacity 16 = .ok (.if_icmp .lt 8, 3) := by decide +kernel
theorem dE_capacity_19 : decode cE_capacity 19 = .ok (.iload_n 2, 1) := by decide +kernel
theorem dE_capacity_20 : decode cE_capacity 20 = .ok (.iconst 4, 1) := by decide +kernel
theorem dE_capacity_21 : decode cE_capacity 21 = .ok (.if_icmp .le 5, 3) := by decide +kernel
theorem dE_capacity_24 : decode cE_capacity 24 = .ok (.iconst 0, 1) := by decide +kernel
theorem dE_capacity_25 : decode cE_capacity 25 = .ok (.ireturn, 1) := by decide +kernel
theorem dE_capacity_26 : decode cE_capacity 26 = .ok (.aload_n 0, 1) := by decide +kernel
theorem dE_capacity_27 : decode cE_capacity 27 = .ok (.getfield 32, 3) := by decide +kernel
theorem dE_capacity_30 : decode cE_capacity 30 = .ok (.getfield 97, 3) := by decide +kernel
theorem dE_capacity_33 : decode cE_capacity 33 = .ok (.iload_n 1, 1) := by decide +kernel
theorem dE_capacity_34 : decode cE_capacity 34 = .ok (.iload_n 2, 1) := by decide +kernel
theorem dE_capacity_35 : decode cE_capacity 35 = .ok (.iastore, 1) := by decide +kernel
theorem dE_capacity_36 : decode cE_capacity 36 = .ok (.iconst 1, 1) := by decide +kernel
theorem dE_capacity_37 : decode cE_capacity 37 = .ok (.ireturn, 1) := by decide +kernel
theorem dE_check_0 : decode cE_check 0 = .ok (.aload_n 0, 1) := by decide +kernel
theorem dE_check_1 : decode cE_check 1 = .ok (.getfield 25, 3) := by decide +kernel
theorem dE_check_4 : decode cE_check 4 = .ok (.getfield 100, 3) := by decide +kernel
theorem dE_check_7 : decode cE_check 7 = .ok (.ifCond .ne 5, 3) := by decide +kernel
theorem dE_check_10 : decode cE_check 10 = .ok (.iconst 1, 1) := by decide +kernel
theorem dE_check_11 : decode cE_check 11 = .ok (.ireturn, 1) := by decide +kernel
theorem dE_check_12 : decode cE_check 12 = .ok (.aload_n 0, 1) := by decide +kernel
theorem dE_check_13 : decode cE_check 13 = .ok (.getfield 25, 3) := by decide +kernel
theorem dE_check_16 : decode cE_check 16 = .ok (.invokevirtual 103, 3) := by decide +kernel
theorem dE_check_19 : decode cE_check 19 = .ok (.ifCond .eq 5, 3) := by decide +kernel
theorem dE_check_22 : decode cE_check 22 = .ok (.iconst 2, 1) := by decide +kernel
theorem dE_check_23 : decode cE_check 23 = .ok (.ireturn, 1) := by decide +kernel
theorem dE_check_24 : decode cE_check 24 = .ok (.aload_n 0, 1) := by decide +kernel
theorem dE_check_25 : decode cE_check 25 = .ok (.getfield 25, 3) := by decide +kernel
theorem dE_check_28 : decode cE_check 28 = .ok (.invokevirtual 107, 3) := by decide +kernel
theorem dE_check_31 : decode cE_check 31 = .ok (.ifCond .eq 7, 3) := by decide +kernel
theorem dE_check_34 : decode cE_check 34 = .ok (.iconst 3, 1) := by decide +kernel
theorem dE_check_35 : decode cE_check 35 = .ok (.goto 4, 3) := by decide +kernel
theorem dE_check_38 : decode cE_check 38 = .ok (.iconst 0, 1) := by decide +kernel
theorem dE_check_39 : decode cE_check 39 = .ok (.ireturn, 1) := by decide +kernel
theorem dE_start_0 : decode cE_start 0 = .ok (.aload_n 0, 1) := by decide +kernel
theorem dE_start_1 : decode cE_start 1 = .ok (.getfield 73, 3) := by decide +kernel
theorem dE_start_4 : decode cE_start 4 = .ok (.ifCond .ne 21, 3) := by decide +kernel
theorem dE_start_7 : decode cE_start 7 = .ok (.iload_n 1, 1) := by decide +kernel
theorem dE_start_8 : decode cE_start 8 = .ok (.iconst 1, 1) := by decide +kernel
theorem dE_start_9 : decode cE_start 9 = .ok (.if_icmp .lt 16, 3) := by decide +kernel
theorem dE_start_12 : decode cE_start 12 = .ok (.iload_n 1, 1) := by decide +kernel
theorem dE_start_13 : decode cE_start 13 = .ok (.bipush 9, 2) := by decide +kernel
theorem dE_start_15 : decode cE_start 15 = .ok (.if_icmp .gt 10, 3) := by decide +kernel
theorem dE_start_18 : decode cE_start 18 = .ok (.aload_n 0, 1) := by decide +kernel
theorem dE_start_19 : decode cE_start 19 = .ok (.invokevirtual 110, 3) := by decide +kernel
theorem dE_start_22 : decode cE_start 22 = .ok (.ifCond .eq 5, 3) := by decide +kernel
theorem dE_start_25 : decode cE_start 25 = .ok (.iconst 0, 1) := by decide +kernel
theorem dE_start_26 : decode cE_start 26 = .ok (.ireturn, 1) := by decide +kernel
theorem dE_start_27 : decode cE_start 27 = .ok (.aload_n 0, 1) := by decide +kernel
theorem dE_start_28 : decode cE_start 28 = .ok (.iconst 1, 1) := by decide +kernel
theorem dE_start_29 : decode cE_start 29 = .ok (.putfield 73, 3) := by decide +kernel
theorem dE_start_32 : decode cE_start 32 = .ok (.aload_n 0, 1) := by decide +kernel
theorem dE_start_33 : decode cE_start 33 = .ok (.iconst 0, 1) := by decide +kernel
theorem dE_start_34 : decode cE_start 34 = .ok (.putfield 114, 3) := by decide +kernel
theorem dE_start_37 : decode cE_start 37 = .ok (.aload_n 0, 1) := by decide +kernel
theorem dE_start_38 : decode cE_start 38 = .ok (.iconst (-1), 1) := by decide +kernel
theorem dE_start_39 : decode cE_start 39 = .ok (.putfield 70, 3) := by decide +kernel
theorem dE_start_42 : decode cE_start 42 = .ok (.aload_n 0, 1) := by decide +kernel
theorem dE_start_43 : decode cE_start 43 = .ok (.iload_n 1, 1) := by decide +kernel
theorem dE_start_44 : decode cE_start 44 = .ok (.putfield 117, 3) := by decide +kernel
theorem dE_start_47 : decode cE_start 47 = .ok (.aload_n 0, 1) := by decide +kernel
theorem dE_start_48 : decode cE_start 48 = .ok (.iconst 0, 1) := by decide +kernel
theorem dE_start_49 : decode cE_start 49 = .ok (.putfield 120, 3) := by decide +kernel
theorem dE_start_52 : decode cE_start 52 = .ok (.aload_n 0, 1) := by decide +kernel
theorem dE_start_53 : decode cE_start 53 = .ok (.iconst 0, 1) := by decide +kernel
theorem dE_start_54 : decode cE_start 54 = .ok (.putfield 123, 3) := by decide +kernel
theorem dE_start_57 : decode cE_start 57 = .ok (.aload_n 0, 1) := by decide +kernel
theorem dE_start_58 : decode cE_start 58 = .ok (.iconst 0, 1) := by decide +kernel
theorem dE_start_59 : decode cE_start 59 = .ok (.putfield 126, 3) := by decide +kernel
theorem dE_start_62 : decode cE_start 62 = .ok (.aload_n 0, 1) := by decide +kernel
theorem dE_start_63 : decode cE_start 63 = .ok (.getfield 63, 3) := by decide +kernel
theorem dE_start_66 : decode cE_start 66 = .ok (.iconst 0, 1) := by decide +kernel
theorem dE_start_67 : decode cE_start 67 = .ok (.invokestatic 51, 3) := by decide +kernel
theorem dE_start_70 : decode cE_start 70 = .ok (.aload_n 0, 1) := by decide +kernel
theorem dE_start_71 : decode cE_start 71 = .ok (.invokevirtual 129, 3) := by decide +kernel
theorem dE_start_74 : decode cE_start 74 = .ok (.iconst 1, 1) := by decide +kernel
theorem dE_start_75 : decode cE_start 75 = .ok (.ireturn, 1) := by decide +kernel
theorem dE_begin_0 : decode cE_begin 0 = .ok (.aload_n 0, 1) := by decide +kernel
theorem dE_begin_1 : decode cE_begin 1 = .ok (.getfield 73, 3) := by decide +kernel
theorem dE_begin_4 : decode cE_begin 4 = .ok (.ifCond .eq 21, 3) := by decide +kernel
theorem dE_begin_7 : decode cE_begin 7 = .ok (.aload_n 0, 1) := by decide +kernel
theorem dE_begin_8 : decode cE_begin 8 = .ok (.iload_n 1, 1) := by decide +kernel
theorem dE_begin_9 : decode cE_begin 9 = .ok (.invokevirtual 132, 3) := by decide +kernel
theorem dE_begin_12 : decode cE_begin 12 = .ok (.ifCond .eq 13, 3) := by decide +kernel
theorem dE_begin_15 : decode cE_begin 15 = .ok (.aload_n 0, 1) := by decide +kernel
theorem dE_begin_16 : decode cE_begin 16 = .ok (.getfield 47, 3) := by decide +kernel
theorem dE_begin_19 : decode cE_begin 19 = .ok (.iload_n 1, 1) := by decide +kernel
theorem dE_begin_20 : decode cE_begin 20 = .ok (.iaload, 1) := by decide +kernel
theorem dE_begin_21 : decode cE_begin 21 = .ok (.iconst (-1), 1) := by decide +kernel
theorem dE_begin_22 : decode cE_begin 22 = .ok (.if_icmp .eq 5, 3) := by decide +kernel
theorem dE_begin_25 : decode cE_begin 25 = .ok (.iconst (-1), 1) := by decide +kernel
theorem dE_begin_26 : decode cE_begin 26 = .ok (.ireturn, 1) := by decide +kernel
theorem dE_begin_27 : decode cE_begin 27 = .ok (.iconst 0, 1) := by decide +kernel
theorem dE_begin_28 : decode cE_begin 28 = .ok (.istore_n 2, 1) := by decide +kernel
theorem dE_begin_29 : decode cE_begin 29 = .ok (.iload_n 2, 1) := by decide +kernel
theorem dE_begin_30 : decode cE_begin 30 = .ok (.bipush 24, 2) := by decide +kernel
theorem dE_begin_32 : decode cE_begin 32 = .ok (.if_icmp .ge 54, 3) := by decide +kernel
theorem dE_begin_35 : decode cE_begin 35 = .ok (.aload_n 0, 1) := by decide +kernel
theorem dE_begin_36 : decode cE_begin 36 = .ok (.iload_n 1, 1) := by decide +kernel
theorem dE_begin_37 : decode cE_begin 37 = .ok (.invokevirtual 135, 3) := by decide +kernel
theorem dE_begin_40 : decode cE_begin 40 = .ok (.istore_n 3, 1) := by decide +kernel
theorem dE_begin_41 : decode cE_begin 41 = .ok (.iload_n 3, 1) := by decide +kernel
theorem dE_begin_42 : decode cE_begin 42 = .ok (.iconst (-1), 1) := by decide +kernel
theorem dE_begin_43 : decode cE_begin 43 = .ok (.if_icmp .ne 5, 3) := by decide +kernel
theorem dE_begin_46 : decode cE_begin 46 = .ok (.iconst (-1), 1) := by decide +kernel
theorem dE_begin_47 : decode cE_begin 47 = .ok (.ireturn, 1) := by decide +kernel
theorem dE_begin_48 : decode cE_begin 48 = .ok (.aload_n 0, 1) := by decide +kernel
theorem dE_begin_49 : decode cE_begin 49 = .ok (.getfield 32, 3) := by decide +kernel
theorem dE_begin_52 : decode cE_begin 52 = .ok (.aload_n 0, 1) := by decide +kernel
theorem dE_begin_53 : decode cE_begin 53 = .ok (.getfield 25, 3) := by decide +kernel
theorem dE_begin_56 : decode cE_begin 56 = .ok (.getfield 139, 3) := by decide +kernel
theorem dE_begin_59 : decode cE_begin 59 = .ok (.iload_n 3, 1) := by decide +kernel
theorem dE_begin_60 : decode cE_begin 60 = .ok (.iaload, 1) := by decide +kernel
theorem dE_begin_61 : decode cE_begin 61 = .ok (.invokevirtual 142, 3) := by decide +kernel
theorem dE_begin_64 : decode cE_begin 64 = .ok (.ifCond .eq 11, 3) := by decide +kernel
theorem dE_begin_67 : decode cE_begin 67 = .ok (.aload_n 0, 1) := by decide +kernel
theorem dE_begin_68 : decode cE_begin 68 = .ok (.iload_n 3, 1) := by decide +kernel
theorem dE_begin_69 : decode cE_begin 69 = .ok (.iload_n 1, 1) := by decide +kernel
theorem dE_begin_70 : decode cE_begin 70 = .ok (.invokevirtual 145, 3) := by decide +kernel
theorem dE_begin_73 : decode cE_begin 73 = .ok (.iload_n 3, 1) := by decide +kernel
theorem dE_begin_74 : decode cE_begin 74 = .ok (.ireturn, 1) := by decide +kernel
theorem dE_begin_75 : decode cE_begin 75 = .ok (.aload_n 0, 1) := by decide +kernel
theorem dE_begin_76 : decode cE_begin 76 = .ok (.iload_n 3, 1) := by decide +kernel
theorem dE_begin_77 : decode cE_begin 77 = .ok (.invokevirtual 148, 3) := by decide +kernel
theorem dE_begin_80 : decode cE_begin 80 = .ok (.iinc 2 1, 3) := by decide +kernel
theorem dE_begin_83 : decode cE_begin 83 = .ok (.goto (-54), 3) := by decide +kernel
theorem dE_begin_86 : decode cE_begin 86 = .ok (.iconst (-1), 1) := by decide +kernel
theorem dE_begin_87 : decode cE_begin 87 = .ok (.ireturn, 1) := by decide +kernel
theorem dE_finish_0 : decode cE_finish 0 = .ok (.aload_n 0, 1) := by decide +kernel
theorem dE_finish_1 : decode cE_finish 1 = .ok (.iload_n 1, 1) := by decide +kernel
theorem dE_finish_2 : decode cE_finish 2 = .ok (.invokevirtual 132, 3) := by decide +kernel
theorem dE_finish_5 : decode cE_finish 5 = .ok (.ifCond .eq 13, 3) := by decide +kernel
theorem dE_finish_8 : decode cE_finish 8 = .ok (.aload_n 0, 1) := by decide +kernel
theorem dE_finish_9 : decode cE_finish 9 = .ok (.getfield 47, 3) := by decide +kernel
theorem dE_finish_12 : decode cE_finish 12 = .ok (.iload_n 1, 1) := by decide +kernel
theorem dE_finish_13 : decode cE_finish 13 = .ok (.iaload, 1) := by decide +kernel
theorem dE_finish_14 : decode cE_finish 14 = .ok (.iconst (-1), 1) := by decide +kernel
theorem dE_finish_15 : decode cE_finish 15 = .ok (.if_icmp .ne 5, 3) := by decide +kernel
theorem dE_finish_18 : decode cE_finish 18 = .ok (.iconst (-1), 1) := by decide +kernel
theorem dE_finish_19 : decode cE_finish 19 = .ok (.ireturn, 1) := by decide +kernel
theorem dE_finish_20 : decode cE_finish 20 = .ok (.aload_n 0, 1) := by decide +kernel
theorem dE_finish_21 : decode cE_finish 21 = .ok (.iload_n 1, 1) := by decide +kernel
theorem dE_finish_22 : decode cE_finish 22 = .ok (.invokevirtual 152, 3) := by decide +kernel
theorem dE_finish_25 : decode cE_finish 25 = .ok (.istore_n 3, 1) := by decide +kernel
theorem dE_finish_26 : decode cE_finish 26 = .ok (.aload_n 0, 1) := by decide +kernel
theorem dE_finish_27 : decode cE_finish 27 = .ok (.getfield 114, 3) := by decide +kernel
theorem dE_finish_30 : decode cE_finish 30 = .ok (.ifCond .ne 20, 3) := by decide +kernel
theorem dE_finish_33 : decode cE_finish 33 = .ok (.aload_n 0, 1) := by decide +kernel
theorem dE_finish_34 : decode cE_finish 34 = .ok (.getfield 25, 3) := by decide +kernel
theorem dE_finish_37 : decode cE_finish 37 = .ok (.iload_n 3, 1) := by decide +kernel
theorem dE_finish_38 : decode cE_finish 38 = .ok (.invokevirtual 155, 3) := by decide +kernel
theorem dE_finish_41 : decode cE_finish 41 = .ok (.ifCond .eq 9, 3) := by decide +kernel
theorem dE_finish_44 : decode cE_finish 44 = .ok (.aload_n 0, 1) := by decide +kernel
theorem dE_finish_45 : decode cE_finish 45 = .ok (.iload_n 3, 1) := by decide +kernel
theorem dE_finish_46 : decode cE_finish 46 = .ok (.iload_n 1, 1) := by decide +kernel
theorem dE_finish_47 : decode cE_finish 47 = .ok (.invokevirtual 158, 3) := by decide +kernel
theorem dE_finish_50 : decode cE_finish 50 = .ok (.aload_n 0, 1) := by decide +kernel
theorem dE_finish_51 : decode cE_finish 51 = .ok (.getfield 25, 3) := by decide +kernel
theorem dE_finish_54 : decode cE_finish 54 = .ok (.getfield 161, 3) := by decide +kernel
theorem dE_finish_57 : decode cE_finish 57 = .ok (.iload_n 3, 1) := by decide +kernel
theorem dE_finish_58 : decode cE_finish 58 = .ok (.iaload, 1) := by decide +kernel
theorem dE_finish_59 : decode cE_finish 59 = .ok (.iconst 2, 1) := by decide +kernel
theorem dE_finish_60 : decode cE_finish 60 = .ok (.if_icmp .ne 20, 3) := by decide +kernel
theorem dE_finish_63 : decode cE_finish 63 = .ok (.aload_n 0, 1) := by decide +kernel
theorem dE_finish_64 : decode cE_finish 64 = .ok (.iload_n 3, 1) := by decide +kernel
theorem dE_finish_65 : decode cE_finish 65 = .ok (.invokevirtual 164, 3) := by decide +kernel
theorem dE_finish_68 : decode cE_finish 68 = .ok (.ifCond .eq 12, 3) := by decide +kernel
theorem dE_finish_71 : decode cE_finish 71 = .ok (.aload_n 0, 1) := by decide +kernel
theorem dE_finish_72 : decode cE_finish 72 = .ok (.getfield 57, 3) := by decide +kernel
theorem dE_finish_75 : decode cE_finish 75 = .ok (.iload_n 3, 1) := by decide +kernel
theorem dE_finish_76 : decode cE_finish 76 = .ok (.iconst 2, 1) := by decide +kernel
theorem dE_finish_77 : decode cE_finish 77 = .ok (.iastore, 1) := by decide +kernel
theorem dE_finish_78 : decode cE_finish 78 = .ok (.iconst 0, 1) := by decide +kernel
theorem dE_finish_79 : decode cE_finish 79 = .ok (.ireturn, 1) := by decide +kernel
theorem dE_finish_80 : decode cE_finish 80 = .ok (.aload_n 0, 1) := by decide +kernel
theorem dE_finish_81 : decode cE_finish 81 = .ok (.iload_n 3, 1) := by decide +kernel
theorem dE_finish_82 : decode cE_finish 82 = .ok (.iconst 0, 1) := by decide +kernel
theorem dE_finish_83 : decode cE_finish 83 = .ok (.iload_n 2, 1) := by decide +kernel
theorem dE_finish_84 : decode cE_finish 84 = .ok (.iload_n 1, 1) := by decide +kernel
theorem dE_finish_85 : decode cE_finish 85 = .ok (.invokevirtual 167, 3) := by decide +kernel
theorem dE_finish_88 : decode cE_finish 88 = .ok (.istore 4, 2) := by decide +kernel
theorem dE_finish_90 : decode cE_finish 90 = .ok (.aload_n 0, 1) := by decide +kernel
theorem dE_finish_91 : decode cE_finish 91 = .ok (.invokevirtual 171, 3) := by decide +kernel
theorem dE_finish_94 : decode cE_finish 94 = .ok (.iload 4, 2) := by decide +kernel
theorem dE_finish_96 : decode cE_finish 96 = .ok (.ireturn, 1) := by decide +kernel
theorem dE_fail_0 : decode cE_fail 0 = .ok (.aload_n 0, 1) := by decide +kernel
theorem dE_fail_1 : decode cE_fail 1 = .ok (.iload_n 1, 1) := by decide +kernel
theorem dE_fail_2 : decode cE_fail 2 = .ok (.invokevirtual 132, 3) := by decide +kernel
theorem dE_fail_5 : decode cE_fail 5 = .ok (.ifCond .eq 13, 3) := by decide +kernel
theorem dE_fail_8 : decode cE_fail 8 = .ok (.aload_n 0, 1) := by decide +kernel
theorem dE_fail_9 : decode cE_fail 9 = .ok (.getfield 47, 3) := by decide +kernel
theorem dE_fail_12 : decode cE_fail 12 = .ok (.iload_n 1, 1) := by decide +kernel
theorem dE_fail_13 : decode cE_fail 13 = .ok (.iaload, 1) := by decide +kernel
theorem dE_fail_14 : decode cE_fail 14 = .ok (.iconst (-1), 1) := by decide +kernel
theorem dE_fail_15 : decode cE_fail 15 = .ok (.if_icmp .ne 5, 3) := by decide +kernel
theorem dE_fail_18 : decode cE_fail 18 = .ok (.iconst (-1), 1) := by decide +kernel
theorem dE_fail_19 : decode cE_fail 19 = .ok (.ireturn, 1) := by decide +kernel
theorem dE_fail_20 : decode cE_fail 20 = .ok (.aload_n 0, 1) := by decide +kernel
theorem dE_fail_21 : decode cE_fail 21 = .ok (.iload_n 1, 1) := by decide +kernel
theorem dE_fail_22 : decode cE_fail 22 = .ok (.invokevirtual 152, 3) := by decide +kernel
theorem dE_fail_25 : decode cE_fail 25 = .ok (.istore_n 2, 1) := by decide +kernel
theorem dE_fail_26 : decode cE_fail 26 = .ok (.aload_n 0, 1) := by decide +kernel
theorem dE_fail_27 : decode cE_fail 27 = .ok (.getfield 70, 3) := by decide +kernel
theorem dE_fail_30 : decode cE_fail 30 = .ok (.iconst (-1), 1) := by decide +kernel
theorem dE_fail_31 : decode cE_fail 31 = .ok (.if_icmp .ne 8, 3) := by decide +kernel
theorem dE_fail_34 : decode cE_fail 34 = .ok (.aload_n 0, 1) := by decide +kernel
theorem dE_fail_35 : decode cE_fail 35 = .ok (.iload_n 2, 1) := by decide +kernel
theorem dE_fail_36 : decode cE_fail 36 = .ok (.putfield 70, 3) := by decide +kernel
theorem dE_fail_39 : decode cE_fail 39 = .ok (.aload_n 0, 1) := by decide +kernel
theorem dE_fail_40 : decode cE_fail 40 = .ok (.iload_n 2, 1) := by decide +kernel
theorem dE_fail_41 : decode cE_fail 41 = .ok (.iconst 1, 1) := by decide +kernel
theorem dE_fail_42 : decode cE_fail 42 = .ok (.iconst (-1), 1) := by decide +kernel
theorem dE_fail_43 : decode cE_fail 43 = .ok (.iload_n 1, 1) := by decide +kernel
theorem dE_fail_44 : decode cE_fail 44 = .ok (.invokevirtual 167, 3) := by decide +kernel
theorem dE_fail_47 : decode cE_fail 47 = .ok (.istore_n 3, 1) := by decide +kernel
theorem dE_fail_48 : decode cE_fail 48 = .ok (.aload_n 0, 1) := by decide +kernel
theorem dE_fail_49 : decode cE_fail 49 = .ok (.invokevirtual 171, 3) := by decide +kernel
theorem dE_fail_52 : decode cE_fail 52 = .ok (.iload_n 3, 1) := by decide +kernel
theorem dE_fail_53 : decode cE_fail 53 = .ok (.ireturn, 1) := by decide +kernel
theorem dE_cancel_0 : decode cE_cancel 0 = .ok (.aload_n 0, 1) := by decide +kernel
theorem dE_cancel_1 : decode cE_cancel 1 = .ok (.getfield 73, 3) := by decide +kernel
theorem dE_cancel_4 : decode cE_cancel 4 = .ok (.ifCond .eq 10, 3) := by decide +kernel
theorem dE_cancel_7 : decode cE_cancel 7 = .ok (.aload_n 0, 1) := by decide +kernel
theorem dE_cancel_8 : decode cE_cancel 8 = .ok (.getfield 114, 3) := by decide +kernel
theorem dE_cancel_11 : decode cE_cancel 11 = .ok (.ifCond .eq 5, 3) := by decide +kernel
theorem dE_cancel_14 : decode cE_cancel 14 = .ok (.iconst (-1), 1) := by decide +kernel
theorem dE_cancel_15 : decode cE_cancel 15 = .ok (.ireturn, 1) := by decide +kernel
theorem dE_cancel_16 : decode cE_cancel 16 = .ok (.aload_n 0, 1) := by decide +kernel
theorem dE_cancel_17 : decode cE_cancel 17 = .ok (.iconst 1, 1) := by decide +kernel
theorem dE_cancel_18 : decode cE_cancel 18 = .ok (.putfield 114, 3) := by decide +kernel
theorem dE_cancel_21 : decode cE_cancel 21 = .ok (.aload_n 0, 1) := by decide +kernel
theorem dE_cancel_22 : decode cE_cancel 22 = .ok (.invokevirtual 174, 3) := by decide +kernel
theorem dE_cancel_25 : decode cE_cancel 25 = .ok (.istore_n 1, 1) := by decide +kernel
theorem dE_cancel_26 : decode cE_cancel 26 = .ok (.aload_n 0, 1) := by decide +kernel
theorem dE_cancel_27 : decode cE_cancel 27 = .ok (.invokevirtual 177, 3) := by decide +kernel
theorem dE_cancel_30 : decode cE_cancel 30 = .ok (.aload_n 0, 1) := by decide +kernel
theorem dE_cancel_31 : decode cE_cancel 31 = .ok (.invokevirtual 171, 3) := by decide +kernel
theorem dE_cancel_34 : decode cE_cancel 34 = .ok (.iload_n 1, 1) := by decide +kernel
theorem dE_cancel_35 : decode cE_cancel 35 = .ok (.ireturn, 1) := by decide +kernel
theorem dE_state_0 : decode cE_state 0 = .ok (.aload_n 0, 1) := by decide +kernel
theorem dE_state_1 : decode cE_state 1 = .ok (.getfield 120, 3) := by decide +kernel
theorem dE_state_4 : decode cE_state 4 = .ok (.ifCond .ne 5, 3) := by decide +kernel
theorem dE_state_7 : decode cE_state 7 = .ok (.iconst 0, 1) := by decide +kernel
theorem dE_state_8 : decode cE_state 8 = .ok (.ireturn, 1) := by decide +kernel
theorem dE_state_9 : decode cE_state 9 = .ok (.aload_n 0, 1) := by decide +kernel
theorem dE_state_10 : decode cE_state 10 = .ok (.getfield 73, 3) := by decide +kernel
theorem dE_state_13 : decode cE_state 13 = .ok (.ifCond .eq 16, 3) := by decide +kernel
theorem dE_state_16 : decode cE_state 16 = .ok (.aload_n 0, 1) := by decide +kernel
theorem dE_state_17 : decode cE_state 17 = .ok (.getfield 114, 3) := by decide +kernel
theorem dE_state_20 : decode cE_state 20 = .ok (.ifCond .eq 7, 3) := by decide +kernel
theorem dE_state_23 : decode cE_state 23 = .ok (.iconst 2, 1) := by decide +kernel
theorem dE_state_24 : decode cE_state 24 = .ok (.goto 4, 3) := by decide +kernel
theorem dE_state_27 : decode cE_state 27 = .ok (.iconst 1, 1) := by decide +kernel
theorem dE_state_28 : decode cE_state 28 = .ok (.ireturn, 1) := by decide +kernel
theorem dE_state_29 : decode cE_state 29 = .ok (.aload_n 0, 1) := by decide +kernel
theorem dE_state_30 : decode cE_state 30 = .ok (.getfield 114, 3) := by decide +kernel
theorem dE_state_33 : decode cE_state 33 = .ok (.ifCond .eq 5, 3) := by decide +kernel
theorem dE_state_36 : decode cE_state 36 = .ok (.iconst 5, 1) := by decide +kernel
theorem dE_state_37 : decode cE_state 37 = .ok (.ireturn, 1) := by decide +kernel
theorem dE_state_38 : decode cE_state 38 = .ok (.aload_n 0, 1) := by decide +kernel
theorem dE_state_39 : decode cE_state 39 = .ok (.getfield 70, 3) := by decide +kernel
theorem dE_state_42 : decode cE_state 42 = .ok (.iconst (-1), 1) := by decide +kernel
theorem dE_state_43 : decode cE_state 43 = .ok (.if_icmp .eq 7, 3) := by decide +kernel
theorem dE_state_46 : decode cE_state 46 = .ok (.iconst 4, 1) := by decide +kernel
theorem dE_state_47 : decode cE_state 47 = .ok (.goto 4, 3) := by decide +kernel
theorem dE_state_50 : decode cE_state 50 = .ok (.iconst 3, 1) := by decide +kernel
theorem dE_state_51 : decode cE_state 51 = .ok (.ireturn, 1) := by decide +kernel
theorem dE_thrower_0 : decode cE_thrower 0 = .ok (.aload_n 0, 1) := by decide +kernel
theorem dE_thrower_1 : decode cE_thrower 1 = .ok (.getfield 70, 3) := by decide +kernel
theorem dE_thrower_4 : decode cE_thrower 4 = .ok (.ireturn, 1) := by decide +kernel
theorem dE_round_0 : decode cE_round 0 = .ok (.aload_n 0, 1) := by decide +kernel
theorem dE_round_1 : decode cE_round 1 = .ok (.getfield 120, 3) := by decide +kernel
theorem dE_round_4 : decode cE_round 4 = .ok (.ireturn, 1) := by decide +kernel
theorem dE_lost_0 : decode cE_lost 0 = .ok (.aload_n 0, 1) := by decide +kernel
theorem dE_lost_1 : decode cE_lost 1 = .ok (.getfield 123, 3) := by decide +kernel
theorem dE_lost_4 : decode cE_lost 4 = .ok (.ireturn, 1) := by decide +kernel
theorem dE_steals_0 : decode cE_steals 0 = .ok (.aload_n 0, 1) := by decide +kernel
theorem dE_steals_1 : decode cE_steals 1 = .ok (.getfield 126, 3) := by decide +kernel
theorem dE_steals_4 : decode cE_steals 4 = .ok (.ireturn, 1) := by decide +kernel
theorem dE_runs_0 : decode cE_runs 0 = .ok (.aload_n 0, 1) := by decide +kernel
theorem dE_runs_1 : decode cE_runs 1 = .ok (.getfield 25, 3) := by decide +kernel
theorem dE_runs_4 : decode cE_runs 4 = .ok (.iload_n 1, 1) := by decide +kernel
theorem dE_runs_5 : decode cE_runs 5 = .ok (.invokevirtual 180, 3) := by decide +kernel
theorem dE_runs_8 : decode cE_runs 8 = .ok (.ifCond .eq 12, 3) := by decide +kernel
theorem dE_runs_11 : decode cE_runs 11 = .ok (.aload_n 0, 1) := by decide +kernel
theorem dE_runs_12 : decode cE_runs 12 = .ok (.getfield 63, 3) := by decide +kernel
theorem dE_runs_15 : decode cE_runs 15 = .ok (.iload_n 1, 1) := by decide +kernel
theorem dE_runs_16 : decode cE_runs 16 = .ok (.iaload, 1) := by decide +kernel
theorem dE_runs_17 : decode cE_runs 17 = .ok (.goto 4, 3) := by decide +kernel
theorem dE_runs_20 : decode cE_runs 20 = .ok (.iconst 0, 1) := by decide +kernel
theorem dE_runs_21 : decode cE_runs 21 = .ok (.ireturn, 1) := by decide +kernel
theorem dE_arrivals_0 : decode cE_arrivals 0 = .ok (.aload_n 0, 1) := by decide +kernel
theorem dE_arrivals_1 : decode cE_arrivals 1 = .ok (.getfield 73, 3) := by decide +kernel
theorem dE_arrivals_4 : decode cE_arrivals 4 = .ok (.ifCond .eq 23, 3) := by decide +kernel
theorem dE_arrivals_7 : decode cE_arrivals 7 = .ok (.aload_n 0, 1) := by decide +kernel
theorem dE_arrivals_8 : decode cE_arrivals 8 = .ok (.getfield 25, 3) := by decide +kernel
theorem dE_arrivals_11 : decode cE_arrivals 11 = .ok (.iload_n 1, 1) := by decide +kernel
theorem dE_arrivals_12 : decode cE_arrivals 12 = .ok (.invokevirtual 180, 3) := by decide +kernel
theorem dE_arrivals_15 : decode cE_arrivals 15 = .ok (.ifCond .eq 12, 3) := by decide +kernel
theorem dE_arrivals_18 : decode cE_arrivals 18 = .ok (.aload_n 0, 1) := by decide +kernel
theorem dE_arrivals_19 : decode cE_arrivals 19 = .ok (.getfield 60, 3) := by decide +kernel
theorem dE_arrivals_22 : decode cE_arrivals 22 = .ok (.iload_n 1, 1) := by decide +kernel
theorem dE_arrivals_23 : decode cE_arrivals 23 = .ok (.iaload, 1) := by decide +kernel
theorem dE_arrivals_24 : decode cE_arrivals 24 = .ok (.goto 4, 3) := by decide +kernel
theorem dE_arrivals_27 : decode cE_arrivals 27 = .ok (.iconst 0, 1) := by decide +kernel
theorem dE_arrivals_28 : decode cE_arrivals 28 = .ok (.ireturn, 1) := by decide +kernel
theorem dE_where_0 : decode cE_where 0 = .ok (.aload_n 0, 1) := by decide +kernel
theorem dE_where_1 : decode cE_where 1 = .ok (.getfield 25, 3) := by decide +kernel
theorem dE_where_4 : decode cE_where 4 = .ok (.iload_n 1, 1) := by decide +kernel
theorem dE_where_5 : decode cE_where 5 = .ok (.invokevirtual 180, 3) := by decide +kernel
theorem dE_where_8 : decode cE_where 8 = .ok (.ifCond .eq 12, 3) := by decide +kernel
theorem dE_where_11 : decode cE_where 11 = .ok (.aload_n 0, 1) := by decide +kernel
theorem dE_where_12 : decode cE_where 12 = .ok (.getfield 57, 3) := by decide +kernel
theorem dE_where_15 : decode cE_where 15 = .ok (.iload_n 1, 1) := by decide +kernel
theorem dE_where_16 : decode cE_where 16 = .ok (.iaload, 1) := by decide +kernel
theorem dE_where_17 : decode cE_where 17 = .ok (.goto 4, 3) := by decide +kernel
theorem dE_where_20 : decode cE_where 20 = .ok (.iconst (-1), 1) := by decide +kernel
theorem dE_where_21 : decode cE_where 21 = .ok (.ireturn, 1) := by decide +kernel
theorem dE_lineAt_0 : decode cE_lineAt 0 = .ok (.iload_n 1, 1) := by decide +kernel
theorem dE_lineAt_1 : decode cE_lineAt 1 = .ok (.ifCond .lt 11, 3) := by decide +kernel
theorem dE_lineAt_4 : decode cE_lineAt 4 = .ok (.iload_n 1, 1) := by decide +kernel
theorem dE_lineAt_5 : decode cE_lineAt 5 = .ok (.aload_n 0, 1) := by decide +kernel
theorem dE_lineAt_6 : decode cE_lineAt 6 = .ok (.getfield 18, 3) := by decide +kernel
theorem dE_lineAt_9 : decode cE_lineAt 9 = .ok (.if_icmp .le 7, 3) := by decide +kernel
theorem dE_lineAt_12 : decode cE_lineAt 12 = .ok (.iconst (-1), 1) := by decide +kernel
theorem dE_lineAt_13 : decode cE_lineAt 13 = .ok (.goto 13, 3) := by decide +kernel
theorem dE_lineAt_16 : decode cE_lineAt 16 = .ok (.aload_n 0, 1) := by decide +kernel
theorem dE_lineAt_17 : decode cE_lineAt 17 = .ok (.getfield 38, 3) := by decide +kernel
theorem dE_lineAt_20 : decode cE_lineAt 20 = .ok (.iload_n 1, 1) := by decide +kernel
theorem dE_lineAt_21 : decode cE_lineAt 21 = .ok (.aaload, 1) := by decide +kernel
theorem dE_lineAt_22 : decode cE_lineAt 22 = .ok (.iload_n 2, 1) := by decide +kernel
theorem dE_lineAt_23 : decode cE_lineAt 23 = .ok (.invokevirtual 183, 3) := by decide +kernel
theorem dE_lineAt_26 : decode cE_lineAt 26 = .ok (.ireturn, 1) := by decide +kernel
theorem dE_held_0 : decode cE_held 0 = .ok (.iload_n 1, 1) := by decide +kernel
theorem dE_held_1 : decode cE_held 1 = .ok (.invokestatic 93, 3) := by decide +kernel
theorem dE_held_4 : decode cE_held 4 = .ok (.ifCond .eq 15, 3) := by decide +kernel
theorem dE_held_7 : decode cE_held 7 = .ok (.aload_n 0, 1) := by decide +kernel
theorem dE_held_8 : decode cE_held 8 = .ok (.getfield 32, 3) := by decide +kernel
theorem dE_held_11 : decode cE_held 11 = .ok (.getfield 186, 3) := by decide +kernel
theorem dE_held_14 : decode cE_held 14 = .ok (.iload_n 1, 1) := by decide +kernel
theorem dE_held_15 : decode cE_held 15 = .ok (.iaload, 1) := by decide +kernel
theorem dE_held_16 : decode cE_held 16 = .ok (.goto 4, 3) := by decide +kernel
theorem dE_held_19 : decode cE_held 19 = .ok (.iconst 0, 1) := by decide +kernel
theorem dE_held_20 : decode cE_held 20 = .ok (.ireturn, 1) := by decide +kernel
theorem dE_isWorker_0 : decode cE_isWorker 0 = .ok (.iload_n 1, 1) := by decide +kernel
theorem dE_isWorker_1 : decode cE_isWorker 1 = .ok (.ifCond .lt 15, 3) := by decide +kernel
theorem dE_isWorker_4 : decode cE_isWorker 4 = .ok (.iload_n 1, 1) := by decide +kernel
theorem dE_isWorker_5 : decode cE_isWorker 5 = .ok (.aload_n 0, 1) := by decide +kernel
theorem dE_isWorker_6 : decode cE_isWorker 6 = .ok (.getfield 18, 3) := by decide +kernel
theorem dE_isWorker_9 : decode cE_isWorker 9 = .ok (.if_icmp .ge 7, 3) := by decide +kernel
theorem dE_isWorker_12 : decode cE_isWorker 12 = .ok (.iconst 1, 1) := by decide +kernel
theorem dE_isWorker_13 : decode cE_isWorker 13 = .ok (.goto 4, 3) := by decide +kernel
theorem dE_isWorker_16 : decode cE_isWorker 16 = .ok (.iconst 0, 1) := by decide +kernel
theorem dE_isWorker_17 : decode cE_isWorker 17 = .ok (.ireturn, 1) := by decide +kernel
theorem dE_isSemaphore_0 : decode cE_isSemaphore 0 = .ok (.iload_n 0, 1) := by decide +kernel
theorem dE_isSemaphore_1 : decode cE_isSemaphore 1 = .ok (.ifCond .lt 12, 3) := by decide +kernel
theorem dE_isSemaphore_4 : decode cE_isSemaphore 4 = .ok (.iload_n 0, 1) := by decide +kernel
theorem dE_isSemaphore_5 : decode cE_isSemaphore 5 = .ok (.iconst 4, 1) := by decide +kernel
theorem dE_isSemaphore_6 : decode cE_isSemaphore 6 = .ok (.if_icmp .ge 7, 3) := by decide +kernel
theorem dE_isSemaphore_9 : decode cE_isSemaphore 9 = .ok (.iconst 1, 1) := by decide +kernel
theorem dE_isSemaphore_10 : decode cE_isSemaphore 10 = .ok (.goto 4, 3) := by decide +kernel
theorem dE_isSemaphore_13 : decode cE_isSemaphore 13 = .ok (.iconst 0, 1) := by decide +kernel
theorem dE_isSemaphore_14 : decode cE_isSemaphore 14 = .ok (.ireturn, 1) := by decide +kernel
theorem dE_beginRound_0 : decode cE_beginRound 0 = .ok (.aload_n 0, 1) := by decide +kernel
theorem dE_beginRound_1 : decode cE_beginRound 1 = .ok (.dup, 1) := by decide +kernel
theorem dE_beginRound_2 : decode cE_beginRound 2 = .ok (.getfield 120, 3) := by decide +kernel
theorem dE_beginRound_5 : decode cE_beginRound 5 = .ok (.iconst 1, 1) := by decide +kernel
theorem dE_beginRound_6 : decode cE_beginRound 6 = .ok (.iadd, 1) := by decide +kernel
theorem dE_beginRound_7 : decode cE_beginRound 7 = .ok (.putfield 120, 3) := by decide +kernel
theorem dE_beginRound_10 : decode cE_beginRound 10 = .ok (.aload_n 0, 1) := by decide +kernel
theorem dE_beginRound_11 : decode cE_beginRound 11 = .ok (.getfield 60, 3) := by decide +kernel
theorem dE_beginRound_14 : decode cE_beginRound 14 = .ok (.iconst 0, 1) := by decide +kernel
theorem dE_beginRound_15 : decode cE_beginRound 15 = .ok (.invokestatic 51, 3) := by decide +kernel
theorem dE_beginRound_18 : decode cE_beginRound 18 = .ok (.aload_n 0, 1) := by decide +kernel
theorem dE_beginRound_19 : decode cE_beginRound 19 = .ok (.iconst (-1), 1) := by decide +kernel
theorem dE_beginRound_20 : decode cE_beginRound 20 = .ok (.aload_n 0, 1) := by decide +kernel
theorem dE_beginRound_21 : decode cE_beginRound 21 = .ok (.getfield 18, 3) := by decide +kernel
theorem dE_beginRound_24 : decode cE_beginRound 24 = .ok (.invokevirtual 189, 3) := by decide +kernel
theorem dE_beginRound_27 : decode cE_beginRound 27 = .ok (.return_, 1) := by decide +kernel
theorem dE_closeRound_0 : decode cE_closeRound 0 = .ok (.aload_n 0, 1) := by decide +kernel
theorem dE_closeRound_1 : decode cE_closeRound 1 = .ok (.invokevirtual 192, 3) := by decide +kernel
theorem dE_closeRound_4 : decode cE_closeRound 4 = .ok (.ifCond .eq 4, 3) := by decide +kernel
theorem dE_closeRound_7 : decode cE_closeRound 7 = .ok (.return_, 1) := by decide +kernel
theorem dE_closeRound_8 : decode cE_closeRound 8 = .ok (.aload_n 0, 1) := by decide +kernel
theorem dE_closeRound_9 : decode cE_closeRound 9 = .ok (.getfield 114, 3) := by decide +kernel
theorem dE_closeRound_12 : decode cE_closeRound 12 = .ok (.ifCond .ne 22, 3) := by decide +kernel
theorem dE_closeRound_15 : decode cE_closeRound 15 = .ok (.aload_n 0, 1) := by decide +kernel
theorem dE_closeRound_16 : decode cE_closeRound 16 = .ok (.getfield 70, 3) := by decide +kernel
theorem dE_closeRound_19 : decode cE_closeRound 19 = .ok (.iconst (-1), 1) := by decide +kernel
theorem dE_closeRound_20 : decode cE_closeRound 20 = .ok (.if_icmp .ne 14, 3) := by decide +kernel
theorem dE_closeRound_23 : decode cE_closeRound 23 = .ok (.aload_n 0, 1) := by decide +kernel
theorem dE_closeRound_24 : decode cE_closeRound 24 = .ok (.getfield 120, 3) := by decide +kernel
theorem dE_closeRound_27 : decode cE_closeRound 27 = .ok (.aload_n 0, 1) := by decide +kernel
theorem dE_closeRound_28 : decode cE_closeRound 28 = .ok (.getfield 117, 3) := by decide +kernel
theorem dE_closeRound_31 : decode cE_closeRound 31 = .ok (.if_icmp .lt 11, 3) := by decide +kernel
theorem dE_closeRound_34 : decode cE_closeRound 34 = .ok (.aload_n 0, 1) := by decide +kernel
theorem dE_closeRound_35 : decode cE_closeRound 35 = .ok (.iconst 0, 1) := by decide +kernel
theorem dE_closeRound_36 : decode cE_closeRound 36 = .ok (.putfield 73, 3) := by decide +kernel
theorem dE_closeRound_39 : decode cE_closeRound 39 = .ok (.goto 7, 3) := by decide +kernel
theorem dE_closeRound_42 : decode cE_closeRound 42 = .ok (.aload_n 0, 1) := by decide +kernel
theorem dE_closeRound_43 : decode cE_closeRound 43 = .ok (.invokevirtual 129, 3) := by decide +kernel
theorem dE_closeRound_46 : decode cE_closeRound 46 = .ok (.return_, 1) := by decide +kernel
theorem dE_hasActiveTask_0 : decode cE_hasActiveTask 0 = .ok (.iconst 0, 1) := by decide +kernel
theorem dE_hasActiveTask_1 : decode cE_hasActiveTask 1 = .ok (.istore_n 1, 1) := by decide +kernel
theorem dE_hasActiveTask_2 : decode cE_hasActiveTask 2 = .ok (.iload_n 1, 1) := by decide +kernel
theorem dE_hasActiveTask_3 : decode cE_hasActiveTask 3 = .ok (.aload_n 0, 1) := by decide +kernel
theorem dE_hasActiveTask_4 : decode cE_hasActiveTask 4 = .ok (.getfield 25, 3) := by decide +kernel
theorem dE_hasActiveTask_7 : decode cE_hasActiveTask 7 = .ok (.getfield 100, 3) := by decide +kernel
theorem dE_hasActiveTask_10 : decode cE_hasActiveTask 10 = .ok (.if_icmp .ge 20, 3) := by decide +kernel
theorem dE_hasActiveTask_13 : decode cE_hasActiveTask 13 = .ok (.aload_n 0, 1) := by decide +kernel
theorem dE_hasActiveTask_14 : decode cE_hasActiveTask 14 = .ok (.getfield 57, 3) := by decide +kernel
theorem dE_hasActiveTask_17 : decode cE_hasActiveTask 17 = .ok (.iload_n 1, 1) := by decide +kernel
theorem dE_hasActiveTask_18 : decode cE_hasActiveTask 18 = .ok (.iaload, 1) := by decide +kernel
theorem dE_hasActiveTask_19 : decode cE_hasActiveTask 19 = .ok (.ifCond .eq 5, 3) := by decide +kernel
theorem dE_hasActiveTask_22 : decode cE_hasActiveTask 22 = .ok (.iconst 1, 1) := by decide +kernel
theorem dE_hasActiveTask_23 : decode cE_hasActiveTask 23 = .ok (.ireturn, 1) := by decide +kernel
theorem dE_hasActiveTask_24 : decode cE_hasActiveTask 24 = .ok (.iinc 1 1, 3) := by decide +kernel
theorem dE_hasActiveTask_27 : decode cE_hasActiveTask 27 = .ok (.goto (-25), 3) := by decide +kernel
theorem dE_hasActiveTask_30 : decode cE_hasActiveTask 30 = .ok (.iconst 0, 1) := by decide +kernel
theorem dE_hasActiveTask_31 : decode cE_hasActiveTask 31 = .ok (.ireturn, 1) := by decide +kernel
theorem dE_hasActiveChild_0 : decode cE_hasActiveChild 0 = .ok (.iconst 0, 1) := by decide +kernel
theorem dE_hasActiveChild_1 : decode cE_hasActiveChild 1 = .ok (.istore_n 2, 1) := by decide +kernel
theorem dE_hasActiveChild_2 : decode cE_hasActiveChild 2 = .ok (.iload_n 2, 1) := by decide +kernel
theorem dE_hasActiveChild_3 : decode cE_hasActiveChild 3 = .ok (.aload_n 0, 1) := by decide +kernel
theorem dE_hasActiveChild_4 : decode cE_hasActiveChild 4 = .ok (.getfield 25, 3) := by decide +kernel
theorem dE_hasActiveChild_7 : decode cE_hasActiveChild 7 = .ok (.getfield 100, 3) := by decide +kernel
theorem dE_hasActiveChild_10 : decode cE_hasActiveChild 10 = .ok (.if_icmp .ge 33, 3) := by decide +kernel
theorem dE_hasActiveChild_13 : decode cE_hasActiveChild 13 = .ok (.aload_n 0, 1) := by decide +kernel
theorem dE_hasActiveChild_14 : decode cE_hasActiveChild 14 = .ok (.getfield 25, 3) := by decide +kernel
theorem dE_hasActiveChild_17 : decode cE_hasActiveChild 17 = .ok (.getfield 195, 3) := by decide +kernel
theorem dE_hasActiveChild_20 : decode cE_hasActiveChild 20 = .ok (.iload_n 2, 1) := by decide +kernel
theorem dE_hasActiveChild_21 : decode cE_hasActiveChild 21 = .ok (.iaload, 1) := by decide +kernel
theorem dE_hasActiveChild_22 : decode cE_hasActiveChild 22 = .ok (.iload_n 1, 1) := by decide +kernel
theorem dE_hasActiveChild_23 : decode cE_hasActiveChild 23 = .ok (.if_icmp .ne 14, 3) := by decide +kernel
theorem dE_hasActiveChild_26 : decode cE_hasActiveChild 26 = .ok (.aload_n 0, 1) := by decide +kernel
theorem dE_hasActiveChild_27 : decode cE_hasActiveChild 27 = .ok (.getfield 57, 3) := by decide +kernel
theorem dE_hasActiveChild_30 : decode cE_hasActiveChild 30 = .ok (.iload_n 2, 1) := by decide +kernel
theorem dE_hasActiveChild_31 : decode cE_hasActiveChild 31 = .ok (.iaload, 1) := by decide +kernel
theorem dE_hasActiveChild_32 : decode cE_hasActiveChild 32 = .ok (.ifCond .eq 5, 3) := by decide +kernel
theorem dE_hasActiveChild_35 : decode cE_hasActiveChild 35 = .ok (.iconst 1, 1) := by decide +kernel
theorem dE_hasActiveChild_36 : decode cE_hasActiveChild 36 = .ok (.ireturn, 1) := by decide +kernel
theorem dE_hasActiveChild_37 : decode cE_hasActiveChild 37 = .ok (.iinc 2 1, 3) := by decide +kernel
theorem dE_hasActiveChild_40 : decode cE_hasActiveChild 40 = .ok (.goto (-38), 3) := by decide +kernel
theorem dE_hasActiveChild_43 : decode cE_hasActiveChild 43 = .ok (.iconst 0, 1) := by decide +kernel
theorem dE_hasActiveChild_44 : decode cE_hasActiveChild 44 = .ok (.ireturn, 1) := by decide +kernel
theorem dE_sendToSources_0 : decode cE_sendToSources 0 = .ok (.iconst 0, 1) := by decide +kernel
theorem dE_sendToSources_1 : decode cE_sendToSources 1 = .ok (.istore_n 3, 1) := by decide +kernel
theorem dE_sendToSources_2 : decode cE_sendToSources 2 = .ok (.iload_n 3, 1) := by decide +kernel
theorem dE_sendToSources_3 : decode cE_sendToSources 3 = .ok (.aload_n 0, 1) := by decide +kernel
theorem dE_sendToSources_4 : decode cE_sendToSources 4 = .ok (.getfield 25, 3) := by decide +kernel
theorem dE_sendToSources_7 : decode cE_sendToSources 7 = .ok (.getfield 100, 3) := by decide +kernel
theorem dE_sendToSources_10 : decode cE_sendToSources 10 = .ok (.if_icmp .ge 39, 3) := by decide +kernel
theorem dE_sendToSources_13 : decode cE_sendToSources 13 = .ok (.aload_n 0, 1) := by decide +kernel
theorem dE_sendToSources_14 : decode cE_sendToSources 14 = .ok (.getfield 25, 3) := by decide +kernel
theorem dE_sendToSources_17 : decode cE_sendToSources 17 = .ok (.getfield 195, 3) := by decide +kernel
theorem dE_sendToSources_20 : decode cE_sendToSources 20 = .ok (.iload_n 3, 1) := by decide +kernel
theorem dE_sendToSources_21 : decode cE_sendToSources 21 = .ok (.iaload, 1) := by decide +kernel
theorem dE_sendToSources_22 : decode cE_sendToSources 22 = .ok (.iload_n 1, 1) := by decide +kernel
theorem dE_sendToSources_23 : decode cE_sendToSources 23 = .ok (.if_icmp .ne 20, 3) := by decide +kernel
theorem dE_sendToSources_26 : decode cE_sendToSources 26 = .ok (.aload_n 0, 1) := by decide +kernel
theorem dE_sendToSources_27 : decode cE_sendToSources 27 = .ok (.getfield 25, 3) := by decide +kernel
theorem dE_sendToSources_30 : decode cE_sendToSources 30 = .ok (.iload_n 3, 1) := by decide +kernel
theorem dE_sendToSources_31 : decode cE_sendToSources 31 = .ok (.invokevirtual 198, 3) := by decide +kernel
theorem dE_sendToSources_34 : decode cE_sendToSources 34 = .ok (.ifCond .eq 9, 3) := by decide +kernel
theorem dE_sendToSources_37 : decode cE_sendToSources 37 = .ok (.aload_n 0, 1) := by decide +kernel
theorem dE_sendToSources_38 : decode cE_sendToSources 38 = .ok (.iload_n 3, 1) := by decide +kernel
theorem dE_sendToSources_39 : decode cE_sendToSources 39 = .ok (.iload_n 2, 1) := by decide +kernel
theorem dE_sendToSources_40 : decode cE_sendToSources 40 = .ok (.invokevirtual 201, 3) := by decide +kernel
theorem dE_sendToSources_43 : decode cE_sendToSources 43 = .ok (.iinc 3 1, 3) := by decide +kernel
theorem dE_sendToSources_46 : decode cE_sendToSources 46 = .ok (.goto (-44), 3) := by decide +kernel
theorem dE_sendToSources_49 : decode cE_sendToSources 49 = .ok (.return_, 1) := by decide +kernel
theorem dE_sendToken_0 : decode cE_sendToken 0 = .ok (.aload_n 0, 1) := by decide +kernel
theorem dE_sendToken_1 : decode cE_sendToken 1 = .ok (.getfield 57, 3) := by decide +kernel
theorem dE_sendToken_4 : decode cE_sendToken 4 = .ok (.iload_n 1, 1) := by decide +kernel
theorem dE_sendToken_5 : decode cE_sendToken 5 = .ok (.iaload, 1) := by decide +kernel
theorem dE_sendToken_6 : decode cE_sendToken 6 = .ok (.ifCond .ne 12, 3) := by decide +kernel
theorem dE_sendToken_9 : decode cE_sendToken 9 = .ok (.aload_n 0, 1) := by decide +kernel
theorem dE_sendToken_10 : decode cE_sendToken 10 = .ok (.iload_n 1, 1) := by decide +kernel
theorem dE_sendToken_11 : decode cE_sendToken 11 = .ok (.iload_n 2, 1) := by decide +kernel
theorem dE_sendToken_12 : decode cE_sendToken 12 = .ok (.invokevirtual 204, 3) := by decide +kernel
