theorem dR_init_0 : decode cR_init 0 = .ok (.aload_n 0, 1) := by decide +kernel
theorem dR_init_1 : decode cR_init 1 = .ok (.invokespecial 1, 3) := by decide +kernel
theorem dR_init_4 : decode cR_init 4 = .ok (.aload_n 0, 1) := by decide +kernel
theorem dR_init_5 : decode cR_init 5 = .ok (.bipush 24, 2) := by decide +kernel
theorem dR_init_7 : decode cR_init 7 = .ok (.newarray .int, 2) := by decide +kernel
theorem dR_init_9 : decode cR_init 9 = .ok (.putfield 7, 3) := by decide +kernel
theorem dR_init_12 : decode cR_init 12 = .ok (.aload_n 0, 1) := by decide +kernel
theorem dR_init_13 : decode cR_init 13 = .ok (.bipush 24, 2) := by decide +kernel
theorem dR_init_15 : decode cR_init 15 = .ok (.newarray .int, 2) := by decide +kernel
theorem dR_init_17 : decode cR_init 17 = .ok (.putfield 13, 3) := by decide +kernel
theorem dR_init_20 : decode cR_init 20 = .ok (.aload_n 0, 1) := by decide +kernel
theorem dR_init_21 : decode cR_init 21 = .ok (.bipush 24, 2) := by decide +kernel
theorem dR_init_23 : decode cR_init 23 = .ok (.newarray .int, 2) := by decide +kernel
theorem dR_init_25 : decode cR_init 25 = .ok (.putfield 16, 3) := by decide +kernel
theorem dR_init_28 : decode cR_init 28 = .ok (.aload_n 0, 1) := by decide +kernel
theorem dR_init_29 : decode cR_init 29 = .ok (.bipush 24, 2) := by decide +kernel
theorem dR_init_31 : decode cR_init 31 = .ok (.newarray .int, 2) := by decide +kernel
theorem dR_init_33 : decode cR_init 33 = .ok (.putfield 19, 3) := by decide +kernel
theorem dR_init_36 : decode cR_init 36 = .ok (.aload_n 0, 1) := by decide +kernel
theorem dR_init_37 : decode cR_init 37 = .ok (.bipush 24, 2) := by decide +kernel
theorem dR_init_39 : decode cR_init 39 = .ok (.newarray .int, 2) := by decide +kernel
theorem dR_init_41 : decode cR_init 41 = .ok (.putfield 22, 3) := by decide +kernel
theorem dR_init_44 : decode cR_init 44 = .ok (.aload_n 0, 1) := by decide +kernel
theorem dR_init_45 : decode cR_init 45 = .ok (.bipush 24, 2) := by decide +kernel
theorem dR_init_47 : decode cR_init 47 = .ok (.newarray .int, 2) := by decide +kernel
theorem dR_init_49 : decode cR_init 49 = .ok (.putfield 25, 3) := by decide +kernel
theorem dR_init_52 : decode cR_init 52 = .ok (.aload_n 0, 1) := by decide +kernel
theorem dR_init_53 : decode cR_init 53 = .ok (.bipush 24, 2) := by decide +kernel
theorem dR_init_55 : decode cR_init 55 = .ok (.newarray .int, 2) := by decide +kernel
theorem dR_init_57 : decode cR_init 57 = .ok (.putfield 28, 3) := by decide +kernel
theorem dR_init_60 : decode cR_init 60 = .ok (.aload_n 0, 1) := by decide +kernel
theorem dR_init_61 : decode cR_init 61 = .ok (.bipush 24, 2) := by decide +kernel
theorem dR_init_63 : decode cR_init 63 = .ok (.newarray .int, 2) := by decide +kernel
theorem dR_init_65 : decode cR_init 65 = .ok (.putfield 31, 3) := by decide +kernel
theorem dR_init_68 : decode cR_init 68 = .ok (.aload_n 0, 1) := by decide +kernel
theorem dR_init_69 : decode cR_init 69 = .ok (.bipush 24, 2) := by decide +kernel
theorem dR_init_71 : decode cR_init 71 = .ok (.newarray .int, 2) := by decide +kernel
theorem dR_init_73 : decode cR_init 73 = .ok (.putfield 34, 3) := by decide +kernel
theorem dR_init_76 : decode cR_init 76 = .ok (.aload_n 0, 1) := by decide +kernel
theorem dR_init_77 : decode cR_init 77 = .ok (.bipush 24, 2) := by decide +kernel
theorem dR_init_79 : decode cR_init 79 = .ok (.newarray .boolean, 2) := by decide +kernel
theorem dR_init_81 : decode cR_init 81 = .ok (.putfield 37, 3) := by decide +kernel
theorem dR_init_84 : decode cR_init 84 = .ok (.aload_n 0, 1) := by decide +kernel
theorem dR_init_85 : decode cR_init 85 = .ok (.bipush 24, 2) := by decide +kernel
theorem dR_init_87 : decode cR_init 87 = .ok (.newarray .int, 2) := by decide +kernel
theorem dR_init_89 : decode cR_init 89 = .ok (.putfield 41, 3) := by decide +kernel
theorem dR_init_92 : decode cR_init 92 = .ok (.aload_n 0, 1) := by decide +kernel
theorem dR_init_93 : decode cR_init 93 = .ok (.sipush 144, 3) := by decide +kernel
theorem dR_init_96 : decode cR_init 96 = .ok (.newarray .int, 2) := by decide +kernel
theorem dR_init_98 : decode cR_init 98 = .ok (.putfield 44, 3) := by decide +kernel
theorem dR_init_101 : decode cR_init 101 = .ok (.aload_n 0, 1) := by decide +kernel
theorem dR_init_102 : decode cR_init 102 = .ok (.sipush 576, 3) := by decide +kernel
theorem dR_init_105 : decode cR_init 105 = .ok (.newarray .boolean, 2) := by decide +kernel
theorem dR_init_107 : decode cR_init 107 = .ok (.putfield 47, 3) := by decide +kernel
theorem dR_init_110 : decode cR_init 110 = .ok (.aload_n 0, 1) := by decide +kernel
theorem dR_init_111 : decode cR_init 111 = .ok (.iconst 4, 1) := by decide +kernel
theorem dR_init_112 : decode cR_init 112 = .ok (.newarray .int, 2) := by decide +kernel
theorem dR_init_114 : decode cR_init 114 = .ok (.putfield 50, 3) := by decide +kernel
theorem dR_init_117 : decode cR_init 117 = .ok (.aload_n 0, 1) := by decide +kernel
theorem dR_init_118 : decode cR_init 118 = .ok (.iconst (-1), 1) := by decide +kernel
theorem dR_init_119 : decode cR_init 119 = .ok (.putfield 53, 3) := by decide +kernel
theorem dR_init_122 : decode cR_init 122 = .ok (.aload_n 0, 1) := by decide +kernel
theorem dR_init_123 : decode cR_init 123 = .ok (.iload_n 1, 1) := by decide +kernel
theorem dR_init_124 : decode cR_init 124 = .ok (.iconst 1, 1) := by decide +kernel
theorem dR_init_125 : decode cR_init 125 = .ok (.if_icmp .ge 7, 3) := by decide +kernel
theorem dR_init_128 : decode cR_init 128 = .ok (.iconst 1, 1) := by decide +kernel
theorem dR_init_129 : decode cR_init 129 = .ok (.goto 13, 3) := by decide +kernel
theorem dR_init_132 : decode cR_init 132 = .ok (.iload_n 1, 1) := by decide +kernel
theorem dR_init_133 : decode cR_init 133 = .ok (.iconst 4, 1) := by decide +kernel
theorem dR_init_134 : decode cR_init 134 = .ok (.if_icmp .le 7, 3) := by decide +kernel
theorem dR_init_137 : decode cR_init 137 = .ok (.iconst 4, 1) := by decide +kernel
theorem dR_init_138 : decode cR_init 138 = .ok (.goto 4, 3) := by decide +kernel
theorem dR_init_141 : decode cR_init 141 = .ok (.iload_n 1, 1) := by decide +kernel
theorem dR_init_142 : decode cR_init 142 = .ok (.putfield 57, 3) := by decide +kernel
theorem dR_init_145 : decode cR_init 145 = .ok (.return_, 1) := by decide +kernel
theorem dR_isTask_0 : decode cR_isTask 0 = .ok (.iload_n 1, 1) := by decide +kernel
theorem dR_isTask_1 : decode cR_isTask 1 = .ok (.ifCond .lt 15, 3) := by decide +kernel
theorem dR_isTask_4 : decode cR_isTask 4 = .ok (.iload_n 1, 1) := by decide +kernel
theorem dR_isTask_5 : decode cR_isTask 5 = .ok (.aload_n 0, 1) := by decide +kernel
theorem dR_isTask_6 : decode cR_isTask 6 = .ok (.getfield 60, 3) := by decide +kernel
theorem dR_isTask_9 : decode cR_isTask 9 = .ok (.if_icmp .ge 7, 3) := by decide +kernel
theorem dR_isTask_12 : decode cR_isTask 12 = .ok (.iconst 1, 1) := by decide +kernel
theorem dR_isTask_13 : decode cR_isTask 13 = .ok (.goto 4, 3) := by decide +kernel
theorem dR_isTask_16 : decode cR_isTask 16 = .ok (.iconst 0, 1) := by decide +kernel
theorem dR_isTask_17 : decode cR_isTask 17 = .ok (.ireturn, 1) := by decide +kernel
theorem dR_add_0 : decode cR_add 0 = .ok (.iload_n 2, 1) := by decide +kernel
theorem dR_add_1 : decode cR_add 1 = .ok (.iconst (-1), 1) := by decide +kernel
theorem dR_add_2 : decode cR_add 2 = .ok (.if_icmp .eq 31, 3) := by decide +kernel
theorem dR_add_5 : decode cR_add 5 = .ok (.aload_n 0, 1) := by decide +kernel
theorem dR_add_6 : decode cR_add 6 = .ok (.iload_n 2, 1) := by decide +kernel
theorem dR_add_7 : decode cR_add 7 = .ok (.invokevirtual 63, 3) := by decide +kernel
theorem dR_add_10 : decode cR_add 10 = .ok (.ifCond .eq 27, 3) := by decide +kernel
theorem dR_add_13 : decode cR_add 13 = .ok (.aload_n 0, 1) := by decide +kernel
theorem dR_add_14 : decode cR_add 14 = .ok (.getfield 7, 3) := by decide +kernel
theorem dR_add_17 : decode cR_add 17 = .ok (.iload_n 2, 1) := by decide +kernel
theorem dR_add_18 : decode cR_add 18 = .ok (.iaload, 1) := by decide +kernel
theorem dR_add_19 : decode cR_add 19 = .ok (.iconst 2, 1) := by decide +kernel
theorem dR_add_20 : decode cR_add 20 = .ok (.if_icmp .lt 17, 3) := by decide +kernel
theorem dR_add_23 : decode cR_add 23 = .ok (.aload_n 0, 1) := by decide +kernel
theorem dR_add_24 : decode cR_add 24 = .ok (.getfield 16, 3) := by decide +kernel
theorem dR_add_27 : decode cR_add 27 = .ok (.iload_n 2, 1) := by decide +kernel
theorem dR_add_28 : decode cR_add 28 = .ok (.iaload, 1) := by decide +kernel
theorem dR_add_29 : decode cR_add 29 = .ok (.iconst 3, 1) := by decide +kernel
theorem dR_add_30 : decode cR_add 30 = .ok (.if_icmp .ge 7, 3) := by decide +kernel
theorem dR_add_33 : decode cR_add 33 = .ok (.iconst 1, 1) := by decide +kernel
theorem dR_add_34 : decode cR_add 34 = .ok (.goto 4, 3) := by decide +kernel
theorem dR_add_37 : decode cR_add 37 = .ok (.iconst 0, 1) := by decide +kernel
theorem dR_add_38 : decode cR_add 38 = .ok (.istore 4, 2) := by decide +kernel
theorem dR_add_40 : decode cR_add 40 = .ok (.aload_n 0, 1) := by decide +kernel
theorem dR_add_41 : decode cR_add 41 = .ok (.getfield 67, 3) := by decide +kernel
theorem dR_add_44 : decode cR_add 44 = .ok (.ifCond .ne 36, 3) := by decide +kernel
theorem dR_add_47 : decode cR_add 47 = .ok (.aload_n 0, 1) := by decide +kernel
theorem dR_add_48 : decode cR_add 48 = .ok (.getfield 60, 3) := by decide +kernel
theorem dR_add_51 : decode cR_add 51 = .ok (.bipush 24, 2) := by decide +kernel
theorem dR_add_53 : decode cR_add 53 = .ok (.if_icmp .ge 27, 3) := by decide +kernel
theorem dR_add_56 : decode cR_add 56 = .ok (.iload_n 1, 1) := by decide +kernel
theorem dR_add_57 : decode cR_add 57 = .ok (.ifCond .lt 23, 3) := by decide +kernel
theorem dR_add_60 : decode cR_add 60 = .ok (.iload_n 1, 1) := by decide +kernel
theorem dR_add_61 : decode cR_add 61 = .ok (.iconst 3, 1) := by decide +kernel
theorem dR_add_62 : decode cR_add 62 = .ok (.if_icmp .gt 18, 3) := by decide +kernel
theorem dR_add_65 : decode cR_add 65 = .ok (.iload_n 3, 1) := by decide +kernel
theorem dR_add_66 : decode cR_add 66 = .ok (.ifCond .lt 14, 3) := by decide +kernel
theorem dR_add_69 : decode cR_add 69 = .ok (.iload_n 3, 1) := by decide +kernel
theorem dR_add_70 : decode cR_add 70 = .ok (.bipush 15, 2) := by decide +kernel
theorem dR_add_72 : decode cR_add 72 = .ok (.if_icmp .gt 8, 3) := by decide +kernel
theorem dR_add_75 : decode cR_add 75 = .ok (.iload 4, 2) := by decide +kernel
theorem dR_add_77 : decode cR_add 77 = .ok (.ifCond .ne 5, 3) := by decide +kernel
theorem dR_add_80 : decode cR_add 80 = .ok (.iconst (-1), 1) := by decide +kernel
theorem dR_add_81 : decode cR_add 81 = .ok (.ireturn, 1) := by decide +kernel
theorem dR_add_82 : decode cR_add 82 = .ok (.aload_n 0, 1) := by decide +kernel
theorem dR_add_83 : decode cR_add 83 = .ok (.getfield 7, 3) := by decide +kernel
theorem dR_add_86 : decode cR_add 86 = .ok (.aload_n 0, 1) := by decide +kernel
theorem dR_add_87 : decode cR_add 87 = .ok (.getfield 60, 3) := by decide +kernel
theorem dR_add_90 : decode cR_add 90 = .ok (.iload_n 1, 1) := by decide +kernel
theorem dR_add_91 : decode cR_add 91 = .ok (.iastore, 1) := by decide +kernel
theorem dR_add_92 : decode cR_add 92 = .ok (.aload_n 0, 1) := by decide +kernel
theorem dR_add_93 : decode cR_add 93 = .ok (.getfield 13, 3) := by decide +kernel
theorem dR_add_96 : decode cR_add 96 = .ok (.aload_n 0, 1) := by decide +kernel
theorem dR_add_97 : decode cR_add 97 = .ok (.getfield 60, 3) := by decide +kernel
theorem dR_add_100 : decode cR_add 100 = .ok (.iload_n 2, 1) := by decide +kernel
theorem dR_add_101 : decode cR_add 101 = .ok (.iastore, 1) := by decide +kernel
theorem dR_add_102 : decode cR_add 102 = .ok (.aload_n 0, 1) := by decide +kernel
theorem dR_add_103 : decode cR_add 103 = .ok (.getfield 16, 3) := by decide +kernel
theorem dR_add_106 : decode cR_add 106 = .ok (.aload_n 0, 1) := by decide +kernel
theorem dR_add_107 : decode cR_add 107 = .ok (.getfield 60, 3) := by decide +kernel
theorem dR_add_110 : decode cR_add 110 = .ok (.iload_n 2, 1) := by decide +kernel
theorem dR_add_111 : decode cR_add 111 = .ok (.iconst (-1), 1) := by decide +kernel
theorem dR_add_112 : decode cR_add 112 = .ok (.if_icmp .ne 7, 3) := by decide +kernel
theorem dR_add_115 : decode cR_add 115 = .ok (.iconst 0, 1) := by decide +kernel
theorem dR_add_116 : decode cR_add 116 = .ok (.goto 11, 3) := by decide +kernel
theorem dR_add_119 : decode cR_add 119 = .ok (.aload_n 0, 1) := by decide +kernel
theorem dR_add_120 : decode cR_add 120 = .ok (.getfield 16, 3) := by decide +kernel
theorem dR_add_123 : decode cR_add 123 = .ok (.iload_n 2, 1) := by decide +kernel
theorem dR_add_124 : decode cR_add 124 = .ok (.iaload, 1) := by decide +kernel
theorem dR_add_125 : decode cR_add 125 = .ok (.iconst 1, 1) := by decide +kernel
theorem dR_add_126 : decode cR_add 126 = .ok (.iadd, 1) := by decide +kernel
theorem dR_add_127 : decode cR_add 127 = .ok (.iastore, 1) := by decide +kernel
theorem dR_add_128 : decode cR_add 128 = .ok (.aload_n 0, 1) := by decide +kernel
theorem dR_add_129 : decode cR_add 129 = .ok (.getfield 19, 3) := by decide +kernel
theorem dR_add_132 : decode cR_add 132 = .ok (.aload_n 0, 1) := by decide +kernel
theorem dR_add_133 : decode cR_add 133 = .ok (.getfield 60, 3) := by decide +kernel
theorem dR_add_136 : decode cR_add 136 = .ok (.iload_n 3, 1) := by decide +kernel
theorem dR_add_137 : decode cR_add 137 = .ok (.iastore, 1) := by decide +kernel
theorem dR_add_138 : decode cR_add 138 = .ok (.aload_n 0, 1) := by decide +kernel
theorem dR_add_139 : decode cR_add 139 = .ok (.aload_n 0, 1) := by decide +kernel
theorem dR_add_140 : decode cR_add 140 = .ok (.getfield 60, 3) := by decide +kernel
theorem dR_add_143 : decode cR_add 143 = .ok (.iconst 1, 1) := by decide +kernel
theorem dR_add_144 : decode cR_add 144 = .ok (.iadd, 1) := by decide +kernel
theorem dR_add_145 : decode cR_add 145 = .ok (.putfield 60, 3) := by decide +kernel
theorem dR_add_148 : decode cR_add 148 = .ok (.aload_n 0, 1) := by decide +kernel
theorem dR_add_149 : decode cR_add 149 = .ok (.getfield 60, 3) := by decide +kernel
theorem dR_add_152 : decode cR_add 152 = .ok (.iconst 1, 1) := by decide +kernel
theorem dR_add_153 : decode cR_add 153 = .ok (.isub, 1) := by decide +kernel
theorem dR_add_154 : decode cR_add 154 = .ok (.ireturn, 1) := by decide +kernel
theorem dR_edges_0 : decode cR_edges 0 = .ok (.iconst 0, 1) := by decide +kernel
theorem dR_edges_1 : decode cR_edges 1 = .ok (.istore_n 3, 1) := by decide +kernel
theorem dR_edges_2 : decode cR_edges 2 = .ok (.iconst 0, 1) := by decide +kernel
theorem dR_edges_3 : decode cR_edges 3 = .ok (.istore 4, 2) := by decide +kernel
theorem dR_edges_5 : decode cR_edges 5 = .ok (.iload 4, 2) := by decide +kernel
theorem dR_edges_7 : decode cR_edges 7 = .ok (.aload_n 0, 1) := by decide +kernel
theorem dR_edges_8 : decode cR_edges 8 = .ok (.getfield 41, 3) := by decide +kernel
theorem dR_edges_11 : decode cR_edges 11 = .ok (.iload_n 1, 1) := by decide +kernel
theorem dR_edges_12 : decode cR_edges 12 = .ok (.iaload, 1) := by decide +kernel
theorem dR_edges_13 : decode cR_edges 13 = .ok (.if_icmp .ge 33, 3) := by decide +kernel
theorem dR_edges_16 : decode cR_edges 16 = .ok (.aload_n 0, 1) := by decide +kernel
theorem dR_edges_17 : decode cR_edges 17 = .ok (.getfield 44, 3) := by decide +kernel
theorem dR_edges_20 : decode cR_edges 20 = .ok (.bipush 6, 2) := by decide +kernel
theorem dR_edges_22 : decode cR_edges 22 = .ok (.iload_n 1, 1) := by decide +kernel
theorem dR_edges_23 : decode cR_edges 23 = .ok (.imul, 1) := by decide +kernel
theorem dR_edges_24 : decode cR_edges 24 = .ok (.iload 4, 2) := by decide +kernel
theorem dR_edges_26 : decode cR_edges 26 = .ok (.iadd, 1) := by decide +kernel
theorem dR_edges_27 : decode cR_edges 27 = .ok (.iaload, 1) := by decide +kernel
theorem dR_edges_28 : decode cR_edges 28 = .ok (.iload_n 2, 1) := by decide +kernel
theorem dR_edges_29 : decode cR_edges 29 = .ok (.if_icmp .ne 9, 3) := by decide +kernel
theorem dR_edges_32 : decode cR_edges 32 = .ok (.iload_n 3, 1) := by decide +kernel
theorem dR_edges_33 : decode cR_edges 33 = .ok (.iconst 1, 1) := by decide +kernel
theorem dR_edges_34 : decode cR_edges 34 = .ok (.iadd, 1) := by decide +kernel
theorem dR_edges_35 : decode cR_edges 35 = .ok (.goto 4, 3) := by decide +kernel
theorem dR_edges_38 : decode cR_edges 38 = .ok (.iload_n 3, 1) := by decide +kernel
theorem dR_edges_39 : decode cR_edges 39 = .ok (.istore_n 3, 1) := by decide +kernel
theorem dR_edges_40 : decode cR_edges 40 = .ok (.iinc 4 1, 3) := by decide +kernel
theorem dR_edges_43 : decode cR_edges 43 = .ok (.goto (-38), 3) := by decide +kernel
theorem dR_edges_46 : decode cR_edges 46 = .ok (.iload_n 3, 1) := by decide +kernel
theorem dR_edges_47 : decode cR_edges 47 = .ok (.ireturn, 1) := by decide +kernel
theorem dR_edge_0 : decode cR_edge 0 = .ok (.aload_n 0, 1) := by decide +kernel
theorem dR_edge_1 : decode cR_edge 1 = .ok (.getfield 67, 3) := by decide +kernel
theorem dR_edge_4 : decode cR_edge 4 = .ok (.ifCond .ne 34, 3) := by decide +kernel
theorem dR_edge_7 : decode cR_edge 7 = .ok (.aload_n 0, 1) := by decide +kernel
theorem dR_edge_8 : decode cR_edge 8 = .ok (.iload_n 1, 1) := by decide +kernel
theorem dR_edge_9 : decode cR_edge 9 = .ok (.invokevirtual 63, 3) := by decide +kernel
theorem dR_edge_12 : decode cR_edge 12 = .ok (.ifCond .eq 26, 3) := by decide +kernel
theorem dR_edge_15 : decode cR_edge 15 = .ok (.aload_n 0, 1) := by decide +kernel
theorem dR_edge_16 : decode cR_edge 16 = .ok (.iload_n 2, 1) := by decide +kernel
theorem dR_edge_17 : decode cR_edge 17 = .ok (.invokevirtual 63, 3) := by decide +kernel
theorem dR_edge_20 : decode cR_edge 20 = .ok (.ifCond .eq 18, 3) := by decide +kernel
theorem dR_edge_23 : decode cR_edge 23 = .ok (.aload_n 0, 1) := by decide +kernel
theorem dR_edge_24 : decode cR_edge 24 = .ok (.getfield 13, 3) := by decide +kernel
theorem dR_edge_27 : decode cR_edge 27 = .ok (.iload_n 1, 1) := by decide +kernel
theorem dR_edge_28 : decode cR_edge 28 = .ok (.iaload, 1) := by decide +kernel
theorem dR_edge_29 : decode cR_edge 29 = .ok (.aload_n 0, 1) := by decide +kernel
theorem dR_edge_30 : decode cR_edge 30 = .ok (.getfield 13, 3) := by decide +kernel
theorem dR_edge_33 : decode cR_edge 33 = .ok (.iload_n 2, 1) := by decide +kernel
theorem dR_edge_34 : decode cR_edge 34 = .ok (.iaload, 1) := by decide +kernel
theorem dR_edge_35 : decode cR_edge 35 = .ok (.if_icmp .eq 5, 3) := by decide +kernel
theorem dR_edge_38 : decode cR_edge 38 = .ok (.iconst 0, 1) := by decide +kernel
theorem dR_edge_39 : decode cR_edge 39 = .ok (.ireturn, 1) := by decide +kernel
theorem dR_edge_40 : decode cR_edge 40 = .ok (.aload_n 0, 1) := by decide +kernel
theorem dR_edge_41 : decode cR_edge 41 = .ok (.iload_n 1, 1) := by decide +kernel
theorem dR_edge_42 : decode cR_edge 42 = .ok (.iload_n 2, 1) := by decide +kernel
theorem dR_edge_43 : decode cR_edge 43 = .ok (.invokevirtual 71, 3) := by decide +kernel
theorem dR_edge_46 : decode cR_edge 46 = .ok (.ifCond .gt 14, 3) := by decide +kernel
theorem dR_edge_49 : decode cR_edge 49 = .ok (.aload_n 0, 1) := by decide +kernel
theorem dR_edge_50 : decode cR_edge 50 = .ok (.getfield 41, 3) := by decide +kernel
theorem dR_edge_53 : decode cR_edge 53 = .ok (.iload_n 1, 1) := by decide +kernel
theorem dR_edge_54 : decode cR_edge 54 = .ok (.iaload, 1) := by decide +kernel
theorem dR_edge_55 : decode cR_edge 55 = .ok (.bipush 6, 2) := by decide +kernel
theorem dR_edge_57 : decode cR_edge 57 = .ok (.if_icmp .lt 5, 3) := by decide +kernel
theorem dR_edge_60 : decode cR_edge 60 = .ok (.iconst 0, 1) := by decide +kernel
theorem dR_edge_61 : decode cR_edge 61 = .ok (.ireturn, 1) := by decide +kernel
theorem dR_edge_62 : decode cR_edge 62 = .ok (.aload_n 0, 1) := by decide +kernel
theorem dR_edge_63 : decode cR_edge 63 = .ok (.getfield 44, 3) := by decide +kernel
theorem dR_edge_66 : decode cR_edge 66 = .ok (.bipush 6, 2) := by decide +kernel
theorem dR_edge_68 : decode cR_edge 68 = .ok (.iload_n 1, 1) := by decide +kernel
theorem dR_edge_69 : decode cR_edge 69 = .ok (.imul, 1) := by decide +kernel
theorem dR_edge_70 : decode cR_edge 70 = .ok (.aload_n 0, 1) := by decide +kernel
theorem dR_edge_71 : decode cR_edge 71 = .ok (.getfield 41, 3) := by decide +kernel
theorem dR_edge_74 : decode cR_edge 74 = .ok (.iload_n 1, 1) := by decide +kernel
theorem dR_edge_75 : decode cR_edge 75 = .ok (.iaload, 1) := by decide +kernel
theorem dR_edge_76 : decode cR_edge 76 = .ok (.iadd, 1) := by decide +kernel
theorem dR_edge_77 : decode cR_edge 77 = .ok (.iload_n 2, 1) := by decide +kernel
theorem dR_edge_78 : decode cR_edge 78 = .ok (.iastore, 1) := by decide +kernel
theorem dR_edge_79 : decode cR_edge 79 = .ok (.aload_n 0, 1) := by decide +kernel
theorem dR_edge_80 : decode cR_edge 80 = .ok (.getfield 41, 3) := by decide +kernel
theorem dR_edge_83 : decode cR_edge 83 = .ok (.iload_n 1, 1) := by decide +kernel
theorem dR_edge_84 : decode cR_edge 84 = .ok (.aload_n 0, 1) := by decide +kernel
theorem dR_edge_85 : decode cR_edge 85 = .ok (.getfield 41, 3) := by decide +kernel
theorem dR_edge_88 : decode cR_edge 88 = .ok (.iload_n 1, 1) := by decide +kernel
theorem dR_edge_89 : decode cR_edge 89 = .ok (.iaload, 1) := by decide +kernel
theorem dR_edge_90 : decode cR_edge 90 = .ok (.iconst 1, 1) := by decide +kernel
theorem dR_edge_91 : decode cR_edge 91 = .ok (.iadd, 1) := by decide +kernel
theorem dR_edge_92 : decode cR_edge 92 = .ok (.iastore, 1) := by decide +kernel
theorem dR_edge_93 : decode cR_edge 93 = .ok (.iconst 1, 1) := by decide +kernel
theorem dR_edge_94 : decode cR_edge 94 = .ok (.ireturn, 1) := by decide +kernel
theorem dR_capacity_0 : decode cR_capacity 0 = .ok (.aload_n 0, 1) := by decide +kernel
theorem dR_capacity_1 : decode cR_capacity 1 = .ok (.getfield 67, 3) := by decide +kernel
theorem dR_capacity_4 : decode cR_capacity 4 = .ok (.ifCond .ne 22, 3) := by decide +kernel
theorem dR_capacity_7 : decode cR_capacity 7 = .ok (.iload_n 1, 1) := by decide +kernel
theorem dR_capacity_8 : decode cR_capacity 8 = .ok (.ifCond .lt 18, 3) := by decide +kernel
theorem dR_capacity_11 : decode cR_capacity 11 = .ok (.iload_n 1, 1) := by decide +kernel
theorem dR_capacity_12 : decode cR_capacity 12 = .ok (.iconst 3, 1) := by decide +kernel
theorem dR_capacity_13 : decode cR_capacity 13 = .ok (.if_icmp .gt 13, 3) := by decide +kernel
theorem dR_capacity_16 : decode cR_capacity 16 = .ok (.iload_n 2, 1) := by decide +kernel
theorem dR_capacity_17 : decode cR_capacity 17 = .ok (.iconst 1, 1) := by decide +kernel
theorem dR_capacity_18 : decode cR_capacity 18 = .ok (.if_icmp .lt 8, 3) := by decide +kernel
theorem dR_capacity_21 : decode cR_capacity 21 = .ok (.iload_n 2, 1) := by decide +kernel
theorem dR_capacity_22 : decode cR_capacity 22 = .ok (.iconst 4, 1) := by decide +kernel
theorem dR_capacity_23 : decode cR_capacity 23 = .ok (.if_icmp .le 5, 3) := by decide +kernel
theorem dR_capacity_26 : decode cR_capacity 26 = .ok (.iconst 0, 1) := by decide +kernel
theorem dR_capacity_27 : decode cR_capacity 27 = .ok (.ireturn, 1) := by decide +kernel
theorem dR_capacity_28 : decode cR_capacity 28 = .ok (.aload_n 0, 1) := by decide +kernel
theorem dR_capacity_29 : decode cR_capacity 29 = .ok (.getfield 50, 3) := by decide +kernel
theorem dR_capacity_32 : decode cR_capacity 32 = .ok (.iload_n 1, 1) := by decide +kernel
theorem dR_capacity_33 : decode cR_capacity 33 = .ok (.iload_n 2, 1) := by decide +kernel
theorem dR_capacity_34 : decode cR_capacity 34 = .ok (.iconst 1, 1) := by decide +kernel
theorem dR_capacity_35 : decode cR_capacity 35 = .ok (.isub, 1) := by decide +kernel
theorem dR_capacity_36 : decode cR_capacity 36 = .ok (.iastore, 1) := by decide +kernel
theorem dR_capacity_37 : decode cR_capacity 37 = .ok (.iconst 1, 1) := by decide +kernel
theorem dR_capacity_38 : decode cR_capacity 38 = .ok (.ireturn, 1) := by decide +kernel
theorem dR_into_0 : decode cR_into 0 = .ok (.iconst 0, 1) := by decide +kernel
theorem dR_into_1 : decode cR_into 1 = .ok (.istore_n 3, 1) := by decide +kernel
theorem dR_into_2 : decode cR_into 2 = .ok (.iconst 0, 1) := by decide +kernel
theorem dR_into_3 : decode cR_into 3 = .ok (.istore 4, 2) := by decide +kernel
theorem dR_into_5 : decode cR_into 5 = .ok (.iload 4, 2) := by decide +kernel
theorem dR_into_7 : decode cR_into 7 = .ok (.aload_n 0, 1) := by decide +kernel
theorem dR_into_8 : decode cR_into 8 = .ok (.getfield 60, 3) := by decide +kernel
theorem dR_into_11 : decode cR_into 11 = .ok (.if_icmp .ge 38, 3) := by decide +kernel
theorem dR_into_14 : decode cR_into 14 = .ok (.iload_n 2, 1) := by decide +kernel
theorem dR_into_15 : decode cR_into 15 = .ok (.ifCond .eq 18, 3) := by decide +kernel
theorem dR_into_18 : decode cR_into 18 = .ok (.aload_n 0, 1) := by decide +kernel
theorem dR_into_19 : decode cR_into 19 = .ok (.getfield 7, 3) := by decide +kernel
theorem dR_into_22 : decode cR_into 22 = .ok (.iload 4, 2) := by decide +kernel
theorem dR_into_24 : decode cR_into 24 = .ok (.iaload, 1) := by decide +kernel
theorem dR_into_25 : decode cR_into 25 = .ok (.iconst 1, 1) := by decide +kernel
theorem dR_into_26 : decode cR_into 26 = .ok (.if_icmp .ne 7, 3) := by decide +kernel
theorem dR_into_29 : decode cR_into 29 = .ok (.iload_n 3, 1) := by decide +kernel
theorem dR_into_30 : decode cR_into 30 = .ok (.goto 12, 3) := by decide +kernel
theorem dR_into_33 : decode cR_into 33 = .ok (.iload_n 3, 1) := by decide +kernel
theorem dR_into_34 : decode cR_into 34 = .ok (.aload_n 0, 1) := by decide +kernel
theorem dR_into_35 : decode cR_into 35 = .ok (.iload 4, 2) := by decide +kernel
theorem dR_into_37 : decode cR_into 37 = .ok (.iload_n 1, 1) := by decide +kernel
theorem dR_into_38 : decode cR_into 38 = .ok (.invokevirtual 71, 3) := by decide +kernel
theorem dR_into_41 : decode cR_into 41 = .ok (.iadd, 1) := by decide +kernel
theorem dR_into_42 : decode cR_into 42 = .ok (.istore_n 3, 1) := by decide +kernel
theorem dR_into_43 : decode cR_into 43 = .ok (.iinc 4 1, 3) := by decide +kernel
theorem dR_into_46 : decode cR_into 46 = .ok (.goto (-41), 3) := by decide +kernel
theorem dR_into_49 : decode cR_into 49 = .ok (.iload_n 3, 1) := by decide +kernel
theorem dR_into_50 : decode cR_into 50 = .ok (.ireturn, 1) := by decide +kernel
theorem dR_groupHasSource_0 : decode cR_groupHasSource 0 = .ok (.iconst 0, 1) := by decide +kernel
theorem dR_groupHasSource_1 : decode cR_groupHasSource 1 = .ok (.istore_n 2, 1) := by decide +kernel
theorem dR_groupHasSource_2 : decode cR_groupHasSource 2 = .ok (.iconst 0, 1) := by decide +kernel
theorem dR_groupHasSource_3 : decode cR_groupHasSource 3 = .ok (.istore_n 3, 1) := by decide +kernel
theorem dR_groupHasSource_4 : decode cR_groupHasSource 4 = .ok (.iload_n 3, 1) := by decide +kernel
theorem dR_groupHasSource_5 : decode cR_groupHasSource 5 = .ok (.aload_n 0, 1) := by decide +kernel
theorem dR_groupHasSource_6 : decode cR_groupHasSource 6 = .ok (.getfield 60, 3) := by decide +kernel
theorem dR_groupHasSource_9 : decode cR_groupHasSource 9 = .ok (.if_icmp .ge 38, 3) := by decide +kernel
theorem dR_groupHasSource_12 : decode cR_groupHasSource 12 = .ok (.iload_n 2, 1) := by decide +kernel
theorem dR_groupHasSource_13 : decode cR_groupHasSource 13 = .ok (.ifCond .ne 22, 3) := by decide +kernel
theorem dR_groupHasSource_16 : decode cR_groupHasSource 16 = .ok (.aload_n 0, 1) := by decide +kernel
theorem dR_groupHasSource_17 : decode cR_groupHasSource 17 = .ok (.getfield 13, 3) := by decide +kernel
theorem dR_groupHasSource_20 : decode cR_groupHasSource 20 = .ok (.iload_n 3, 1) := by decide +kernel
theorem dR_groupHasSource_21 : decode cR_groupHasSource 21 = .ok (.iaload, 1) := by decide +kernel
theorem dR_groupHasSource_22 : decode cR_groupHasSource 22 = .ok (.iload_n 1, 1) := by decide +kernel
theorem dR_groupHasSource_23 : decode cR_groupHasSource 23 = .ok (.if_icmp .ne 16, 3) := by decide +kernel
theorem dR_groupHasSource_26 : decode cR_groupHasSource 26 = .ok (.aload_n 0, 1) := by decide +kernel
theorem dR_groupHasSource_27 : decode cR_groupHasSource 27 = .ok (.iload_n 3, 1) := by decide +kernel
theorem dR_groupHasSource_28 : decode cR_groupHasSource 28 = .ok (.iconst 0, 1) := by decide +kernel
theorem dR_groupHasSource_29 : decode cR_groupHasSource 29 = .ok (.invokevirtual 75, 3) := by decide +kernel
theorem dR_groupHasSource_32 : decode cR_groupHasSource 32 = .ok (.ifCond .ne 7, 3) := by decide +kernel
theorem dR_groupHasSource_35 : decode cR_groupHasSource 35 = .ok (.iconst 1, 1) := by decide +kernel
theorem dR_groupHasSource_36 : decode cR_groupHasSource 36 = .ok (.goto 4, 3) := by decide +kernel
theorem dR_groupHasSource_39 : decode cR_groupHasSource 39 = .ok (.iconst 0, 1) := by decide +kernel
theorem dR_groupHasSource_40 : decode cR_groupHasSource 40 = .ok (.istore_n 2, 1) := by decide +kernel
theorem dR_groupHasSource_41 : decode cR_groupHasSource 41 = .ok (.iinc 3 1, 3) := by decide +kernel
theorem dR_groupHasSource_44 : decode cR_groupHasSource 44 = .ok (.goto (-40), 3) := by decide +kernel
theorem dR_groupHasSource_47 : decode cR_groupHasSource 47 = .ok (.iload_n 2, 1) := by decide +kernel
theorem dR_groupHasSource_48 : decode cR_groupHasSource 48 = .ok (.ireturn, 1) := by decide +kernel
theorem dR_circle_0 : decode cR_circle 0 = .ok (.iconst 0, 1) := by decide +kernel
theorem dR_circle_1 : decode cR_circle 1 = .ok (.istore_n 1, 1) := by decide +kernel
theorem dR_circle_2 : decode cR_circle 2 = .ok (.iload_n 1, 1) := by decide +kernel
theorem dR_circle_3 : decode cR_circle 3 = .ok (.aload_n 0, 1) := by decide +kernel
theorem dR_circle_4 : decode cR_circle 4 = .ok (.getfield 60, 3) := by decide +kernel
theorem dR_circle_7 : decode cR_circle 7 = .ok (.if_icmp .ge 60, 3) := by decide +kernel
theorem dR_circle_10 : decode cR_circle 10 = .ok (.iconst 0, 1) := by decide +kernel
theorem dR_circle_11 : decode cR_circle 11 = .ok (.istore_n 2, 1) := by decide +kernel
theorem dR_circle_12 : decode cR_circle 12 = .ok (.iload_n 2, 1) := by decide +kernel
theorem dR_circle_13 : decode cR_circle 13 = .ok (.aload_n 0, 1) := by decide +kernel
theorem dR_circle_14 : decode cR_circle 14 = .ok (.getfield 60, 3) := by decide +kernel
theorem dR_circle_17 : decode cR_circle 17 = .ok (.if_icmp .ge 44, 3) := by decide +kernel
theorem dR_circle_20 : decode cR_circle 20 = .ok (.aload_n 0, 1) := by decide +kernel
theorem dR_circle_21 : decode cR_circle 21 = .ok (.getfield 47, 3) := by decide +kernel
theorem dR_circle_24 : decode cR_circle 24 = .ok (.bipush 24, 2) := by decide +kernel
theorem dR_circle_26 : decode cR_circle 26 = .ok (.iload_n 1, 1) := by decide +kernel
theorem dR_circle_27 : decode cR_circle 27 = .ok (.imul, 1) := by decide +kernel
theorem dR_circle_28 : decode cR_circle 28 = .ok (.iload_n 2, 1) := by decide +kernel
theorem dR_circle_29 : decode cR_circle 29 = .ok (.iadd, 1) := by decide +kernel
theorem dR_circle_30 : decode cR_circle 30 = .ok (.aload_n 0, 1) := by decide +kernel
theorem dR_circle_31 : decode cR_circle 31 = .ok (.getfield 7, 3) := by decide +kernel
theorem dR_circle_34 : decode cR_circle 34 = .ok (.iload_n 1, 1) := by decide +kernel
theorem dR_circle_35 : decode cR_circle 35 = .ok (.iaload, 1) := by decide +kernel
theorem dR_circle_36 : decode cR_circle 36 = .ok (.iconst 1, 1) := by decide +kernel
theorem dR_circle_37 : decode cR_circle 37 = .ok (.if_icmp .eq 16, 3) := by decide +kernel
theorem dR_circle_40 : decode cR_circle 40 = .ok (.aload_n 0, 1) := by decide +kernel
theorem dR_circle_41 : decode cR_circle 41 = .ok (.iload_n 1, 1) := by decide +kernel
theorem dR_circle_42 : decode cR_circle 42 = .ok (.iload_n 2, 1) := by decide +kernel
theorem dR_circle_43 : decode cR_circle 43 = .ok (.invokevirtual 71, 3) := by decide +kernel
theorem dR_circle_46 : decode cR_circle 46 = .ok (.ifCond .le 7, 3) := by decide +kernel
theorem dR_circle_49 : decode cR_circle 49 = .ok (.iconst 1, 1) := by decide +kernel
theorem dR_circle_50 : decode cR_circle 50 = .ok (.goto 4, 3) := by decide +kernel
theorem dR_circle_53 : decode cR_circle 53 = .ok (.iconst 0, 1) := by decide +kernel
theorem dR_circle_54 : decode cR_circle 54 = .ok (.bastore, 1) := by decide +kernel
theorem dR_circle_55 : decode cR_circle 55 = .ok (.iinc 2 1, 3) := by decide +kernel
theorem dR_circle_58 : decode cR_circle 58 = .ok (.goto (-46), 3) := by decide +kernel
theorem dR_circle_61 : decode cR_circle 61 = .ok (.iinc 1 1, 3) := by decide +kernel
theorem dR_circle_64 : decode cR_circle 64 = .ok (.goto (-62), 3) := by decide +kernel
theorem dR_circle_67 : decode cR_circle 67 = .ok (.iconst 0, 1) := by decide +kernel
theorem dR_circle_68 : decode cR_circle 68 = .ok (.istore_n 1, 1) := by decide +kernel
theorem dR_circle_69 : decode cR_circle 69 = .ok (.iload_n 1, 1) := by decide +kernel
theorem dR_circle_70 : decode cR_circle 70 = .ok (.aload_n 0, 1) := by decide +kernel
theorem dR_circle_71 : decode cR_circle 71 = .ok (.getfield 60, 3) := by decide +kernel
theorem dR_circle_74 : decode cR_circle 74 = .ok (.if_icmp .ge 111, 3) := by decide +kernel
theorem dR_circle_77 : decode cR_circle 77 = .ok (.iconst 0, 1) := by decide +kernel
theorem dR_circle_78 : decode cR_circle 78 = .ok (.istore_n 2, 1) := by decide +kernel
theorem dR_circle_79 : decode cR_circle 79 = .ok (.iload_n 2, 1) := by decide +kernel
theorem dR_circle_80 : decode cR_circle 80 = .ok (.aload_n 0, 1) := by decide +kernel
theorem dR_circle_81 : decode cR_circle 81 = .ok (.getfield 60, 3) := by decide +kernel
theorem dR_circle_84 : decode cR_circle 84 = .ok (.if_icmp .ge 95, 3) := by decide +kernel
theorem dR_circle_87 : decode cR_circle 87 = .ok (.iconst 0, 1) := by decide +kernel
theorem dR_circle_88 : decode cR_circle 88 = .ok (.istore_n 3, 1) := by decide +kernel
theorem dR_circle_89 : decode cR_circle 89 = .ok (.iload_n 3, 1) := by decide +kernel
theorem dR_circle_90 : decode cR_circle 90 = .ok (.aload_n 0, 1) := by decide +kernel
theorem dR_circle_91 : decode cR_circle 91 = .ok (.getfield 60, 3) := by decide +kernel
theorem dR_circle_94 : decode cR_circle 94 = .ok (.if_icmp .ge 79, 3) := by decide +kernel
theorem dR_circle_97 : decode cR_circle 97 = .ok (.aload_n 0, 1) := by decide +kernel
theorem dR_circle_98 : decode cR_circle 98 = .ok (.getfield 47, 3) := by decide +kernel
theorem dR_circle_101 : decode cR_circle 101 = .ok (.bipush 24, 2) := by decide +kernel
theorem dR_circle_103 : decode cR_circle 103 = .ok (.iload_n 2, 1) := by decide +kernel
theorem dR_circle_104 : decode cR_circle 104 = .ok (.imul, 1) := by decide +kernel
theorem dR_circle_105 : decode cR_circle 105 = .ok (.iload_n 1, 1) := by decide +kernel
theorem dR_circle_106 : decode cR_circle 106 = .ok (.iadd, 1) := by decide +kernel
theorem dR_circle_107 : decode cR_circle 107 = .ok (.baload, 1) := by decide +kernel
theorem dR_circle_108 : decode cR_circle 108 = .ok (.ifCond .eq 21, 3) := by decide +kernel
theorem dR_circle_111 : decode cR_circle 111 = .ok (.aload_n 0, 1) := by decide +kernel
theorem dR_circle_112 : decode cR_circle 112 = .ok (.getfield 47, 3) := by decide +kernel
theorem dR_circle_115 : decode cR_circle 115 = .ok (.bipush 24, 2) := by decide +kernel
theorem dR_circle_117 : decode cR_circle 117 = .ok (.iload_n 1, 1) := by decide +kernel
theorem dR_circle_118 : decode cR_circle 118 = .ok (.imul, 1) := by decide +kernel
theorem dR_circle_119 : decode cR_circle 119 = .ok (.iload_n 3, 1) := by decide +kernel
theorem dR_circle_120 : decode cR_circle 120 = .ok (.iadd, 1) := by decide +kernel
theorem dR_circle_121 : decode cR_circle 121 = .ok (.baload, 1) := by decide +kernel
theorem dR_circle_122 : decode cR_circle 122 = .ok (.ifCond .eq 7, 3) := by decide +kernel
theorem dR_circle_125 : decode cR_circle 125 = .ok (.iconst 1, 1) := by decide +kernel
theorem dR_circle_126 : decode cR_circle 126 = .ok (.goto 4, 3) := by decide +kernel
theorem dR_circle_129 : decode cR_circle 129 = .ok (.iconst 0, 1) := by decide +kernel
theorem dR_circle_130 : decode cR_circle 130 = .ok (.istore 4, 2) := by decide +kernel
theorem dR_circle_132 : decode cR_circle 132 = .ok (.aload_n 0, 1) := by decide +kernel
theorem dR_circle_133 : decode cR_circle 133 = .ok (.getfield 47, 3) := by decide +kernel
theorem dR_circle_136 : decode cR_circle 136 = .ok (.bipush 24, 2) := by decide +kernel
theorem dR_circle_138 : decode cR_circle 138 = .ok (.iload_n 2, 1) := by decide +kernel
theorem dR_circle_139 : decode cR_circle 139 = .ok (.imul, 1) := by decide +kernel
theorem dR_circle_140 : decode cR_circle 140 = .ok (.iload_n 3, 1) := by decide +kernel
theorem dR_circle_141 : decode cR_circle 141 = .ok (.iadd, 1) := by decide +kernel
theorem dR_circle_142 : decode cR_circle 142 = .ok (.aload_n 0, 1) := by decide +kernel
theorem dR_circle_143 : decode cR_circle 143 = .ok (.getfield 47, 3) := by decide +kernel
theorem dR_circle_146 : decode cR_circle 146 = .ok (.bipush 24, 2) := by decide +kernel
theorem dR_circle_148 : decode cR_circle 148 = .ok (.iload_n 2, 1) := by decide +kernel
theorem dR_circle_149 : decode cR_circle 149 = .ok (.imul, 1) := by decide +kernel
theorem dR_circle_150 : decode cR_circle 150 = .ok (.iload_n 3, 1) := by decide +kernel
theorem dR_circle_151 : decode cR_circle 151 = .ok (.iadd, 1) := by decide +kernel
theorem dR_circle_152 : decode cR_circle 152 = .ok (.baload, 1) := by decide +kernel
theorem dR_circle_153 : decode cR_circle 153 = .ok (.ifCond .ne 8, 3) := by decide +kernel
theorem dR_circle_156 : decode cR_circle 156 = .ok (.iload 4, 2) := by decide +kernel
theorem dR_circle_158 : decode cR_circle 158 = .ok (.ifCond .eq 7, 3) := by decide +kernel
theorem dR_circle_161 : decode cR_circle 161 = .ok (.iconst 1, 1) := by decide +kernel
theorem dR_circle_162 : decode cR_circle 162 = .ok (.goto 4, 3) := by decide +kernel
theorem dR_circle_165 : decode cR_circle 165 = .ok (.iconst 0, 1) := by decide +kernel
theorem dR_circle_166 : decode cR_circle 166 = .ok (.bastore, 1) := by decide +kernel
theorem dR_circle_167 : decode cR_circle 167 = .ok (.iinc 3 1, 3) := by decide +kernel
theorem dR_circle_170 : decode cR_circle 170 = .ok (.goto (-81), 3) := by decide +kernel
theorem dR_circle_173 : decode cR_circle 173 = .ok (.iinc 2 1, 3) := by decide +kernel
theorem dR_circle_176 : decode cR_circle 176 = .ok (.goto (-97), 3) := by decide +kernel
theorem dR_circle_179 : decode cR_circle 179 = .ok (.iinc 1 1, 3) := by decide +kernel
theorem dR_circle_182 : decode cR_circle 182 = .ok (.goto (-113), 3) := by decide +kernel
theorem dR_circle_185 : decode cR_circle 185 = .ok (.iconst 0, 1) := by decide +kernel
theorem dR_circle_186 : decode cR_circle 186 = .ok (.istore_n 1, 1) := by decide +kernel
theorem dR_circle_187 : decode cR_circle 187 = .ok (.iconst 0, 1) := by decide +kernel
theorem dR_circle_188 : decode cR_circle 188 = .ok (.istore_n 2, 1) := by decide +kernel
theorem dR_circle_189 : decode cR_circle 189 = .ok (.iload_n 2, 1) := by decide +kernel
theorem dR_circle_190 : decode cR_circle 190 = .ok (.aload_n 0, 1) := by decide +kernel
theorem dR_circle_191 : decode cR_circle 191 = .ok (.getfield 60, 3) := by decide +kernel
theorem dR_circle_194 : decode cR_circle 194 = .ok (.if_icmp .ge 31, 3) := by decide +kernel
theorem dR_circle_197 : decode cR_circle 197 = .ok (.iload_n 1, 1) := by decide +kernel
theorem dR_circle_198 : decode cR_circle 198 = .ok (.ifCond .ne 15, 3) := by decide +kernel
theorem dR_circle_201 : decode cR_circle 201 = .ok (.aload_n 0, 1) := by decide +kernel
theorem dR_circle_202 : decode cR_circle 202 = .ok (.getfield 47, 3) := by decide +kernel
theorem dR_circle_205 : decode cR_circle 205 = .ok (.bipush 25, 2) := by decide +kernel
theorem dR_circle_207 : decode cR_circle 207 = .ok (.iload_n 2, 1) := by decide +kernel
theorem dR_circle_208 : decode cR_circle 208 = .ok (.imul, 1) := by decide +kernel
theorem dR_circle_209 : decode cR_circle 209 = .ok (.baload, 1) := by decide +kernel
theorem dR_circle_210 : decode cR_circle 210 = .ok (.ifCond .eq 7, 3) := by decide +kernel
theorem dR_circle_213 : decode cR_circle 213 = .ok (.iconst 1, 1) := by decide +kernel
theorem dR_circle_214 : decode cR_circle 214 = .ok (.goto 4, 3) := by decide +kernel
theorem dR_circle_217 : decode cR_circle 217 = .ok (.iconst 0, 1) := by decide +kernel
theorem dR_circle_218 : decode cR_circle 218 = .ok (.istore_n 1, 1) := by decide +kernel
theorem dR_circle_219 : decode cR_circle 219 = .ok (.iinc 2 1, 3) := by decide +kernel
theorem dR_circle_222 : decode cR_circle 222 = .ok (.goto (-33), 3) := by decide +kernel
theorem dR_circle_225 : decode cR_circle 225 = .ok (.iload_n 1, 1) := by decide +kernel
theorem dR_circle_226 : decode cR_circle 226 = .ok (.ireturn, 1) := by decide +kernel
theorem dR_check_0 : decode cR_check 0 = .ok (.aload_n 0, 1) := by decide +kernel
theorem dR_check_1 : decode cR_check 1 = .ok (.getfield 60, 3) := by decide +kernel
theorem dR_check_4 : decode cR_check 4 = .ok (.ifCond .ne 5, 3) := by decide +kernel
theorem dR_check_7 : decode cR_check 7 = .ok (.iconst 1, 1) := by decide +kernel
theorem dR_check_8 : decode cR_check 8 = .ok (.ireturn, 1) := by decide +kernel
theorem dR_check_9 : decode cR_check 9 = .ok (.iconst 0, 1) := by decide +kernel
theorem dR_check_10 : decode cR_check 10 = .ok (.istore_n 1, 1) := by decide +kernel
theorem dR_check_11 : decode cR_check 11 = .ok (.iload_n 1, 1) := by decide +kernel
theorem dR_check_12 : decode cR_check 12 = .ok (.aload_n 0, 1) := by decide +kernel
theorem dR_check_13 : decode cR_check 13 = .ok (.getfield 60, 3) := by decide +kernel
theorem dR_check_16 : decode cR_check 16 = .ok (.if_icmp .ge 24, 3) := by decide +kernel
theorem dR_check_19 : decode cR_check 19 = .ok (.aload_n 0, 1) := by decide +kernel
theorem dR_check_20 : decode cR_check 20 = .ok (.aload_n 0, 1) := by decide +kernel
theorem dR_check_21 : decode cR_check 21 = .ok (.getfield 13, 3) := by decide +kernel
theorem dR_check_24 : decode cR_check 24 = .ok (.iload_n 1, 1) := by decide +kernel
theorem dR_check_25 : decode cR_check 25 = .ok (.iaload, 1) := by decide +kernel
theorem dR_check_26 : decode cR_check 26 = .ok (.invokevirtual 79, 3) := by decide +kernel
theorem dR_check_29 : decode cR_check 29 = .ok (.ifCond .ne 5, 3) := by decide +kernel
theorem dR_check_32 : decode cR_check 32 = .ok (.iconst 2, 1) := by decide +kernel
theorem dR_check_33 : decode cR_check 33 = .ok (.ireturn, 1) := by decide +kernel
theorem dR_check_34 : decode cR_check 34 = .ok (.iinc 1 1, 3) := by decide +kernel
theorem dR_check_37 : decode cR_check 37 = .ok (.goto (-26), 3) := by decide +kernel
theorem dR_check_40 : decode cR_check 40 = .ok (.aload_n 0, 1) := by decide +kernel
theorem dR_check_41 : decode cR_check 41 = .ok (.invokevirtual 82, 3) := by decide +kernel
theorem dR_check_44 : decode cR_check 44 = .ok (.ifCond .eq 7, 3) := by decide +kernel
theorem dR_check_47 : decode cR_check 47 = .ok (.iconst 3, 1) := by decide +kernel
theorem dR_check_48 : decode cR_check 48 = .ok (.goto 4, 3) := by decide +kernel
theorem dR_check_51 : decode cR_check 51 = .ok (.iconst 0, 1) := by decide +kernel
theorem dR_check_52 : decode cR_check 52 = .ok (.ireturn, 1) := by decide +kernel
theorem dR_token_0 : decode cR_token 0 = .ok (.aload_n 0, 1) := by decide +kernel
theorem dR_token_1 : decode cR_token 1 = .ok (.getfield 22, 3) := by decide +kernel
theorem dR_token_4 : decode cR_token 4 = .ok (.iload_n 1, 1) := by decide +kernel
theorem dR_token_5 : decode cR_token 5 = .ok (.iaload, 1) := by decide +kernel
theorem dR_token_6 : decode cR_token 6 = .ok (.ifCond .eq 14, 3) := by decide +kernel
theorem dR_token_9 : decode cR_token 9 = .ok (.aload_n 0, 1) := by decide +kernel
theorem dR_token_10 : decode cR_token 10 = .ok (.aload_n 0, 1) := by decide +kernel
theorem dR_token_11 : decode cR_token 11 = .ok (.getfield 86, 3) := by decide +kernel
theorem dR_token_14 : decode cR_token 14 = .ok (.iconst 1, 1) := by decide +kernel
theorem dR_token_15 : decode cR_token 15 = .ok (.iadd, 1) := by decide +kernel
theorem dR_token_16 : decode cR_token 16 = .ok (.putfield 86, 3) := by decide +kernel
theorem dR_token_19 : decode cR_token 19 = .ok (.return_, 1) := by decide +kernel
theorem dR_token_20 : decode cR_token 20 = .ok (.aload_n 0, 1) := by decide +kernel
theorem dR_token_21 : decode cR_token 21 = .ok (.iload_n 1, 1) := by decide +kernel
theorem dR_token_22 : decode cR_token 22 = .ok (.iload_n 2, 1) := by decide +kernel
theorem dR_token_23 : decode cR_token 23 = .ok (.invokevirtual 89, 3) := by decide +kernel
theorem dR_token_26 : decode cR_token 26 = .ok (.return_, 1) := by decide +kernel
theorem dR_ready_0 : decode cR_ready 0 = .ok (.aload_n 0, 1) := by decide +kernel
theorem dR_ready_1 : decode cR_ready 1 = .ok (.getfield 22, 3) := by decide +kernel
theorem dR_ready_4 : decode cR_ready 4 = .ok (.iload_n 1, 1) := by decide +kernel
theorem dR_ready_5 : decode cR_ready 5 = .ok (.iconst 4, 1) := by decide +kernel
theorem dR_ready_6 : decode cR_ready 6 = .ok (.iastore, 1) := by decide +kernel
theorem dR_ready_7 : decode cR_ready 7 = .ok (.aload_n 0, 1) := by decide +kernel
theorem dR_ready_8 : decode cR_ready 8 = .ok (.getfield 25, 3) := by decide +kernel
theorem dR_ready_11 : decode cR_ready 11 = .ok (.iload_n 1, 1) := by decide +kernel
theorem dR_ready_12 : decode cR_ready 12 = .ok (.iload_n 2, 1) := by decide +kernel
theorem dR_ready_13 : decode cR_ready 13 = .ok (.iastore, 1) := by decide +kernel
theorem dR_ready_14 : decode cR_ready 14 = .ok (.aload_n 0, 1) := by decide +kernel
theorem dR_ready_15 : decode cR_ready 15 = .ok (.getfield 28, 3) := by decide +kernel
theorem dR_ready_18 : decode cR_ready 18 = .ok (.iload_n 1, 1) := by decide +kernel
theorem dR_ready_19 : decode cR_ready 19 = .ok (.aload_n 0, 1) := by decide +kernel
theorem dR_ready_20 : decode cR_ready 20 = .ok (.getfield 93, 3) := by decide +kernel
theorem dR_ready_23 : decode cR_ready 23 = .ok (.iastore, 1) := by decide +kernel
theorem dR_ready_24 : decode cR_ready 24 = .ok (.aload_n 0, 1) := by decide +kernel
theorem dR_ready_25 : decode cR_ready 25 = .ok (.aload_n 0, 1) := by decide +kernel
theorem dR_ready_26 : decode cR_ready 26 = .ok (.getfield 93, 3) := by decide +kernel
theorem dR_ready_29 : decode cR_ready 29 = .ok (.iconst 1, 1) := by decide +kernel
theorem dR_ready_30 : decode cR_ready 30 = .ok (.iadd, 1) := by decide +kernel
theorem dR_ready_31 : decode cR_ready 31 = .ok (.putfield 93, 3) := by decide +kernel
theorem dR_ready_34 : decode cR_ready 34 = .ok (.return_, 1) := by decide +kernel
theorem dR_wake_0 : decode cR_wake 0 = .ok (.iconst 0, 1) := by decide +kernel
theorem dR_wake_1 : decode cR_wake 1 = .ok (.istore_n 3, 1) := by decide +kernel
theorem dR_wake_2 : decode cR_wake 2 = .ok (.iload_n 3, 1) := by decide +kernel
theorem dR_wake_3 : decode cR_wake 3 = .ok (.aload_n 0, 1) := by decide +kernel
theorem dR_wake_4 : decode cR_wake 4 = .ok (.getfield 60, 3) := by decide +kernel
theorem dR_wake_7 : decode cR_wake 7 = .ok (.if_icmp .ge 35, 3) := by decide +kernel
theorem dR_wake_10 : decode cR_wake 10 = .ok (.aload_n 0, 1) := by decide +kernel
theorem dR_wake_11 : decode cR_wake 11 = .ok (.getfield 31, 3) := by decide +kernel
theorem dR_wake_14 : decode cR_wake 14 = .ok (.iload_n 3, 1) := by decide +kernel
theorem dR_wake_15 : decode cR_wake 15 = .ok (.aload_n 0, 1) := by decide +kernel
theorem dR_wake_16 : decode cR_wake 16 = .ok (.getfield 13, 3) := by decide +kernel
theorem dR_wake_19 : decode cR_wake 19 = .ok (.iload_n 3, 1) := by decide +kernel
theorem dR_wake_20 : decode cR_wake 20 = .ok (.iaload, 1) := by decide +kernel
theorem dR_wake_21 : decode cR_wake 21 = .ok (.iload_n 1, 1) := by decide +kernel
theorem dR_wake_22 : decode cR_wake 22 = .ok (.if_icmp .ne 7, 3) := by decide +kernel
theorem dR_wake_25 : decode cR_wake 25 = .ok (.iconst 0, 1) := by decide +kernel
theorem dR_wake_26 : decode cR_wake 26 = .ok (.goto 9, 3) := by decide +kernel
theorem dR_wake_29 : decode cR_wake 29 = .ok (.aload_n 0, 1) := by decide +kernel
theorem dR_wake_30 : decode cR_wake 30 = .ok (.getfield 31, 3) := by decide +kernel
theorem dR_wake_33 : decode cR_wake 33 = .ok (.iload_n 3, 1) := by decide +kernel
theorem dR_wake_34 : decode cR_wake 34 = .ok (.iaload, 1) := by decide +kernel
theorem dR_wake_35 : decode cR_wake 35 = .ok (.iastore, 1) := by decide +kernel
theorem dR_wake_36 : decode cR_wake 36 = .ok (.iinc 3 1, 3) := by decide +kernel
theorem dR_wake_39 : decode cR_wake 39 = .ok (.goto (-37), 3) := by decide +kernel
theorem dR_wake_42 : decode cR_wake 42 = .ok (.iconst 0, 1) := by decide +kernel
theorem dR_wake_43 : decode cR_wake 43 = .ok (.istore_n 3, 1) := by decide +kernel
theorem dR_wake_44 : decode cR_wake 44 = .ok (.iload_n 3, 1) := by decide +kernel
theorem dR_wake_45 : decode cR_wake 45 = .ok (.aload_n 0, 1) := by decide +kernel
theorem dR_wake_46 : decode cR_wake 46 = .ok (.getfield 60, 3) := by decide +kernel
theorem dR_wake_49 : decode cR_wake 49 = .ok (.if_icmp .ge 34, 3) := by decide +kernel
theorem dR_wake_52 : decode cR_wake 52 = .ok (.aload_n 0, 1) := by decide +kernel
theorem dR_wake_53 : decode cR_wake 53 = .ok (.getfield 13, 3) := by decide +kernel
theorem dR_wake_56 : decode cR_wake 56 = .ok (.iload_n 3, 1) := by decide +kernel
theorem dR_wake_57 : decode cR_wake 57 = .ok (.iaload, 1) := by decide +kernel
theorem dR_wake_58 : decode cR_wake 58 = .ok (.iload_n 1, 1) := by decide +kernel
theorem dR_wake_59 : decode cR_wake 59 = .ok (.if_icmp .ne 18, 3) := by decide +kernel
theorem dR_wake_62 : decode cR_wake 62 = .ok (.aload_n 0, 1) := by decide +kernel
theorem dR_wake_63 : decode cR_wake 63 = .ok (.iload_n 3, 1) := by decide +kernel
theorem dR_wake_64 : decode cR_wake 64 = .ok (.iconst 0, 1) := by decide +kernel
theorem dR_wake_65 : decode cR_wake 65 = .ok (.invokevirtual 75, 3) := by decide +kernel
theorem dR_wake_68 : decode cR_wake 68 = .ok (.ifCond .ne 9, 3) := by decide +kernel
theorem dR_wake_71 : decode cR_wake 71 = .ok (.aload_n 0, 1) := by decide +kernel
theorem dR_wake_72 : decode cR_wake 72 = .ok (.iload_n 3, 1) := by decide +kernel
theorem dR_wake_73 : decode cR_wake 73 = .ok (.iload_n 2, 1) := by decide +kernel
theorem dR_wake_74 : decode cR_wake 74 = .ok (.invokevirtual 96, 3) := by decide +kernel
theorem dR_wake_77 : decode cR_wake 77 = .ok (.iinc 3 1, 3) := by decide +kernel
theorem dR_wake_80 : decode cR_wake 80 = .ok (.goto (-36), 3) := by decide +kernel
theorem dR_wake_83 : decode cR_wake 83 = .ok (.return_, 1) := by decide +kernel
theorem dR_nextRound_0 : decode cR_nextRound 0 = .ok (.aload_n 0, 1) := by decide +kernel
theorem dR_nextRound_1 : decode cR_nextRound 1 = .ok (.aload_n 0, 1) := by decide +kernel
theorem dR_nextRound_2 : decode cR_nextRound 2 = .ok (.getfield 99, 3) := by decide +kernel
theorem dR_nextRound_5 : decode cR_nextRound 5 = .ok (.iconst 1, 1) := by decide +kernel
theorem dR_nextRound_6 : decode cR_nextRound 6 = .ok (.iadd, 1) := by decide +kernel
theorem dR_nextRound_7 : decode cR_nextRound 7 = .ok (.putfield 99, 3) := by decide +kernel
