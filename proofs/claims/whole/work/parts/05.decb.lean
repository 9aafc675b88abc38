theorem dX5_reason_47 : decode cX5_reason 47 = .ok (.iconst 3, 1) := by decide +kernel
theorem dX5_reason_48 : decode cX5_reason 48 = .ok (.goto 4, 3) := by decide +kernel
theorem dX5_reason_51 : decode cX5_reason 51 = .ok (.iconst 0, 1) := by decide +kernel
theorem dX5_reason_52 : decode cX5_reason 52 = .ok (.ireturn, 1) := by decide +kernel
theorem dX5_goesAhead_0 : decode cX5_goesAhead 0 = .ok (.aload_n 0, 1) := by decide +kernel
theorem dX5_goesAhead_1 : decode cX5_goesAhead 1 = .ok (.getfield 7, 3) := by decide +kernel
theorem dX5_goesAhead_4 : decode cX5_goesAhead 4 = .ok (.aload_n 0, 1) := by decide +kernel
theorem dX5_goesAhead_5 : decode cX5_goesAhead 5 = .ok (.iload_n 1, 1) := by decide +kernel
theorem dX5_goesAhead_6 : decode cX5_goesAhead 6 = .ok (.iconst 0, 1) := by decide +kernel
theorem dX5_goesAhead_7 : decode cX5_goesAhead 7 = .ok (.invokevirtual 51, 3) := by decide +kernel
theorem dX5_goesAhead_10 : decode cX5_goesAhead 10 = .ok (.iconst 3, 1) := by decide +kernel
theorem dX5_goesAhead_11 : decode cX5_goesAhead 11 = .ok (.iadd, 1) := by decide +kernel
theorem dX5_goesAhead_12 : decode cX5_goesAhead 12 = .ok (.iaload, 1) := by decide +kernel
theorem dX5_goesAhead_13 : decode cX5_goesAhead 13 = .ok (.istore_n 3, 1) := by decide +kernel
theorem dX5_goesAhead_14 : decode cX5_goesAhead 14 = .ok (.aload_n 0, 1) := by decide +kernel
theorem dX5_goesAhead_15 : decode cX5_goesAhead 15 = .ok (.getfield 7, 3) := by decide +kernel
theorem dX5_goesAhead_18 : decode cX5_goesAhead 18 = .ok (.aload_n 0, 1) := by decide +kernel
theorem dX5_goesAhead_19 : decode cX5_goesAhead 19 = .ok (.iload_n 2, 1) := by decide +kernel
theorem dX5_goesAhead_20 : decode cX5_goesAhead 20 = .ok (.iconst 0, 1) := by decide +kernel
theorem dX5_goesAhead_21 : decode cX5_goesAhead 21 = .ok (.invokevirtual 51, 3) := by decide +kernel
theorem dX5_goesAhead_24 : decode cX5_goesAhead 24 = .ok (.iconst 3, 1) := by decide +kernel
theorem dX5_goesAhead_25 : decode cX5_goesAhead 25 = .ok (.iadd, 1) := by decide +kernel
theorem dX5_goesAhead_26 : decode cX5_goesAhead 26 = .ok (.iaload, 1) := by decide +kernel
theorem dX5_goesAhead_27 : decode cX5_goesAhead 27 = .ok (.istore 4, 2) := by decide +kernel
theorem dX5_goesAhead_29 : decode cX5_goesAhead 29 = .ok (.iload_n 3, 1) := by decide +kernel
theorem dX5_goesAhead_30 : decode cX5_goesAhead 30 = .ok (.iload 4, 2) := by decide +kernel
theorem dX5_goesAhead_32 : decode cX5_goesAhead 32 = .ok (.if_icmp .eq 15, 3) := by decide +kernel
theorem dX5_goesAhead_35 : decode cX5_goesAhead 35 = .ok (.iload_n 3, 1) := by decide +kernel
theorem dX5_goesAhead_36 : decode cX5_goesAhead 36 = .ok (.iload 4, 2) := by decide +kernel
theorem dX5_goesAhead_38 : decode cX5_goesAhead 38 = .ok (.if_icmp .ge 7, 3) := by decide +kernel
theorem dX5_goesAhead_41 : decode cX5_goesAhead 41 = .ok (.iconst 1, 1) := by decide +kernel
theorem dX5_goesAhead_42 : decode cX5_goesAhead 42 = .ok (.goto 4, 3) := by decide +kernel
theorem dX5_goesAhead_45 : decode cX5_goesAhead 45 = .ok (.iconst 0, 1) := by decide +kernel
theorem dX5_goesAhead_46 : decode cX5_goesAhead 46 = .ok (.ireturn, 1) := by decide +kernel
theorem dX5_goesAhead_47 : decode cX5_goesAhead 47 = .ok (.aload_n 0, 1) := by decide +kernel
theorem dX5_goesAhead_48 : decode cX5_goesAhead 48 = .ok (.iload_n 1, 1) := by decide +kernel
theorem dX5_goesAhead_49 : decode cX5_goesAhead 49 = .ok (.invokevirtual 64, 3) := by decide +kernel
theorem dX5_goesAhead_52 : decode cX5_goesAhead 52 = .ok (.aload_n 0, 1) := by decide +kernel
theorem dX5_goesAhead_53 : decode cX5_goesAhead 53 = .ok (.iload_n 2, 1) := by decide +kernel
theorem dX5_goesAhead_54 : decode cX5_goesAhead 54 = .ok (.invokevirtual 64, 3) := by decide +kernel
theorem dX5_goesAhead_57 : decode cX5_goesAhead 57 = .ok (.if_icmp .eq 24, 3) := by decide +kernel
theorem dX5_goesAhead_60 : decode cX5_goesAhead 60 = .ok (.aload_n 0, 1) := by decide +kernel
theorem dX5_goesAhead_61 : decode cX5_goesAhead 61 = .ok (.iload_n 1, 1) := by decide +kernel
theorem dX5_goesAhead_62 : decode cX5_goesAhead 62 = .ok (.invokevirtual 64, 3) := by decide +kernel
theorem dX5_goesAhead_65 : decode cX5_goesAhead 65 = .ok (.aload_n 0, 1) := by decide +kernel
theorem dX5_goesAhead_66 : decode cX5_goesAhead 66 = .ok (.iload_n 2, 1) := by decide +kernel
theorem dX5_goesAhead_67 : decode cX5_goesAhead 67 = .ok (.invokevirtual 64, 3) := by decide +kernel
theorem dX5_goesAhead_70 : decode cX5_goesAhead 70 = .ok (.if_icmp .le 7, 3) := by decide +kernel
theorem dX5_goesAhead_73 : decode cX5_goesAhead 73 = .ok (.iconst 1, 1) := by decide +kernel
theorem dX5_goesAhead_74 : decode cX5_goesAhead 74 = .ok (.goto 17, 3) := by decide +kernel
theorem dX5_goesAhead_77 : decode cX5_goesAhead 77 = .ok (.iconst 0, 1) := by decide +kernel
theorem dX5_goesAhead_78 : decode cX5_goesAhead 78 = .ok (.goto 13, 3) := by decide +kernel
theorem dX5_goesAhead_81 : decode cX5_goesAhead 81 = .ok (.iload_n 1, 1) := by decide +kernel
theorem dX5_goesAhead_82 : decode cX5_goesAhead 82 = .ok (.iload_n 2, 1) := by decide +kernel
theorem dX5_goesAhead_83 : decode cX5_goesAhead 83 = .ok (.if_icmp .ge 7, 3) := by decide +kernel
theorem dX5_goesAhead_86 : decode cX5_goesAhead 86 = .ok (.iconst 1, 1) := by decide +kernel
theorem dX5_goesAhead_87 : decode cX5_goesAhead 87 = .ok (.goto 4, 3) := by decide +kernel
theorem dX5_goesAhead_90 : decode cX5_goesAhead 90 = .ok (.iconst 0, 1) := by decide +kernel
theorem dX5_goesAhead_91 : decode cX5_goesAhead 91 = .ok (.ireturn, 1) := by decide +kernel
theorem dX5_rankOf_0 : decode cX5_rankOf 0 = .ok (.aload_n 0, 1) := by decide +kernel
theorem dX5_rankOf_1 : decode cX5_rankOf 1 = .ok (.iload_n 1, 1) := by decide +kernel
theorem dX5_rankOf_2 : decode cX5_rankOf 2 = .ok (.invokevirtual 67, 3) := by decide +kernel
theorem dX5_rankOf_5 : decode cX5_rankOf 5 = .ok (.ifCond .le 5, 3) := by decide +kernel
theorem dX5_rankOf_8 : decode cX5_rankOf 8 = .ok (.iconst (-1), 1) := by decide +kernel
theorem dX5_rankOf_9 : decode cX5_rankOf 9 = .ok (.ireturn, 1) := by decide +kernel
theorem dX5_rankOf_10 : decode cX5_rankOf 10 = .ok (.iconst 0, 1) := by decide +kernel
theorem dX5_rankOf_11 : decode cX5_rankOf 11 = .ok (.istore_n 2, 1) := by decide +kernel
theorem dX5_rankOf_12 : decode cX5_rankOf 12 = .ok (.iconst 0, 1) := by decide +kernel
theorem dX5_rankOf_13 : decode cX5_rankOf 13 = .ok (.istore_n 3, 1) := by decide +kernel
theorem dX5_rankOf_14 : decode cX5_rankOf 14 = .ok (.iload_n 3, 1) := by decide +kernel
theorem dX5_rankOf_15 : decode cX5_rankOf 15 = .ok (.iconst 5, 1) := by decide +kernel
theorem dX5_rankOf_16 : decode cX5_rankOf 16 = .ok (.if_icmp .ge 39, 3) := by decide +kernel
theorem dX5_rankOf_19 : decode cX5_rankOf 19 = .ok (.iload_n 2, 1) := by decide +kernel
theorem dX5_rankOf_20 : decode cX5_rankOf 20 = .ok (.iload_n 3, 1) := by decide +kernel
theorem dX5_rankOf_21 : decode cX5_rankOf 21 = .ok (.iload_n 1, 1) := by decide +kernel
theorem dX5_rankOf_22 : decode cX5_rankOf 22 = .ok (.if_icmp .eq 24, 3) := by decide +kernel
theorem dX5_rankOf_25 : decode cX5_rankOf 25 = .ok (.aload_n 0, 1) := by decide +kernel
theorem dX5_rankOf_26 : decode cX5_rankOf 26 = .ok (.iload_n 3, 1) := by decide +kernel
theorem dX5_rankOf_27 : decode cX5_rankOf 27 = .ok (.invokevirtual 67, 3) := by decide +kernel
theorem dX5_rankOf_30 : decode cX5_rankOf 30 = .ok (.ifCond .ne 16, 3) := by decide +kernel
theorem dX5_rankOf_33 : decode cX5_rankOf 33 = .ok (.aload_n 0, 1) := by decide +kernel
theorem dX5_rankOf_34 : decode cX5_rankOf 34 = .ok (.iload_n 3, 1) := by decide +kernel
theorem dX5_rankOf_35 : decode cX5_rankOf 35 = .ok (.iload_n 1, 1) := by decide +kernel
theorem dX5_rankOf_36 : decode cX5_rankOf 36 = .ok (.invokevirtual 70, 3) := by decide +kernel
theorem dX5_rankOf_39 : decode cX5_rankOf 39 = .ok (.ifCond .eq 7, 3) := by decide +kernel
theorem dX5_rankOf_42 : decode cX5_rankOf 42 = .ok (.iconst 1, 1) := by decide +kernel
theorem dX5_rankOf_43 : decode cX5_rankOf 43 = .ok (.goto 4, 3) := by decide +kernel
theorem dX5_rankOf_46 : decode cX5_rankOf 46 = .ok (.iconst 0, 1) := by decide +kernel
theorem dX5_rankOf_47 : decode cX5_rankOf 47 = .ok (.iadd, 1) := by decide +kernel
theorem dX5_rankOf_48 : decode cX5_rankOf 48 = .ok (.istore_n 2, 1) := by decide +kernel
theorem dX5_rankOf_49 : decode cX5_rankOf 49 = .ok (.iinc 3 1, 3) := by decide +kernel
theorem dX5_rankOf_52 : decode cX5_rankOf 52 = .ok (.goto (-38), 3) := by decide +kernel
theorem dX5_rankOf_55 : decode cX5_rankOf 55 = .ok (.iload_n 2, 1) := by decide +kernel
theorem dX5_rankOf_56 : decode cX5_rankOf 56 = .ok (.ireturn, 1) := by decide +kernel
theorem dX5_ranked_0 : decode cX5_ranked 0 = .ok (.iconst 0, 1) := by decide +kernel
theorem dX5_ranked_1 : decode cX5_ranked 1 = .ok (.istore_n 2, 1) := by decide +kernel
theorem dX5_ranked_2 : decode cX5_ranked 2 = .ok (.iload_n 2, 1) := by decide +kernel
theorem dX5_ranked_3 : decode cX5_ranked 3 = .ok (.iconst 5, 1) := by decide +kernel
theorem dX5_ranked_4 : decode cX5_ranked 4 = .ok (.if_icmp .ge 20, 3) := by decide +kernel
theorem dX5_ranked_7 : decode cX5_ranked 7 = .ok (.aload_n 0, 1) := by decide +kernel
theorem dX5_ranked_8 : decode cX5_ranked 8 = .ok (.iload_n 2, 1) := by decide +kernel
theorem dX5_ranked_9 : decode cX5_ranked 9 = .ok (.invokevirtual 74, 3) := by decide +kernel
theorem dX5_ranked_12 : decode cX5_ranked 12 = .ok (.iload_n 1, 1) := by decide +kernel
theorem dX5_ranked_13 : decode cX5_ranked 13 = .ok (.if_icmp .ne 5, 3) := by decide +kernel
theorem dX5_ranked_16 : decode cX5_ranked 16 = .ok (.iload_n 2, 1) := by decide +kernel
theorem dX5_ranked_17 : decode cX5_ranked 17 = .ok (.ireturn, 1) := by decide +kernel
theorem dX5_ranked_18 : decode cX5_ranked 18 = .ok (.iinc 2 1, 3) := by decide +kernel
theorem dX5_ranked_21 : decode cX5_ranked 21 = .ok (.goto (-19), 3) := by decide +kernel
theorem dX5_ranked_24 : decode cX5_ranked 24 = .ok (.iconst (-1), 1) := by decide +kernel
theorem dX5_ranked_25 : decode cX5_ranked 25 = .ok (.ireturn, 1) := by decide +kernel
theorem dX5_turn_0 : decode cX5_turn 0 = .ok (.aload_n 0, 1) := by decide +kernel
theorem dX5_turn_1 : decode cX5_turn 1 = .ok (.iload_n 1, 1) := by decide +kernel
theorem dX5_turn_2 : decode cX5_turn 2 = .ok (.invokevirtual 64, 3) := by decide +kernel
theorem dX5_turn_5 : decode cX5_turn 5 = .ok (.aload_n 0, 1) := by decide +kernel
theorem dX5_turn_6 : decode cX5_turn 6 = .ok (.iload_n 1, 1) := by decide +kernel
theorem dX5_turn_7 : decode cX5_turn 7 = .ok (.iconst 5, 1) := by decide +kernel
theorem dX5_turn_8 : decode cX5_turn 8 = .ok (.invokevirtual 47, 3) := by decide +kernel
theorem dX5_turn_11 : decode cX5_turn 11 = .ok (.imul, 1) := by decide +kernel
theorem dX5_turn_12 : decode cX5_turn 12 = .ok (.aload_n 0, 1) := by decide +kernel
theorem dX5_turn_13 : decode cX5_turn 13 = .ok (.iload_n 1, 1) := by decide +kernel
theorem dX5_turn_14 : decode cX5_turn 14 = .ok (.bipush 6, 2) := by decide +kernel
theorem dX5_turn_16 : decode cX5_turn 16 = .ok (.invokevirtual 47, 3) := by decide +kernel
theorem dX5_turn_19 : decode cX5_turn 19 = .ok (.idiv, 1) := by decide +kernel
theorem dX5_turn_20 : decode cX5_turn 20 = .ok (.istore_n 2, 1) := by decide +kernel
theorem dX5_turn_21 : decode cX5_turn 21 = .ok (.aload_n 0, 1) := by decide +kernel
theorem dX5_turn_22 : decode cX5_turn 22 = .ok (.iload_n 1, 1) := by decide +kernel
theorem dX5_turn_23 : decode cX5_turn 23 = .ok (.iconst 1, 1) := by decide +kernel
theorem dX5_turn_24 : decode cX5_turn 24 = .ok (.aload_n 0, 1) := by decide +kernel
theorem dX5_turn_25 : decode cX5_turn 25 = .ok (.getfield 7, 3) := by decide +kernel
theorem dX5_turn_28 : decode cX5_turn 28 = .ok (.bipush 11, 2) := by decide +kernel
theorem dX5_turn_30 : decode cX5_turn 30 = .ok (.iaload, 1) := by decide +kernel
theorem dX5_turn_31 : decode cX5_turn 31 = .ok (.ineg, 1) := by decide +kernel
theorem dX5_turn_32 : decode cX5_turn 32 = .ok (.invokevirtual 57, 3) := by decide +kernel
theorem dX5_turn_35 : decode cX5_turn 35 = .ok (.aload_n 0, 1) := by decide +kernel
theorem dX5_turn_36 : decode cX5_turn 36 = .ok (.iload_n 1, 1) := by decide +kernel
theorem dX5_turn_37 : decode cX5_turn 37 = .ok (.bipush 7, 2) := by decide +kernel
theorem dX5_turn_39 : decode cX5_turn 39 = .ok (.iconst 1, 1) := by decide +kernel
theorem dX5_turn_40 : decode cX5_turn 40 = .ok (.invokevirtual 57, 3) := by decide +kernel
theorem dX5_turn_43 : decode cX5_turn 43 = .ok (.aload_n 0, 1) := by decide +kernel
theorem dX5_turn_44 : decode cX5_turn 44 = .ok (.getfield 7, 3) := by decide +kernel
theorem dX5_turn_47 : decode cX5_turn 47 = .ok (.iconst 4, 1) := by decide +kernel
theorem dX5_turn_48 : decode cX5_turn 48 = .ok (.dup2, 1) := by decide +kernel
theorem dX5_turn_49 : decode cX5_turn 49 = .ok (.iaload, 1) := by decide +kernel
theorem dX5_turn_50 : decode cX5_turn 50 = .ok (.aload_n 0, 1) := by decide +kernel
theorem dX5_turn_51 : decode cX5_turn 51 = .ok (.getfield 7, 3) := by decide +kernel
theorem dX5_turn_54 : decode cX5_turn 54 = .ok (.bipush 11, 2) := by decide +kernel
theorem dX5_turn_56 : decode cX5_turn 56 = .ok (.iaload, 1) := by decide +kernel
theorem dX5_turn_57 : decode cX5_turn 57 = .ok (.iadd, 1) := by decide +kernel
theorem dX5_turn_58 : decode cX5_turn 58 = .ok (.iastore, 1) := by decide +kernel
theorem dX5_turn_59 : decode cX5_turn 59 = .ok (.aload_n 0, 1) := by decide +kernel
theorem dX5_turn_60 : decode cX5_turn 60 = .ok (.iload_n 1, 1) := by decide +kernel
theorem dX5_turn_61 : decode cX5_turn 61 = .ok (.bipush 9, 2) := by decide +kernel
theorem dX5_turn_63 : decode cX5_turn 63 = .ok (.invokevirtual 47, 3) := by decide +kernel
theorem dX5_turn_66 : decode cX5_turn 66 = .ok (.ifCond .le 101, 3) := by decide +kernel
theorem dX5_turn_69 : decode cX5_turn 69 = .ok (.iload_n 2, 1) := by decide +kernel
theorem dX5_turn_70 : decode cX5_turn 70 = .ok (.aload_n 0, 1) := by decide +kernel
theorem dX5_turn_71 : decode cX5_turn 71 = .ok (.getfield 7, 3) := by decide +kernel
theorem dX5_turn_74 : decode cX5_turn 74 = .ok (.aload_n 0, 1) := by decide +kernel
theorem dX5_turn_75 : decode cX5_turn 75 = .ok (.iload_n 1, 1) := by decide +kernel
theorem dX5_turn_76 : decode cX5_turn 76 = .ok (.iconst 0, 1) := by decide +kernel
theorem dX5_turn_77 : decode cX5_turn 77 = .ok (.invokevirtual 51, 3) := by decide +kernel
theorem dX5_turn_80 : decode cX5_turn 80 = .ok (.iconst 2, 1) := by decide +kernel
theorem dX5_turn_81 : decode cX5_turn 81 = .ok (.iadd, 1) := by decide +kernel
theorem dX5_turn_82 : decode cX5_turn 82 = .ok (.iaload, 1) := by decide +kernel
theorem dX5_turn_83 : decode cX5_turn 83 = .ok (.if_icmp .lt 84, 3) := by decide +kernel
theorem dX5_turn_86 : decode cX5_turn 86 = .ok (.iload_n 2, 1) := by decide +kernel
theorem dX5_turn_87 : decode cX5_turn 87 = .ok (.aload_n 0, 1) := by decide +kernel
theorem dX5_turn_88 : decode cX5_turn 88 = .ok (.getfield 7, 3) := by decide +kernel
theorem dX5_turn_91 : decode cX5_turn 91 = .ok (.aload_n 0, 1) := by decide +kernel
theorem dX5_turn_92 : decode cX5_turn 92 = .ok (.iload_n 1, 1) := by decide +kernel
theorem dX5_turn_93 : decode cX5_turn 93 = .ok (.iconst 0, 1) := by decide +kernel
theorem dX5_turn_94 : decode cX5_turn 94 = .ok (.invokevirtual 51, 3) := by decide +kernel
theorem dX5_turn_97 : decode cX5_turn 97 = .ok (.iconst 2, 1) := by decide +kernel
theorem dX5_turn_98 : decode cX5_turn 98 = .ok (.iadd, 1) := by decide +kernel
theorem dX5_turn_99 : decode cX5_turn 99 = .ok (.iaload, 1) := by decide +kernel
theorem dX5_turn_100 : decode cX5_turn 100 = .ok (.isub, 1) := by decide +kernel
theorem dX5_turn_101 : decode cX5_turn 101 = .ok (.istore_n 2, 1) := by decide +kernel
theorem dX5_turn_102 : decode cX5_turn 102 = .ok (.aload_n 0, 1) := by decide +kernel
theorem dX5_turn_103 : decode cX5_turn 103 = .ok (.getfield 7, 3) := by decide +kernel
theorem dX5_turn_106 : decode cX5_turn 106 = .ok (.bipush 6, 2) := by decide +kernel
theorem dX5_turn_108 : decode cX5_turn 108 = .ok (.dup2, 1) := by decide +kernel
theorem dX5_turn_109 : decode cX5_turn 109 = .ok (.iaload, 1) := by decide +kernel
theorem dX5_turn_110 : decode cX5_turn 110 = .ok (.iconst 1, 1) := by decide +kernel
theorem dX5_turn_111 : decode cX5_turn 111 = .ok (.iadd, 1) := by decide +kernel
theorem dX5_turn_112 : decode cX5_turn 112 = .ok (.iastore, 1) := by decide +kernel
theorem dX5_turn_113 : decode cX5_turn 113 = .ok (.aload_n 0, 1) := by decide +kernel
theorem dX5_turn_114 : decode cX5_turn 114 = .ok (.getfield 7, 3) := by decide +kernel
theorem dX5_turn_117 : decode cX5_turn 117 = .ok (.bipush 7, 2) := by decide +kernel
theorem dX5_turn_119 : decode cX5_turn 119 = .ok (.dup2, 1) := by decide +kernel
theorem dX5_turn_120 : decode cX5_turn 120 = .ok (.iaload, 1) := by decide +kernel
theorem dX5_turn_121 : decode cX5_turn 121 = .ok (.aload_n 0, 1) := by decide +kernel
theorem dX5_turn_122 : decode cX5_turn 122 = .ok (.getfield 7, 3) := by decide +kernel
theorem dX5_turn_125 : decode cX5_turn 125 = .ok (.iconst 0, 1) := by decide +kernel
theorem dX5_turn_126 : decode cX5_turn 126 = .ok (.iaload, 1) := by decide +kernel
theorem dX5_turn_127 : decode cX5_turn 127 = .ok (.aload_n 0, 1) := by decide +kernel
theorem dX5_turn_128 : decode cX5_turn 128 = .ok (.getfield 7, 3) := by decide +kernel
theorem dX5_turn_131 : decode cX5_turn 131 = .ok (.aload_n 0, 1) := by decide +kernel
theorem dX5_turn_132 : decode cX5_turn 132 = .ok (.iload_n 1, 1) := by decide +kernel
theorem dX5_turn_133 : decode cX5_turn 133 = .ok (.iconst 0, 1) := by decide +kernel
theorem dX5_turn_134 : decode cX5_turn 134 = .ok (.invokevirtual 51, 3) := by decide +kernel
theorem dX5_turn_137 : decode cX5_turn 137 = .ok (.iconst 3, 1) := by decide +kernel
theorem dX5_turn_138 : decode cX5_turn 138 = .ok (.iadd, 1) := by decide +kernel
theorem dX5_turn_139 : decode cX5_turn 139 = .ok (.iaload, 1) := by decide +kernel
theorem dX5_turn_140 : decode cX5_turn 140 = .ok (.if_icmp .le 7, 3) := by decide +kernel
theorem dX5_turn_143 : decode cX5_turn 143 = .ok (.iconst 1, 1) := by decide +kernel
theorem dX5_turn_144 : decode cX5_turn 144 = .ok (.goto 4, 3) := by decide +kernel
theorem dX5_turn_147 : decode cX5_turn 147 = .ok (.iconst 0, 1) := by decide +kernel
theorem dX5_turn_148 : decode cX5_turn 148 = .ok (.iadd, 1) := by decide +kernel
theorem dX5_turn_149 : decode cX5_turn 149 = .ok (.iastore, 1) := by decide +kernel
theorem dX5_turn_150 : decode cX5_turn 150 = .ok (.aload_n 0, 1) := by decide +kernel
theorem dX5_turn_151 : decode cX5_turn 151 = .ok (.iload_n 1, 1) := by decide +kernel
theorem dX5_turn_152 : decode cX5_turn 152 = .ok (.bipush 8, 2) := by decide +kernel
theorem dX5_turn_154 : decode cX5_turn 154 = .ok (.iconst 1, 1) := by decide +kernel
theorem dX5_turn_155 : decode cX5_turn 155 = .ok (.invokevirtual 57, 3) := by decide +kernel
theorem dX5_turn_158 : decode cX5_turn 158 = .ok (.aload_n 0, 1) := by decide +kernel
theorem dX5_turn_159 : decode cX5_turn 159 = .ok (.iload_n 1, 1) := by decide +kernel
theorem dX5_turn_160 : decode cX5_turn 160 = .ok (.iconst 0, 1) := by decide +kernel
theorem dX5_turn_161 : decode cX5_turn 161 = .ok (.invokevirtual 77, 3) := by decide +kernel
theorem dX5_turn_164 : decode cX5_turn 164 = .ok (.goto (-105), 3) := by decide +kernel
theorem dX5_turn_167 : decode cX5_turn 167 = .ok (.aload_n 0, 1) := by decide +kernel
theorem dX5_turn_168 : decode cX5_turn 168 = .ok (.iload_n 1, 1) := by decide +kernel
theorem dX5_turn_169 : decode cX5_turn 169 = .ok (.bipush 9, 2) := by decide +kernel
theorem dX5_turn_171 : decode cX5_turn 171 = .ok (.invokevirtual 47, 3) := by decide +kernel
theorem dX5_turn_174 : decode cX5_turn 174 = .ok (.ifCond .le 20, 3) := by decide +kernel
theorem dX5_turn_177 : decode cX5_turn 177 = .ok (.aload_n 0, 1) := by decide +kernel
theorem dX5_turn_178 : decode cX5_turn 178 = .ok (.getfield 7, 3) := by decide +kernel
theorem dX5_turn_181 : decode cX5_turn 181 = .ok (.aload_n 0, 1) := by decide +kernel
theorem dX5_turn_182 : decode cX5_turn 182 = .ok (.iload_n 1, 1) := by decide +kernel
theorem dX5_turn_183 : decode cX5_turn 183 = .ok (.iconst 0, 1) := by decide +kernel
theorem dX5_turn_184 : decode cX5_turn 184 = .ok (.invokevirtual 51, 3) := by decide +kernel
theorem dX5_turn_187 : decode cX5_turn 187 = .ok (.iconst 2, 1) := by decide +kernel
theorem dX5_turn_188 : decode cX5_turn 188 = .ok (.iadd, 1) := by decide +kernel
theorem dX5_turn_189 : decode cX5_turn 189 = .ok (.dup2, 1) := by decide +kernel
theorem dX5_turn_190 : decode cX5_turn 190 = .ok (.iaload, 1) := by decide +kernel
theorem dX5_turn_191 : decode cX5_turn 191 = .ok (.iload_n 2, 1) := by decide +kernel
theorem dX5_turn_192 : decode cX5_turn 192 = .ok (.isub, 1) := by decide +kernel
theorem dX5_turn_193 : decode cX5_turn 193 = .ok (.iastore, 1) := by decide +kernel
theorem dX5_turn_194 : decode cX5_turn 194 = .ok (.return_, 1) := by decide +kernel
theorem dX5_hour_0 : decode cX5_hour 0 = .ok (.aload_n 0, 1) := by decide +kernel
theorem dX5_hour_1 : decode cX5_hour 1 = .ok (.getfield 7, 3) := by decide +kernel
theorem dX5_hour_4 : decode cX5_hour 4 = .ok (.iconst 0, 1) := by decide +kernel
theorem dX5_hour_5 : decode cX5_hour 5 = .ok (.dup2, 1) := by decide +kernel
theorem dX5_hour_6 : decode cX5_hour 6 = .ok (.iaload, 1) := by decide +kernel
theorem dX5_hour_7 : decode cX5_hour 7 = .ok (.iconst 1, 1) := by decide +kernel
theorem dX5_hour_8 : decode cX5_hour 8 = .ok (.iadd, 1) := by decide +kernel
theorem dX5_hour_9 : decode cX5_hour 9 = .ok (.iastore, 1) := by decide +kernel
theorem dX5_hour_10 : decode cX5_hour 10 = .ok (.iconst 0, 1) := by decide +kernel
theorem dX5_hour_11 : decode cX5_hour 11 = .ok (.istore_n 1, 1) := by decide +kernel
theorem dX5_hour_12 : decode cX5_hour 12 = .ok (.iload_n 1, 1) := by decide +kernel
theorem dX5_hour_13 : decode cX5_hour 13 = .ok (.iconst 5, 1) := by decide +kernel
theorem dX5_hour_14 : decode cX5_hour 14 = .ok (.if_icmp .ge 14, 3) := by decide +kernel
theorem dX5_hour_17 : decode cX5_hour 17 = .ok (.aload_n 0, 1) := by decide +kernel
theorem dX5_hour_18 : decode cX5_hour 18 = .ok (.iload_n 1, 1) := by decide +kernel
theorem dX5_hour_19 : decode cX5_hour 19 = .ok (.invokevirtual 81, 3) := by decide +kernel
theorem dX5_hour_22 : decode cX5_hour 22 = .ok (.iinc 1 1, 3) := by decide +kernel
theorem dX5_hour_25 : decode cX5_hour 25 = .ok (.goto (-13), 3) := by decide +kernel
theorem dX5_hour_28 : decode cX5_hour 28 = .ok (.aload_n 0, 1) := by decide +kernel
theorem dX5_hour_29 : decode cX5_hour 29 = .ok (.iconst 0, 1) := by decide +kernel
theorem dX5_hour_30 : decode cX5_hour 30 = .ok (.invokevirtual 85, 3) := by decide +kernel
theorem dX5_hour_33 : decode cX5_hour 33 = .ok (.istore_n 1, 1) := by decide +kernel
theorem dX5_hour_34 : decode cX5_hour 34 = .ok (.aload_n 0, 1) := by decide +kernel
theorem dX5_hour_35 : decode cX5_hour 35 = .ok (.getfield 7, 3) := by decide +kernel
theorem dX5_hour_38 : decode cX5_hour 38 = .ok (.iconst 1, 1) := by decide +kernel
theorem dX5_hour_39 : decode cX5_hour 39 = .ok (.iload_n 1, 1) := by decide +kernel
theorem dX5_hour_40 : decode cX5_hour 40 = .ok (.iconst 1, 1) := by decide +kernel
theorem dX5_hour_41 : decode cX5_hour 41 = .ok (.iadd, 1) := by decide +kernel
theorem dX5_hour_42 : decode cX5_hour 42 = .ok (.iastore, 1) := by decide +kernel
theorem dX5_hour_43 : decode cX5_hour 43 = .ok (.iload_n 1, 1) := by decide +kernel
theorem dX5_hour_44 : decode cX5_hour 44 = .ok (.iconst (-1), 1) := by decide +kernel
theorem dX5_hour_45 : decode cX5_hour 45 = .ok (.if_icmp .ne 16, 3) := by decide +kernel
theorem dX5_hour_48 : decode cX5_hour 48 = .ok (.aload_n 0, 1) := by decide +kernel
theorem dX5_hour_49 : decode cX5_hour 49 = .ok (.getfield 7, 3) := by decide +kernel
theorem dX5_hour_52 : decode cX5_hour 52 = .ok (.iconst 2, 1) := by decide +kernel
theorem dX5_hour_53 : decode cX5_hour 53 = .ok (.dup2, 1) := by decide +kernel
theorem dX5_hour_54 : decode cX5_hour 54 = .ok (.iaload, 1) := by decide +kernel
theorem dX5_hour_55 : decode cX5_hour 55 = .ok (.iconst 1, 1) := by decide +kernel
theorem dX5_hour_56 : decode cX5_hour 56 = .ok (.iadd, 1) := by decide +kernel
theorem dX5_hour_57 : decode cX5_hour 57 = .ok (.iastore, 1) := by decide +kernel
theorem dX5_hour_58 : decode cX5_hour 58 = .ok (.goto 8, 3) := by decide +kernel
theorem dX5_hour_61 : decode cX5_hour 61 = .ok (.aload_n 0, 1) := by decide +kernel
theorem dX5_hour_62 : decode cX5_hour 62 = .ok (.iload_n 1, 1) := by decide +kernel
theorem dX5_hour_63 : decode cX5_hour 63 = .ok (.invokevirtual 88, 3) := by decide +kernel
theorem dX5_hour_66 : decode cX5_hour 66 = .ok (.return_, 1) := by decide +kernel
theorem dX5_hours_0 : decode cX5_hours 0 = .ok (.aload_n 0, 1) := by decide +kernel
theorem dX5_hours_1 : decode cX5_hours 1 = .ok (.getfield 7, 3) := by decide +kernel
theorem dX5_hours_4 : decode cX5_hours 4 = .ok (.bipush 6, 2) := by decide +kernel
theorem dX5_hours_6 : decode cX5_hours 6 = .ok (.iaload, 1) := by decide +kernel
theorem dX5_hours_7 : decode cX5_hours 7 = .ok (.istore_n 2, 1) := by decide +kernel
theorem dX5_hours_8 : decode cX5_hours 8 = .ok (.iconst 0, 1) := by decide +kernel
theorem dX5_hours_9 : decode cX5_hours 9 = .ok (.istore_n 3, 1) := by decide +kernel
theorem dX5_hours_10 : decode cX5_hours 10 = .ok (.iload_n 3, 1) := by decide +kernel
theorem dX5_hours_11 : decode cX5_hours 11 = .ok (.iload_n 1, 1) := by decide +kernel
theorem dX5_hours_12 : decode cX5_hours 12 = .ok (.if_icmp .ge 13, 3) := by decide +kernel
theorem dX5_hours_15 : decode cX5_hours 15 = .ok (.aload_n 0, 1) := by decide +kernel
theorem dX5_hours_16 : decode cX5_hours 16 = .ok (.invokevirtual 91, 3) := by decide +kernel
theorem dX5_hours_19 : decode cX5_hours 19 = .ok (.iinc 3 1, 3) := by decide +kernel
theorem dX5_hours_22 : decode cX5_hours 22 = .ok (.goto (-12), 3) := by decide +kernel
theorem dX5_hours_25 : decode cX5_hours 25 = .ok (.aload_n 0, 1) := by decide +kernel
theorem dX5_hours_26 : decode cX5_hours 26 = .ok (.getfield 7, 3) := by decide +kernel
theorem dX5_hours_29 : decode cX5_hours 29 = .ok (.bipush 6, 2) := by decide +kernel
theorem dX5_hours_31 : decode cX5_hours 31 = .ok (.iaload, 1) := by decide +kernel
theorem dX5_hours_32 : decode cX5_hours 32 = .ok (.iload_n 2, 1) := by decide +kernel
theorem dX5_hours_33 : decode cX5_hours 33 = .ok (.isub, 1) := by decide +kernel
theorem dX5_hours_34 : decode cX5_hours 34 = .ok (.ireturn, 1) := by decide +kernel
theorem dX5_pond_0 : decode cX5_pond 0 = .ok (.iload_n 2, 1) := by decide +kernel
theorem dX5_pond_1 : decode cX5_pond 1 = .ok (.bipush 50, 2) := by decide +kernel
theorem dX5_pond_3 : decode cX5_pond 3 = .ok (.sipush 500, 3) := by decide +kernel
theorem dX5_pond_6 : decode cX5_pond 6 = .ok (.invokestatic 36, 3) := by decide +kernel
theorem dX5_pond_9 : decode cX5_pond 9 = .ok (.ifCond .eq 17, 3) := by decide +kernel
theorem dX5_pond_12 : decode cX5_pond 12 = .ok (.iload_n 3, 1) := by decide +kernel
theorem dX5_pond_13 : decode cX5_pond 13 = .ok (.iconst 0, 1) := by decide +kernel
theorem dX5_pond_14 : decode cX5_pond 14 = .ok (.bipush 60, 2) := by decide +kernel
theorem dX5_pond_16 : decode cX5_pond 16 = .ok (.invokestatic 36, 3) := by decide +kernel
theorem dX5_pond_19 : decode cX5_pond 19 = .ok (.ifCond .eq 7, 3) := by decide +kernel
theorem dX5_pond_22 : decode cX5_pond 22 = .ok (.iconst 1, 1) := by decide +kernel
theorem dX5_pond_23 : decode cX5_pond 23 = .ok (.goto 4, 3) := by decide +kernel
theorem dX5_pond_26 : decode cX5_pond 26 = .ok (.iconst 0, 1) := by decide +kernel
theorem dX5_pond_27 : decode cX5_pond 27 = .ok (.istore 4, 2) := by decide +kernel
theorem dX5_pond_29 : decode cX5_pond 29 = .ok (.aload_n 0, 1) := by decide +kernel
theorem dX5_pond_30 : decode cX5_pond 30 = .ok (.iload_n 1, 1) := by decide +kernel
theorem dX5_pond_31 : decode cX5_pond 31 = .ok (.invokestatic 94, 3) := by decide +kernel
theorem dX5_pond_34 : decode cX5_pond 34 = .ok (.ifCond .ne 7, 3) := by decide +kernel
theorem dX5_pond_37 : decode cX5_pond 37 = .ok (.iconst 1, 1) := by decide +kernel
theorem dX5_pond_38 : decode cX5_pond 38 = .ok (.goto 27, 3) := by decide +kernel
theorem dX5_pond_41 : decode cX5_pond 41 = .ok (.iload 4, 2) := by decide +kernel
theorem dX5_pond_43 : decode cX5_pond 43 = .ok (.ifCond .ne 7, 3) := by decide +kernel
theorem dX5_pond_46 : decode cX5_pond 46 = .ok (.iconst 2, 1) := by decide +kernel
theorem dX5_pond_47 : decode cX5_pond 47 = .ok (.goto 18, 3) := by decide +kernel
theorem dX5_pond_50 : decode cX5_pond 50 = .ok (.aload_n 0, 1) := by decide +kernel
theorem dX5_pond_51 : decode cX5_pond 51 = .ok (.iload_n 1, 1) := by decide +kernel
theorem dX5_pond_52 : decode cX5_pond 52 = .ok (.iconst 1, 1) := by decide +kernel
theorem dX5_pond_53 : decode cX5_pond 53 = .ok (.invokevirtual 47, 3) := by decide +kernel
theorem dX5_pond_56 : decode cX5_pond 56 = .ok (.iload_n 2, 1) := by decide +kernel
theorem dX5_pond_57 : decode cX5_pond 57 = .ok (.if_icmp .le 7, 3) := by decide +kernel
theorem dX5_pond_60 : decode cX5_pond 60 = .ok (.iconst 3, 1) := by decide +kernel
theorem dX5_pond_61 : decode cX5_pond 61 = .ok (.goto 4, 3) := by decide +kernel
theorem dX5_pond_64 : decode cX5_pond 64 = .ok (.iconst 0, 1) := by decide +kernel
theorem dX5_pond_65 : decode cX5_pond 65 = .ok (.invokevirtual 98, 3) := by decide +kernel
theorem dX5_pond_68 : decode cX5_pond 68 = .ok (.ifCond .ne 5, 3) := by decide +kernel
theorem dX5_pond_71 : decode cX5_pond 71 = .ok (.iconst 0, 1) := by decide +kernel
theorem dX5_pond_72 : decode cX5_pond 72 = .ok (.ireturn, 1) := by decide +kernel
theorem dX5_pond_73 : decode cX5_pond 73 = .ok (.aload_n 0, 1) := by decide +kernel
theorem dX5_pond_74 : decode cX5_pond 74 = .ok (.invokevirtual 101, 3) := by decide +kernel
theorem dX5_pond_77 : decode cX5_pond 77 = .ok (.aload_n 0, 1) := by decide +kernel
theorem dX5_pond_78 : decode cX5_pond 78 = .ok (.iload_n 1, 1) := by decide +kernel
theorem dX5_pond_79 : decode cX5_pond 79 = .ok (.iconst 0, 1) := by decide +kernel
theorem dX5_pond_80 : decode cX5_pond 80 = .ok (.invokevirtual 47, 3) := by decide +kernel
theorem dX5_pond_83 : decode cX5_pond 83 = .ok (.istore 5, 2) := by decide +kernel
theorem dX5_pond_85 : decode cX5_pond 85 = .ok (.aload_n 0, 1) := by decide +kernel
theorem dX5_pond_86 : decode cX5_pond 86 = .ok (.iload_n 1, 1) := by decide +kernel
theorem dX5_pond_87 : decode cX5_pond 87 = .ok (.iconst 0, 1) := by decide +kernel
theorem dX5_pond_88 : decode cX5_pond 88 = .ok (.iload_n 2, 1) := by decide +kernel
theorem dX5_pond_89 : decode cX5_pond 89 = .ok (.invokevirtual 28, 3) := by decide +kernel
theorem dX5_pond_92 : decode cX5_pond 92 = .ok (.aload_n 0, 1) := by decide +kernel
theorem dX5_pond_93 : decode cX5_pond 93 = .ok (.iload_n 1, 1) := by decide +kernel
theorem dX5_pond_94 : decode cX5_pond 94 = .ok (.iconst 2, 1) := by decide +kernel
theorem dX5_pond_95 : decode cX5_pond 95 = .ok (.iload_n 3, 1) := by decide +kernel
theorem dX5_pond_96 : decode cX5_pond 96 = .ok (.invokevirtual 28, 3) := by decide +kernel
theorem dX5_pond_99 : decode cX5_pond 99 = .ok (.iload 5, 2) := by decide +kernel
theorem dX5_pond_101 : decode cX5_pond 101 = .ok (.ireturn, 1) := by decide +kernel
theorem dX5_gate_0 : decode cX5_gate 0 = .ok (.aload_n 0, 1) := by decide +kernel
theorem dX5_gate_1 : decode cX5_gate 1 = .ok (.iload_n 1, 1) := by decide +kernel
theorem dX5_gate_2 : decode cX5_gate 2 = .ok (.invokestatic 94, 3) := by decide +kernel
theorem dX5_gate_5 : decode cX5_gate 5 = .ok (.ifCond .ne 7, 3) := by decide +kernel
theorem dX5_gate_8 : decode cX5_gate 8 = .ok (.iconst 1, 1) := by decide +kernel
theorem dX5_gate_9 : decode cX5_gate 9 = .ok (.goto 28, 3) := by decide +kernel
theorem dX5_gate_12 : decode cX5_gate 12 = .ok (.iload_n 2, 1) := by decide +kernel
theorem dX5_gate_13 : decode cX5_gate 13 = .ok (.iconst 0, 1) := by decide +kernel
theorem dX5_gate_14 : decode cX5_gate 14 = .ok (.bipush 11, 2) := by decide +kernel
theorem dX5_gate_16 : decode cX5_gate 16 = .ok (.invokestatic 36, 3) := by decide +kernel
theorem dX5_gate_19 : decode cX5_gate 19 = .ok (.ifCond .eq 13, 3) := by decide +kernel
theorem dX5_gate_22 : decode cX5_gate 22 = .ok (.iload_n 3, 1) := by decide +kernel
theorem dX5_gate_23 : decode cX5_gate 23 = .ok (.iload_n 2, 1) := by decide +kernel
theorem dX5_gate_24 : decode cX5_gate 24 = .ok (.bipush 11, 2) := by decide +kernel
theorem dX5_gate_26 : decode cX5_gate 26 = .ok (.invokestatic 36, 3) := by decide +kernel
theorem dX5_gate_29 : decode cX5_gate 29 = .ok (.ifCond .ne 7, 3) := by decide +kernel
theorem dX5_gate_32 : decode cX5_gate 32 = .ok (.iconst 2, 1) := by decide +kernel
theorem dX5_gate_33 : decode cX5_gate 33 = .ok (.goto 4, 3) := by decide +kernel
theorem dX5_gate_36 : decode cX5_gate 36 = .ok (.iconst 0, 1) := by decide +kernel
theorem dX5_gate_37 : decode cX5_gate 37 = .ok (.invokevirtual 98, 3) := by decide +kernel
theorem dX5_gate_40 : decode cX5_gate 40 = .ok (.ifCond .ne 5, 3) := by decide +kernel
theorem dX5_gate_43 : decode cX5_gate 43 = .ok (.iconst 0, 1) := by decide +kernel
theorem dX5_gate_44 : decode cX5_gate 44 = .ok (.ireturn, 1) := by decide +kernel
theorem dX5_gate_45 : decode cX5_gate 45 = .ok (.aload_n 0, 1) := by decide +kernel
theorem dX5_gate_46 : decode cX5_gate 46 = .ok (.invokevirtual 101, 3) := by decide +kernel
theorem dX5_gate_49 : decode cX5_gate 49 = .ok (.aload_n 0, 1) := by decide +kernel
theorem dX5_gate_50 : decode cX5_gate 50 = .ok (.iload_n 1, 1) := by decide +kernel
theorem dX5_gate_51 : decode cX5_gate 51 = .ok (.iconst 4, 1) := by decide +kernel
theorem dX5_gate_52 : decode cX5_gate 52 = .ok (.invokevirtual 47, 3) := by decide +kernel
theorem dX5_gate_55 : decode cX5_gate 55 = .ok (.aload_n 0, 1) := by decide +kernel
theorem dX5_gate_56 : decode cX5_gate 56 = .ok (.iload_n 1, 1) := by decide +kernel
theorem dX5_gate_57 : decode cX5_gate 57 = .ok (.iconst 3, 1) := by decide +kernel
theorem dX5_gate_58 : decode cX5_gate 58 = .ok (.invokevirtual 47, 3) := by decide +kernel
theorem dX5_gate_61 : decode cX5_gate 61 = .ok (.isub, 1) := by decide +kernel
theorem dX5_gate_62 : decode cX5_gate 62 = .ok (.iconst 1, 1) := by decide +kernel
theorem dX5_gate_63 : decode cX5_gate 63 = .ok (.iadd, 1) := by decide +kernel
theorem dX5_gate_64 : decode cX5_gate 64 = .ok (.istore 4, 2) := by decide +kernel
theorem dX5_gate_66 : decode cX5_gate 66 = .ok (.aload_n 0, 1) := by decide +kernel
theorem dX5_gate_67 : decode cX5_gate 67 = .ok (.iload_n 1, 1) := by decide +kernel
theorem dX5_gate_68 : decode cX5_gate 68 = .ok (.iconst 3, 1) := by decide +kernel
theorem dX5_gate_69 : decode cX5_gate 69 = .ok (.iload_n 2, 1) := by decide +kernel
theorem dX5_gate_70 : decode cX5_gate 70 = .ok (.invokevirtual 28, 3) := by decide +kernel
theorem dX5_gate_73 : decode cX5_gate 73 = .ok (.aload_n 0, 1) := by decide +kernel
theorem dX5_gate_74 : decode cX5_gate 74 = .ok (.iload_n 1, 1) := by decide +kernel
theorem dX5_gate_75 : decode cX5_gate 75 = .ok (.iconst 4, 1) := by decide +kernel
theorem dX5_gate_76 : decode cX5_gate 76 = .ok (.iload_n 3, 1) := by decide +kernel
theorem dX5_gate_77 : decode cX5_gate 77 = .ok (.invokevirtual 28, 3) := by decide +kernel
theorem dX5_gate_80 : decode cX5_gate 80 = .ok (.iload 4, 2) := by decide +kernel
theorem dX5_gate_82 : decode cX5_gate 82 = .ok (.ireturn, 1) := by decide +kernel
theorem dX5_gears_0 : decode cX5_gears 0 = .ok (.aload_n 0, 1) := by decide +kernel
theorem dX5_gears_1 : decode cX5_gears 1 = .ok (.iload_n 1, 1) := by decide +kernel
theorem dX5_gears_2 : decode cX5_gears 2 = .ok (.iconst 5, 1) := by decide +kernel
theorem dX5_gears_3 : decode cX5_gears 3 = .ok (.iload_n 2, 1) := by decide +kernel
theorem dX5_gears_4 : decode cX5_gears 4 = .ok (.invokevirtual 28, 3) := by decide +kernel
theorem dX5_gears_7 : decode cX5_gears 7 = .ok (.aload_n 0, 1) := by decide +kernel
theorem dX5_gears_8 : decode cX5_gears 8 = .ok (.iload_n 1, 1) := by decide +kernel
theorem dX5_gears_9 : decode cX5_gears 9 = .ok (.bipush 6, 2) := by decide +kernel
theorem dX5_gears_11 : decode cX5_gears 11 = .ok (.iload_n 3, 1) := by decide +kernel
theorem dX5_gears_12 : decode cX5_gears 12 = .ok (.invokevirtual 28, 3) := by decide +kernel
theorem dX5_gears_15 : decode cX5_gears 15 = .ok (.bipush 100, 2) := by decide +kernel
theorem dX5_gears_17 : decode cX5_gears 17 = .ok (.iload_n 2, 1) := by decide +kernel
theorem dX5_gears_18 : decode cX5_gears 18 = .ok (.imul, 1) := by decide +kernel
theorem dX5_gears_19 : decode cX5_gears 19 = .ok (.iload_n 3, 1) := by decide +kernel
theorem dX5_gears_20 : decode cX5_gears 20 = .ok (.idiv, 1) := by decide +kernel
theorem dX5_gears_21 : decode cX5_gears 21 = .ok (.ireturn, 1) := by decide +kernel
theorem dX5_gear_0 : decode cX5_gear 0 = .ok (.aload_n 0, 1) := by decide +kernel
theorem dX5_gear_1 : decode cX5_gear 1 = .ok (.iload_n 1, 1) := by decide +kernel
theorem dX5_gear_2 : decode cX5_gear 2 = .ok (.invokestatic 94, 3) := by decide +kernel
theorem dX5_gear_5 : decode cX5_gear 5 = .ok (.ifCond .ne 7, 3) := by decide +kernel
theorem dX5_gear_8 : decode cX5_gear 8 = .ok (.iconst 1, 1) := by decide +kernel
theorem dX5_gear_9 : decode cX5_gear 9 = .ok (.goto 30, 3) := by decide +kernel
theorem dX5_gear_12 : decode cX5_gear 12 = .ok (.iload_n 2, 1) := by decide +kernel
theorem dX5_gear_13 : decode cX5_gear 13 = .ok (.bipush 8, 2) := by decide +kernel
theorem dX5_gear_15 : decode cX5_gear 15 = .ok (.bipush 60, 2) := by decide +kernel
theorem dX5_gear_17 : decode cX5_gear 17 = .ok (.invokestatic 36, 3) := by decide +kernel
theorem dX5_gear_20 : decode cX5_gear 20 = .ok (.ifCond .eq 14, 3) := by decide +kernel
theorem dX5_gear_23 : decode cX5_gear 23 = .ok (.iload_n 3, 1) := by decide +kernel
theorem dX5_gear_24 : decode cX5_gear 24 = .ok (.bipush 8, 2) := by decide +kernel
theorem dX5_gear_26 : decode cX5_gear 26 = .ok (.bipush 60, 2) := by decide +kernel
theorem dX5_gear_28 : decode cX5_gear 28 = .ok (.invokestatic 36, 3) := by decide +kernel
theorem dX5_gear_31 : decode cX5_gear 31 = .ok (.ifCond .ne 7, 3) := by decide +kernel
theorem dX5_gear_34 : decode cX5_gear 34 = .ok (.iconst 2, 1) := by decide +kernel
theorem dX5_gear_35 : decode cX5_gear 35 = .ok (.goto 4, 3) := by decide +kernel
theorem dX5_gear_38 : decode cX5_gear 38 = .ok (.iconst 0, 1) := by decide +kernel
theorem dX5_gear_39 : decode cX5_gear 39 = .ok (.invokevirtual 98, 3) := by decide +kernel
theorem dX5_gear_42 : decode cX5_gear 42 = .ok (.ifCond .ne 5, 3) := by decide +kernel
theorem dX5_gear_45 : decode cX5_gear 45 = .ok (.iconst 0, 1) := by decide +kernel
theorem dX5_gear_46 : decode cX5_gear 46 = .ok (.ireturn, 1) := by decide +kernel
theorem dX5_gear_47 : decode cX5_gear 47 = .ok (.aload_n 0, 1) := by decide +kernel
theorem dX5_gear_48 : decode cX5_gear 48 = .ok (.invokevirtual 101, 3) := by decide +kernel
theorem dX5_gear_51 : decode cX5_gear 51 = .ok (.aload_n 0, 1) := by decide +kernel
theorem dX5_gear_52 : decode cX5_gear 52 = .ok (.iload_n 1, 1) := by decide +kernel
theorem dX5_gear_53 : decode cX5_gear 53 = .ok (.iload_n 2, 1) := by decide +kernel
theorem dX5_gear_54 : decode cX5_gear 54 = .ok (.iload_n 3, 1) := by decide +kernel
theorem dX5_gear_55 : decode cX5_gear 55 = .ok (.invokevirtual 104, 3) := by decide +kernel
theorem dX5_gear_58 : decode cX5_gear 58 = .ok (.ireturn, 1) := by decide +kernel
theorem dX5_set_0 : decode cX5_set 0 = .ok (.iload_n 1, 1) := by decide +kernel
theorem dX5_set_1 : decode cX5_set 1 = .ok (.ifCond .ne 13, 3) := by decide +kernel
theorem dX5_set_4 : decode cX5_set 4 = .ok (.iload_n 2, 1) := by decide +kernel
theorem dX5_set_5 : decode cX5_set 5 = .ok (.iconst 1, 1) := by decide +kernel
theorem dX5_set_6 : decode cX5_set 6 = .ok (.bipush 15, 2) := by decide +kernel
theorem dX5_set_8 : decode cX5_set 8 = .ok (.invokestatic 36, 3) := by decide +kernel
theorem dX5_set_11 : decode cX5_set 11 = .ok (.goto 25, 3) := by decide +kernel
theorem dX5_set_14 : decode cX5_set 14 = .ok (.iload_n 1, 1) := by decide +kernel
theorem dX5_set_15 : decode cX5_set 15 = .ok (.iconst 1, 1) := by decide +kernel
theorem dX5_set_16 : decode cX5_set 16 = .ok (.if_icmp .ne 13, 3) := by decide +kernel
theorem dX5_set_19 : decode cX5_set 19 = .ok (.iload_n 2, 1) := by decide +kernel
theorem dX5_set_20 : decode cX5_set 20 = .ok (.iconst 0, 1) := by decide +kernel
theorem dX5_set_21 : decode cX5_set 21 = .ok (.bipush 100, 2) := by decide +kernel
theorem dX5_set_23 : decode cX5_set 23 = .ok (.invokestatic 36, 3) := by decide +kernel
theorem dX5_set_26 : decode cX5_set 26 = .ok (.goto 10, 3) := by decide +kernel
theorem dX5_set_29 : decode cX5_set 29 = .ok (.iload_n 2, 1) := by decide +kernel
theorem dX5_set_30 : decode cX5_set 30 = .ok (.iconst 5, 1) := by decide +kernel
theorem dX5_set_31 : decode cX5_set 31 = .ok (.bipush 100, 2) := by decide +kernel
theorem dX5_set_33 : decode cX5_set 33 = .ok (.invokestatic 36, 3) := by decide +kernel
theorem dX5_set_36 : decode cX5_set 36 = .ok (.istore_n 3, 1) := by decide +kernel
theorem dX5_set_37 : decode cX5_set 37 = .ok (.aload_n 0, 1) := by decide +kernel
theorem dX5_set_38 : decode cX5_set 38 = .ok (.iload_n 1, 1) := by decide +kernel
theorem dX5_set_39 : decode cX5_set 39 = .ok (.iconst 0, 1) := by decide +kernel
theorem dX5_set_40 : decode cX5_set 40 = .ok (.iconst 2, 1) := by decide +kernel
theorem dX5_set_41 : decode cX5_set 41 = .ok (.invokestatic 36, 3) := by decide +kernel
theorem dX5_set_44 : decode cX5_set 44 = .ok (.ifCond .ne 7, 3) := by decide +kernel
theorem dX5_set_47 : decode cX5_set 47 = .ok (.iconst 1, 1) := by decide +kernel
theorem dX5_set_48 : decode cX5_set 48 = .ok (.goto 12, 3) := by decide +kernel
theorem dX5_set_51 : decode cX5_set 51 = .ok (.iload_n 3, 1) := by decide +kernel
theorem dX5_set_52 : decode cX5_set 52 = .ok (.ifCond .ne 7, 3) := by decide +kernel
theorem dX5_set_55 : decode cX5_set 55 = .ok (.iconst 2, 1) := by decide +kernel
theorem dX5_set_56 : decode cX5_set 56 = .ok (.goto 4, 3) := by decide +kernel
theorem dX5_set_59 : decode cX5_set 59 = .ok (.iconst 0, 1) := by decide +kernel
theorem dX5_set_60 : decode cX5_set 60 = .ok (.invokevirtual 98, 3) := by decide +kernel
theorem dX5_set_63 : decode cX5_set 63 = .ok (.ifCond .ne 5, 3) := by decide +kernel
theorem dX5_set_66 : decode cX5_set 66 = .ok (.iconst 0, 1) := by decide +kernel
theorem dX5_set_67 : decode cX5_set 67 = .ok (.ireturn, 1) := by decide +kernel
theorem dX5_set_68 : decode cX5_set 68 = .ok (.aload_n 0, 1) := by decide +kernel
theorem dX5_set_69 : decode cX5_set 69 = .ok (.invokevirtual 101, 3) := by decide +kernel
theorem dX5_set_72 : decode cX5_set 72 = .ok (.aload_n 0, 1) := by decide +kernel
theorem dX5_set_73 : decode cX5_set 73 = .ok (.getfield 7, 3) := by decide +kernel
theorem dX5_set_76 : decode cX5_set 76 = .ok (.bipush 9, 2) := by decide +kernel
theorem dX5_set_78 : decode cX5_set 78 = .ok (.iload_n 1, 1) := by decide +kernel
theorem dX5_set_79 : decode cX5_set 79 = .ok (.iadd, 1) := by decide +kernel
theorem dX5_set_80 : decode cX5_set 80 = .ok (.iaload, 1) := by decide +kernel
theorem dX5_set_81 : decode cX5_set 81 = .ok (.istore 4, 2) := by decide +kernel
theorem dX5_set_83 : decode cX5_set 83 = .ok (.aload_n 0, 1) := by decide +kernel
theorem dX5_set_84 : decode cX5_set 84 = .ok (.getfield 7, 3) := by decide +kernel
theorem dX5_set_87 : decode cX5_set 87 = .ok (.bipush 9, 2) := by decide +kernel
theorem dX5_set_89 : decode cX5_set 89 = .ok (.iload_n 1, 1) := by decide +kernel
theorem dX5_set_90 : decode cX5_set 90 = .ok (.iadd, 1) := by decide +kernel
theorem dX5_set_91 : decode cX5_set 91 = .ok (.iload_n 2, 1) := by decide +kernel
theorem dX5_set_92 : decode cX5_set 92 = .ok (.iastore, 1) := by decide +kernel
theorem dX5_set_93 : decode cX5_set 93 = .ok (.iload 4, 2) := by decide +kernel
theorem dX5_set_95 : decode cX5_set 95 = .ok (.ireturn, 1) := by decide +kernel
theorem dX5_pass_0 : decode cX5_pass 0 = .ok (.aload_n 0, 1) := by decide +kernel
theorem dX5_pass_1 : decode cX5_pass 1 = .ok (.iload_n 1, 1) := by decide +kernel
theorem dX5_pass_2 : decode cX5_pass 2 = .ok (.iconst 1, 1) := by decide +kernel
theorem dX5_pass_3 : decode cX5_pass 3 = .ok (.bipush 48, 2) := by decide +kernel
theorem dX5_pass_5 : decode cX5_pass 5 = .ok (.invokestatic 36, 3) := by decide +kernel
theorem dX5_pass_8 : decode cX5_pass 8 = .ok (.ifCond .eq 7, 3) := by decide +kernel
theorem dX5_pass_11 : decode cX5_pass 11 = .ok (.iconst 0, 1) := by decide +kernel
theorem dX5_pass_12 : decode cX5_pass 12 = .ok (.goto 4, 3) := by decide +kernel
theorem dX5_pass_15 : decode cX5_pass 15 = .ok (.iconst 1, 1) := by decide +kernel
theorem dX5_pass_16 : decode cX5_pass 16 = .ok (.invokevirtual 98, 3) := by decide +kernel
theorem dX5_pass_19 : decode cX5_pass 19 = .ok (.ifCond .ne 5, 3) := by decide +kernel
theorem dX5_pass_22 : decode cX5_pass 22 = .ok (.iconst 0, 1) := by decide +kernel
theorem dX5_pass_23 : decode cX5_pass 23 = .ok (.ireturn, 1) := by decide +kernel
theorem dX5_pass_24 : decode cX5_pass 24 = .ok (.aload_n 0, 1) := by decide +kernel
theorem dX5_pass_25 : decode cX5_pass 25 = .ok (.invokevirtual 101, 3) := by decide +kernel
theorem dX5_pass_28 : decode cX5_pass 28 = .ok (.aload_n 0, 1) := by decide +kernel
theorem dX5_pass_29 : decode cX5_pass 29 = .ok (.iload_n 1, 1) := by decide +kernel
theorem dX5_pass_30 : decode cX5_pass 30 = .ok (.invokevirtual 108, 3) := by decide +kernel
theorem dX5_pass_33 : decode cX5_pass 33 = .ok (.ireturn, 1) := by decide +kernel
theorem dX5_hasRoom_0 : decode cX5_hasRoom 0 = .ok (.aload_n 0, 1) := by decide +kernel
theorem dX5_hasRoom_1 : decode cX5_hasRoom 1 = .ok (.iload_n 1, 1) := by decide +kernel
theorem dX5_hasRoom_2 : decode cX5_hasRoom 2 = .ok (.bipush 9, 2) := by decide +kernel
theorem dX5_hasRoom_4 : decode cX5_hasRoom 4 = .ok (.invokevirtual 47, 3) := by decide +kernel
theorem dX5_hasRoom_7 : decode cX5_hasRoom 7 = .ok (.bipush 6, 2) := by decide +kernel
theorem dX5_hasRoom_9 : decode cX5_hasRoom 9 = .ok (.if_icmp .ge 19, 3) := by decide +kernel
theorem dX5_hasRoom_12 : decode cX5_hasRoom 12 = .ok (.aload_n 0, 1) := by decide +kernel
theorem dX5_hasRoom_13 : decode cX5_hasRoom 13 = .ok (.getfield 7, 3) := by decide +kernel
theorem dX5_hasRoom_16 : decode cX5_hasRoom 16 = .ok (.iconst 5, 1) := by decide +kernel
theorem dX5_hasRoom_17 : decode cX5_hasRoom 17 = .ok (.iaload, 1) := by decide +kernel
theorem dX5_hasRoom_18 : decode cX5_hasRoom 18 = .ok (.sipush 999, 3) := by decide +kernel
theorem dX5_hasRoom_21 : decode cX5_hasRoom 21 = .ok (.if_icmp .ge 7, 3) := by decide +kernel
theorem dX5_hasRoom_24 : decode cX5_hasRoom 24 = .ok (.iconst 1, 1) := by decide +kernel
theorem dX5_hasRoom_25 : decode cX5_hasRoom 25 = .ok (.goto 4, 3) := by decide +kernel
theorem dX5_hasRoom_28 : decode cX5_hasRoom 28 = .ok (.iconst 0, 1) := by decide +kernel
theorem dX5_hasRoom_29 : decode cX5_hasRoom 29 = .ok (.ireturn, 1) := by decide +kernel
theorem dX5_come_0 : decode cX5_come 0 = .ok (.aload_n 0, 1) := by decide +kernel
theorem dX5_come_1 : decode cX5_come 1 = .ok (.iload_n 1, 1) := by decide +kernel
theorem dX5_come_2 : decode cX5_come 2 = .ok (.aload_n 0, 1) := by decide +kernel
theorem dX5_come_3 : decode cX5_come 3 = .ok (.getfield 7, 3) := by decide +kernel
theorem dX5_come_6 : decode cX5_come 6 = .ok (.iconst 5, 1) := by decide +kernel
theorem dX5_come_7 : decode cX5_come 7 = .ok (.iaload, 1) := by decide +kernel
theorem dX5_come_8 : decode cX5_come 8 = .ok (.iload_n 2, 1) := by decide +kernel
theorem dX5_come_9 : decode cX5_come 9 = .ok (.iload_n 2, 1) := by decide +kernel
theorem dX5_come_10 : decode cX5_come 10 = .ok (.iload_n 3, 1) := by decide +kernel
theorem dX5_come_11 : decode cX5_come 11 = .ok (.invokevirtual 111, 3) := by decide +kernel
theorem dX5_come_14 : decode cX5_come 14 = .ok (.istore 4, 2) := by decide +kernel
theorem dX5_come_16 : decode cX5_come 16 = .ok (.aload_n 0, 1) := by decide +kernel
theorem dX5_come_17 : decode cX5_come 17 = .ok (.getfield 7, 3) := by decide +kernel
theorem dX5_come_20 : decode cX5_come 20 = .ok (.iconst 5, 1) := by decide +kernel
theorem dX5_come_21 : decode cX5_come 21 = .ok (.dup2, 1) := by decide +kernel
theorem dX5_come_22 : decode cX5_come 22 = .ok (.iaload, 1) := by decide +kernel
theorem dX5_come_23 : decode cX5_come 23 = .ok (.iload 4, 2) := by decide +kernel
theorem dX5_come_25 : decode cX5_come 25 = .ok (.ifCond .ge 7, 3) := by decide +kernel
theorem dX5_come_28 : decode cX5_come 28 = .ok (.iconst 0, 1) := by decide +kernel
theorem dX5_come_29 : decode cX5_come 29 = .ok (.goto 4, 3) := by decide +kernel
theorem dX5_come_32 : decode cX5_come 32 = .ok (.iconst 1, 1) := by decide +kernel
theorem dX5_come_33 : decode cX5_come 33 = .ok (.iadd, 1) := by decide +kernel
theorem dX5_come_34 : decode cX5_come 34 = .ok (.iastore, 1) := by decide +kernel
theorem dX5_come_35 : decode cX5_come 35 = .ok (.aload_n 0, 1) := by decide +kernel
theorem dX5_come_36 : decode cX5_come 36 = .ok (.getfield 7, 3) := by decide +kernel
theorem dX5_come_39 : decode cX5_come 39 = .ok (.iconst 5, 1) := by decide +kernel
theorem dX5_come_40 : decode cX5_come 40 = .ok (.iaload, 1) := by decide +kernel
theorem dX5_come_41 : decode cX5_come 41 = .ok (.iconst 1, 1) := by decide +kernel
theorem dX5_come_42 : decode cX5_come 42 = .ok (.isub, 1) := by decide +kernel
theorem dX5_come_43 : decode cX5_come 43 = .ok (.ireturn, 1) := by decide +kernel
theorem dX5_sack_0 : decode cX5_sack 0 = .ok (.iload_n 2, 1) := by decide +kernel
theorem dX5_sack_1 : decode cX5_sack 1 = .ok (.iconst 1, 1) := by decide +kernel
theorem dX5_sack_2 : decode cX5_sack 2 = .ok (.sipush 999, 3) := by decide +kernel
theorem dX5_sack_5 : decode cX5_sack 5 = .ok (.invokestatic 36, 3) := by decide +kernel
theorem dX5_sack_8 : decode cX5_sack 8 = .ok (.ifCond .eq 18, 3) := by decide +kernel
theorem dX5_sack_11 : decode cX5_sack 11 = .ok (.iload_n 3, 1) := by decide +kernel
theorem dX5_sack_12 : decode cX5_sack 12 = .ok (.iconst 1, 1) := by decide +kernel
theorem dX5_sack_13 : decode cX5_sack 13 = .ok (.sipush 9999, 3) := by decide +kernel
theorem dX5_sack_16 : decode cX5_sack 16 = .ok (.invokestatic 36, 3) := by decide +kernel
theorem dX5_sack_19 : decode cX5_sack 19 = .ok (.ifCond .eq 7, 3) := by decide +kernel
theorem dX5_sack_22 : decode cX5_sack 22 = .ok (.iconst 1, 1) := by decide +kernel
theorem dX5_sack_23 : decode cX5_sack 23 = .ok (.goto 4, 3) := by decide +kernel
theorem dX5_sack_26 : decode cX5_sack 26 = .ok (.iconst 0, 1) := by decide +kernel
theorem dX5_sack_27 : decode cX5_sack 27 = .ok (.istore 4, 2) := by decide +kernel
theorem dX5_sack_29 : decode cX5_sack 29 = .ok (.aload_n 0, 1) := by decide +kernel
theorem dX5_sack_30 : decode cX5_sack 30 = .ok (.iload_n 1, 1) := by decide +kernel
theorem dX5_sack_31 : decode cX5_sack 31 = .ok (.invokestatic 94, 3) := by decide +kernel
theorem dX5_sack_34 : decode cX5_sack 34 = .ok (.ifCond .ne 7, 3) := by decide +kernel
theorem dX5_sack_37 : decode cX5_sack 37 = .ok (.iconst 1, 1) := by decide +kernel
theorem dX5_sack_38 : decode cX5_sack 38 = .ok (.goto 25, 3) := by decide +kernel
theorem dX5_sack_41 : decode cX5_sack 41 = .ok (.iload 4, 2) := by decide +kernel
theorem dX5_sack_43 : decode cX5_sack 43 = .ok (.ifCond .ne 7, 3) := by decide +kernel
theorem dX5_sack_46 : decode cX5_sack 46 = .ok (.iconst 2, 1) := by decide +kernel
theorem dX5_sack_47 : decode cX5_sack 47 = .ok (.goto 16, 3) := by decide +kernel
theorem dX5_sack_50 : decode cX5_sack 50 = .ok (.aload_n 0, 1) := by decide +kernel
theorem dX5_sack_51 : decode cX5_sack 51 = .ok (.iload_n 1, 1) := by decide +kernel
theorem dX5_sack_52 : decode cX5_sack 52 = .ok (.invokevirtual 115, 3) := by decide +kernel
theorem dX5_sack_55 : decode cX5_sack 55 = .ok (.ifCond .eq 7, 3) := by decide +kernel
theorem dX5_sack_58 : decode cX5_sack 58 = .ok (.iconst 0, 1) := by decide +kernel
theorem dX5_sack_59 : decode cX5_sack 59 = .ok (.goto 4, 3) := by decide +kernel
theorem dX5_sack_62 : decode cX5_sack 62 = .ok (.iconst 3, 1) := by decide +kernel
theorem dX5_sack_63 : decode cX5_sack 63 = .ok (.invokevirtual 98, 3) := by decide +kernel
theorem dX5_sack_66 : decode cX5_sack 66 = .ok (.ifCond .ne 5, 3) := by decide +kernel
theorem dX5_sack_69 : decode cX5_sack 69 = .ok (.iconst 0, 1) := by decide +kernel
theorem dX5_sack_70 : decode cX5_sack 70 = .ok (.ireturn, 1) := by decide +kernel
theorem dX5_sack_71 : decode cX5_sack 71 = .ok (.aload_n 0, 1) := by decide +kernel
theorem dX5_sack_72 : decode cX5_sack 72 = .ok (.invokevirtual 101, 3) := by decide +kernel
theorem dX5_sack_75 : decode cX5_sack 75 = .ok (.aload_n 0, 1) := by decide +kernel
theorem dX5_sack_76 : decode cX5_sack 76 = .ok (.iload_n 1, 1) := by decide +kernel
theorem dX5_sack_77 : decode cX5_sack 77 = .ok (.iload_n 2, 1) := by decide +kernel
theorem dX5_sack_78 : decode cX5_sack 78 = .ok (.iload_n 3, 1) := by decide +kernel
theorem dX5_sack_79 : decode cX5_sack 79 = .ok (.invokevirtual 118, 3) := by decide +kernel
theorem dX5_sack_82 : decode cX5_sack 82 = .ok (.ireturn, 1) := by decide +kernel
theorem dX5_carry_0 : decode cX5_carry 0 = .ok (.iload_n 2, 1) := by decide +kernel
theorem dX5_carry_1 : decode cX5_carry 1 = .ok (.invokestatic 94, 3) := by decide +kernel
theorem dX5_carry_4 : decode cX5_carry 4 = .ok (.ifCond .eq 11, 3) := by decide +kernel
theorem dX5_carry_7 : decode cX5_carry 7 = .ok (.aload_n 0, 1) := by decide +kernel
theorem dX5_carry_8 : decode cX5_carry 8 = .ok (.iload_n 1, 1) := by decide +kernel
theorem dX5_carry_9 : decode cX5_carry 9 = .ok (.invokevirtual 121, 3) := by decide +kernel
theorem dX5_carry_12 : decode cX5_carry 12 = .ok (.goto 4, 3) := by decide +kernel
theorem dX5_carry_15 : decode cX5_carry 15 = .ok (.iconst (-1), 1) := by decide +kernel
theorem dX5_carry_16 : decode cX5_carry 16 = .ok (.istore_n 3, 1) := by decide +kernel
theorem dX5_carry_17 : decode cX5_carry 17 = .ok (.aload_n 0, 1) := by decide +kernel
theorem dX5_carry_18 : decode cX5_carry 18 = .ok (.iload_n 2, 1) := by decide +kernel
theorem dX5_carry_19 : decode cX5_carry 19 = .ok (.invokestatic 94, 3) := by decide +kernel
theorem dX5_carry_22 : decode cX5_carry 22 = .ok (.ifCond .ne 7, 3) := by decide +kernel
theorem dX5_carry_25 : decode cX5_carry 25 = .ok (.iconst 1, 1) := by decide +kernel
theorem dX5_carry_26 : decode cX5_carry 26 = .ok (.goto 33, 3) := by decide +kernel
theorem dX5_carry_29 : decode cX5_carry 29 = .ok (.iload_n 3, 1) := by decide +kernel
theorem dX5_carry_30 : decode cX5_carry 30 = .ok (.iconst (-1), 1) := by decide +kernel
theorem dX5_carry_31 : decode cX5_carry 31 = .ok (.if_icmp .eq 23, 3) := by decide +kernel
theorem dX5_carry_34 : decode cX5_carry 34 = .ok (.iload_n 3, 1) := by decide +kernel
theorem dX5_carry_35 : decode cX5_carry 35 = .ok (.bipush 6, 2) := by decide +kernel
theorem dX5_carry_37 : decode cX5_carry 37 = .ok (.idiv, 1) := by decide +kernel
theorem dX5_carry_38 : decode cX5_carry 38 = .ok (.iload_n 2, 1) := by decide +kernel
theorem dX5_carry_39 : decode cX5_carry 39 = .ok (.if_icmp .eq 15, 3) := by decide +kernel
theorem dX5_carry_42 : decode cX5_carry 42 = .ok (.aload_n 0, 1) := by decide +kernel
theorem dX5_carry_43 : decode cX5_carry 43 = .ok (.iload_n 2, 1) := by decide +kernel
theorem dX5_carry_44 : decode cX5_carry 44 = .ok (.bipush 9, 2) := by decide +kernel
theorem dX5_carry_46 : decode cX5_carry 46 = .ok (.invokevirtual 47, 3) := by decide +kernel
theorem dX5_carry_49 : decode cX5_carry 49 = .ok (.bipush 6, 2) := by decide +kernel
theorem dX5_carry_51 : decode cX5_carry 51 = .ok (.if_icmp .ne 7, 3) := by decide +kernel
theorem dX5_carry_54 : decode cX5_carry 54 = .ok (.iconst 2, 1) := by decide +kernel
theorem dX5_carry_55 : decode cX5_carry 55 = .ok (.goto 4, 3) := by decide +kernel
theorem dX5_carry_58 : decode cX5_carry 58 = .ok (.iconst 0, 1) := by decide +kernel
theorem dX5_carry_59 : decode cX5_carry 59 = .ok (.invokevirtual 98, 3) := by decide +kernel
theorem dX5_carry_62 : decode cX5_carry 62 = .ok (.ifCond .ne 5, 3) := by decide +kernel
theorem dX5_carry_65 : decode cX5_carry 65 = .ok (.iconst 0, 1) := by decide +kernel
theorem dX5_carry_66 : decode cX5_carry 66 = .ok (.ireturn, 1) := by decide +kernel
theorem dX5_carry_67 : decode cX5_carry 67 = .ok (.aload_n 0, 1) := by decide +kernel
theorem dX5_carry_68 : decode cX5_carry 68 = .ok (.invokevirtual 101, 3) := by decide +kernel
theorem dX5_carry_71 : decode cX5_carry 71 = .ok (.aload_n 0, 1) := by decide +kernel
theorem dX5_carry_72 : decode cX5_carry 72 = .ok (.iload_n 3, 1) := by decide +kernel
theorem dX5_carry_73 : decode cX5_carry 73 = .ok (.bipush 6, 2) := by decide +kernel
theorem dX5_carry_75 : decode cX5_carry 75 = .ok (.idiv, 1) := by decide +kernel
theorem dX5_carry_76 : decode cX5_carry 76 = .ok (.iload_n 3, 1) := by decide +kernel
theorem dX5_carry_77 : decode cX5_carry 77 = .ok (.bipush 6, 2) := by decide +kernel
theorem dX5_carry_79 : decode cX5_carry 79 = .ok (.irem, 1) := by decide +kernel
theorem dX5_carry_80 : decode cX5_carry 80 = .ok (.invokevirtual 51, 3) := by decide +kernel
theorem dX5_carry_83 : decode cX5_carry 83 = .ok (.istore 4, 2) := by decide +kernel
theorem dX5_carry_85 : decode cX5_carry 85 = .ok (.aload_n 0, 1) := by decide +kernel
theorem dX5_carry_86 : decode cX5_carry 86 = .ok (.getfield 7, 3) := by decide +kernel
theorem dX5_carry_89 : decode cX5_carry 89 = .ok (.iload 4, 2) := by decide +kernel
theorem dX5_carry_91 : decode cX5_carry 91 = .ok (.iconst 1, 1) := by decide +kernel
theorem dX5_carry_92 : decode cX5_carry 92 = .ok (.iadd, 1) := by decide +kernel
theorem dX5_carry_93 : decode cX5_carry 93 = .ok (.iaload, 1) := by decide +kernel
theorem dX5_carry_94 : decode cX5_carry 94 = .ok (.istore 5, 2) := by decide +kernel
theorem dX5_carry_96 : decode cX5_carry 96 = .ok (.aload_n 0, 1) := by decide +kernel
theorem dX5_carry_97 : decode cX5_carry 97 = .ok (.getfield 7, 3) := by decide +kernel
theorem dX5_carry_100 : decode cX5_carry 100 = .ok (.iload 4, 2) := by decide +kernel
theorem dX5_carry_102 : decode cX5_carry 102 = .ok (.iconst 2, 1) := by decide +kernel
theorem dX5_carry_103 : decode cX5_carry 103 = .ok (.iadd, 1) := by decide +kernel
theorem dX5_carry_104 : decode cX5_carry 104 = .ok (.iaload, 1) := by decide +kernel
theorem dX5_carry_105 : decode cX5_carry 105 = .ok (.istore 6, 2) := by decide +kernel
theorem dX5_carry_107 : decode cX5_carry 107 = .ok (.aload_n 0, 1) := by decide +kernel
theorem dX5_carry_108 : decode cX5_carry 108 = .ok (.getfield 7, 3) := by decide +kernel
theorem dX5_carry_111 : decode cX5_carry 111 = .ok (.iload 4, 2) := by decide +kernel
theorem dX5_carry_113 : decode cX5_carry 113 = .ok (.iconst 3, 1) := by decide +kernel
theorem dX5_carry_114 : decode cX5_carry 114 = .ok (.iadd, 1) := by decide +kernel
theorem dX5_carry_115 : decode cX5_carry 115 = .ok (.iaload, 1) := by decide +kernel
theorem dX5_carry_116 : decode cX5_carry 116 = .ok (.istore 7, 2) := by decide +kernel
theorem dX5_carry_118 : decode cX5_carry 118 = .ok (.aload_n 0, 1) := by decide +kernel
theorem dX5_carry_119 : decode cX5_carry 119 = .ok (.iload_n 3, 1) := by decide +kernel
theorem dX5_carry_120 : decode cX5_carry 120 = .ok (.bipush 6, 2) := by decide +kernel
theorem dX5_carry_122 : decode cX5_carry 122 = .ok (.idiv, 1) := by decide +kernel
theorem dX5_carry_123 : decode cX5_carry 123 = .ok (.iload_n 3, 1) := by decide +kernel
theorem dX5_carry_124 : decode cX5_carry 124 = .ok (.bipush 6, 2) := by decide +kernel
theorem dX5_carry_126 : decode cX5_carry 126 = .ok (.irem, 1) := by decide +kernel
theorem dX5_carry_127 : decode cX5_carry 127 = .ok (.invokevirtual 77, 3) := by decide +kernel
theorem dX5_carry_130 : decode cX5_carry 130 = .ok (.aload_n 0, 1) := by decide +kernel
theorem dX5_carry_131 : decode cX5_carry 131 = .ok (.iload_n 2, 1) := by decide +kernel
theorem dX5_carry_132 : decode cX5_carry 132 = .ok (.iload_n 1, 1) := by decide +kernel
theorem dX5_carry_133 : decode cX5_carry 133 = .ok (.iload 5, 2) := by decide +kernel
theorem dX5_carry_135 : decode cX5_carry 135 = .ok (.iload 6, 2) := by decide +kernel
theorem dX5_carry_137 : decode cX5_carry 137 = .ok (.iload 7, 2) := by decide +kernel
theorem dX5_carry_139 : decode cX5_carry 139 = .ok (.invokevirtual 111, 3) := by decide +kernel
theorem dX5_carry_142 : decode cX5_carry 142 = .ok (.ireturn, 1) := by decide +kernel
theorem dX5_back_0 : decode cX5_back 0 = .ok (.aload_n 0, 1) := by decide +kernel
theorem dX5_back_1 : decode cX5_back 1 = .ok (.iload_n 1, 1) := by decide +kernel
theorem dX5_back_2 : decode cX5_back 2 = .ok (.invokevirtual 121, 3) := by decide +kernel
theorem dX5_back_5 : decode cX5_back 5 = .ok (.istore_n 2, 1) := by decide +kernel
theorem dX5_back_6 : decode cX5_back 6 = .ok (.aload_n 0, 1) := by decide +kernel
theorem dX5_back_7 : decode cX5_back 7 = .ok (.iload_n 2, 1) := by decide +kernel
theorem dX5_back_8 : decode cX5_back 8 = .ok (.iconst (-1), 1) := by decide +kernel
theorem dX5_back_9 : decode cX5_back 9 = .ok (.if_icmp .ne 7, 3) := by decide +kernel
theorem dX5_back_12 : decode cX5_back 12 = .ok (.iconst 1, 1) := by decide +kernel
theorem dX5_back_13 : decode cX5_back 13 = .ok (.goto 4, 3) := by decide +kernel
theorem dX5_back_16 : decode cX5_back 16 = .ok (.iconst 0, 1) := by decide +kernel
theorem dX5_back_17 : decode cX5_back 17 = .ok (.invokevirtual 98, 3) := by decide +kernel
theorem dX5_back_20 : decode cX5_back 20 = .ok (.ifCond .ne 5, 3) := by decide +kernel
theorem dX5_back_23 : decode cX5_back 23 = .ok (.iconst 0, 1) := by decide +kernel
theorem dX5_back_24 : decode cX5_back 24 = .ok (.ireturn, 1) := by decide +kernel
theorem dX5_back_25 : decode cX5_back 25 = .ok (.aload_n 0, 1) := by decide +kernel
theorem dX5_back_26 : decode cX5_back 26 = .ok (.invokevirtual 101, 3) := by decide +kernel
theorem dX5_back_29 : decode cX5_back 29 = .ok (.aload_n 0, 1) := by decide +kernel
theorem dX5_back_30 : decode cX5_back 30 = .ok (.getfield 7, 3) := by decide +kernel
theorem dX5_back_33 : decode cX5_back 33 = .ok (.aload_n 0, 1) := by decide +kernel
theorem dX5_back_34 : decode cX5_back 34 = .ok (.iload_n 2, 1) := by decide +kernel
theorem dX5_back_35 : decode cX5_back 35 = .ok (.bipush 6, 2) := by decide +kernel
theorem dX5_back_37 : decode cX5_back 37 = .ok (.idiv, 1) := by decide +kernel
theorem dX5_back_38 : decode cX5_back 38 = .ok (.iload_n 2, 1) := by decide +kernel
theorem dX5_back_39 : decode cX5_back 39 = .ok (.bipush 6, 2) := by decide +kernel
theorem dX5_back_41 : decode cX5_back 41 = .ok (.irem, 1) := by decide +kernel
theorem dX5_back_42 : decode cX5_back 42 = .ok (.invokevirtual 51, 3) := by decide +kernel
theorem dX5_back_45 : decode cX5_back 45 = .ok (.iconst 2, 1) := by decide +kernel
theorem dX5_back_46 : decode cX5_back 46 = .ok (.iadd, 1) := by decide +kernel
theorem dX5_back_47 : decode cX5_back 47 = .ok (.iaload, 1) := by decide +kernel
theorem dX5_back_48 : decode cX5_back 48 = .ok (.istore_n 3, 1) := by decide +kernel
theorem dX5_back_49 : decode cX5_back 49 = .ok (.aload_n 0, 1) := by decide +kernel
theorem dX5_back_50 : decode cX5_back 50 = .ok (.iload_n 2, 1) := by decide +kernel
theorem dX5_back_51 : decode cX5_back 51 = .ok (.bipush 6, 2) := by decide +kernel
theorem dX5_back_53 : decode cX5_back 53 = .ok (.idiv, 1) := by decide +kernel
theorem dX5_back_54 : decode cX5_back 54 = .ok (.iload_n 2, 1) := by decide +kernel
theorem dX5_back_55 : decode cX5_back 55 = .ok (.bipush 6, 2) := by decide +kernel
theorem dX5_back_57 : decode cX5_back 57 = .ok (.irem, 1) := by decide +kernel
theorem dX5_back_58 : decode cX5_back 58 = .ok (.invokevirtual 77, 3) := by decide +kernel
theorem dX5_back_61 : decode cX5_back 61 = .ok (.aload_n 0, 1) := by decide +kernel
theorem dX5_back_62 : decode cX5_back 62 = .ok (.getfield 7, 3) := by decide +kernel
theorem dX5_back_65 : decode cX5_back 65 = .ok (.bipush 8, 2) := by decide +kernel
theorem dX5_back_67 : decode cX5_back 67 = .ok (.dup2, 1) := by decide +kernel
theorem dX5_back_68 : decode cX5_back 68 = .ok (.iaload, 1) := by decide +kernel
theorem dX5_back_69 : decode cX5_back 69 = .ok (.iconst 1, 1) := by decide +kernel
theorem dX5_back_70 : decode cX5_back 70 = .ok (.iadd, 1) := by decide +kernel
theorem dX5_back_71 : decode cX5_back 71 = .ok (.iastore, 1) := by decide +kernel
theorem dX5_back_72 : decode cX5_back 72 = .ok (.iload_n 3, 1) := by decide +kernel
theorem dX5_back_73 : decode cX5_back 73 = .ok (.ireturn, 1) := by decide +kernel
theorem dX5_append_0 : decode cX5_append 0 = .ok (.aload_n 0, 1) := by decide +kernel
theorem dX5_append_1 : decode cX5_append 1 = .ok (.iload_n 1, 1) := by decide +kernel
theorem dX5_append_2 : decode cX5_append 2 = .ok (.bipush 33, 2) := by decide +kernel
theorem dX5_append_4 : decode cX5_append 4 = .ok (.bipush 126, 2) := by decide +kernel
theorem dX5_append_6 : decode cX5_append 6 = .ok (.invokestatic 36, 3) := by decide +kernel
theorem dX5_append_9 : decode cX5_append 9 = .ok (.ifCond .ne 7, 3) := by decide +kernel
theorem dX5_append_12 : decode cX5_append 12 = .ok (.iconst 1, 1) := by decide +kernel
theorem dX5_append_13 : decode cX5_append 13 = .ok (.goto 17, 3) := by decide +kernel
theorem dX5_append_16 : decode cX5_append 16 = .ok (.aload_n 0, 1) := by decide +kernel
theorem dX5_append_17 : decode cX5_append 17 = .ok (.getfield 124, 3) := by decide +kernel
theorem dX5_append_20 : decode cX5_append 20 = .ok (.bipush 60, 2) := by decide +kernel
theorem dX5_append_22 : decode cX5_append 22 = .ok (.if_icmp .ne 7, 3) := by decide +kernel
theorem dX5_append_25 : decode cX5_append 25 = .ok (.iconst 2, 1) := by decide +kernel
theorem dX5_append_26 : decode cX5_append 26 = .ok (.goto 4, 3) := by decide +kernel
theorem dX5_append_29 : decode cX5_append 29 = .ok (.iconst 0, 1) := by decide +kernel
theorem dX5_append_30 : decode cX5_append 30 = .ok (.invokevirtual 98, 3) := by decide +kernel
theorem dX5_append_33 : decode cX5_append 33 = .ok (.ifCond .ne 5, 3) := by decide +kernel
theorem dX5_append_36 : decode cX5_append 36 = .ok (.iconst 0, 1) := by decide +kernel
theorem dX5_append_37 : decode cX5_append 37 = .ok (.ireturn, 1) := by decide +kernel
theorem dX5_append_38 : decode cX5_append 38 = .ok (.aload_n 0, 1) := by decide +kernel
theorem dX5_append_39 : decode cX5_append 39 = .ok (.getfield 22, 3) := by decide +kernel
theorem dX5_append_42 : decode cX5_append 42 = .ok (.aload_n 0, 1) := by decide +kernel
theorem dX5_append_43 : decode cX5_append 43 = .ok (.getfield 124, 3) := by decide +kernel
theorem dX5_append_46 : decode cX5_append 46 = .ok (.iload_n 1, 1) := by decide +kernel
theorem dX5_append_47 : decode cX5_append 47 = .ok (.iastore, 1) := by decide +kernel
theorem dX5_append_48 : decode cX5_append 48 = .ok (.aload_n 0, 1) := by decide +kernel
theorem dX5_append_49 : decode cX5_append 49 = .ok (.dup, 1) := by decide +kernel
theorem dX5_append_50 : decode cX5_append 50 = .ok (.getfield 124, 3) := by decide +kernel
theorem dX5_append_53 : decode cX5_append 53 = .ok (.iconst 1, 1) := by decide +kernel
theorem dX5_append_54 : decode cX5_append 54 = .ok (.iadd, 1) := by decide +kernel
theorem dX5_append_55 : decode cX5_append 55 = .ok (.putfield 124, 3) := by decide +kernel
theorem dX5_append_58 : decode cX5_append 58 = .ok (.aload_n 0, 1) := by decide +kernel
theorem dX5_append_59 : decode cX5_append 59 = .ok (.getfield 124, 3) := by decide +kernel
theorem dX5_append_62 : decode cX5_append 62 = .ok (.ireturn, 1) := by decide +kernel
theorem dX5_clearBuffer_0 : decode cX5_clearBuffer 0 = .ok (.aload_n 0, 1) := by decide +kernel
theorem dX5_clearBuffer_1 : decode cX5_clearBuffer 1 = .ok (.iconst 0, 1) := by decide +kernel
theorem dX5_clearBuffer_2 : decode cX5_clearBuffer 2 = .ok (.putfield 32, 3) := by decide +kernel
theorem dX5_clearBuffer_5 : decode cX5_clearBuffer 5 = .ok (.aload_n 0, 1) := by decide +kernel
theorem dX5_clearBuffer_6 : decode cX5_clearBuffer 6 = .ok (.getfield 124, 3) := by decide +kernel
theorem dX5_clearBuffer_9 : decode cX5_clearBuffer 9 = .ok (.istore_n 1, 1) := by decide +kernel
theorem dX5_clearBuffer_10 : decode cX5_clearBuffer 10 = .ok (.aload_n 0, 1) := by decide +kernel
theorem dX5_clearBuffer_11 : decode cX5_clearBuffer 11 = .ok (.iconst 0, 1) := by decide +kernel
theorem dX5_clearBuffer_12 : decode cX5_clearBuffer 12 = .ok (.putfield 124, 3) := by decide +kernel
theorem dX5_clearBuffer_15 : decode cX5_clearBuffer 15 = .ok (.iload_n 1, 1) := by decide +kernel
theorem dX5_clearBuffer_16 : decode cX5_clearBuffer 16 = .ok (.ireturn, 1) := by decide +kernel
theorem dX5_isNext_0 : decode cX5_isNext 0 = .ok (.aload_n 0, 1) := by decide +kernel
theorem dX5_isNext_1 : decode cX5_isNext 1 = .ok (.getfield 127, 3) := by decide +kernel
theorem dX5_isNext_4 : decode cX5_isNext 4 = .ok (.aload_n 0, 1) := by decide +kernel
theorem dX5_isNext_5 : decode cX5_isNext 5 = .ok (.getfield 124, 3) := by decide +kernel
theorem dX5_isNext_8 : decode cX5_isNext 8 = .ok (.if_icmp .ge 24, 3) := by decide +kernel
theorem dX5_isNext_11 : decode cX5_isNext 11 = .ok (.aload_n 0, 1) := by decide +kernel
theorem dX5_isNext_12 : decode cX5_isNext 12 = .ok (.getfield 22, 3) := by decide +kernel
theorem dX5_isNext_15 : decode cX5_isNext 15 = .ok (.aload_n 0, 1) := by decide +kernel
theorem dX5_isNext_16 : decode cX5_isNext 16 = .ok (.getfield 127, 3) := by decide +kernel
theorem dX5_isNext_19 : decode cX5_isNext 19 = .ok (.iaload, 1) := by decide +kernel
theorem dX5_isNext_20 : decode cX5_isNext 20 = .ok (.iload_n 1, 1) := by decide +kernel
theorem dX5_isNext_21 : decode cX5_isNext 21 = .ok (.iload_n 2, 1) := by decide +kernel
theorem dX5_isNext_22 : decode cX5_isNext 22 = .ok (.invokestatic 36, 3) := by decide +kernel
theorem dX5_isNext_25 : decode cX5_isNext 25 = .ok (.ifCond .eq 7, 3) := by decide +kernel
theorem dX5_isNext_28 : decode cX5_isNext 28 = .ok (.iconst 1, 1) := by decide +kernel
theorem dX5_isNext_29 : decode cX5_isNext 29 = .ok (.goto 4, 3) := by decide +kernel
theorem dX5_isNext_32 : decode cX5_isNext 32 = .ok (.iconst 0, 1) := by decide +kernel
theorem dX5_isNext_33 : decode cX5_isNext 33 = .ok (.ireturn, 1) := by decide +kernel
theorem dX5_takes_0 : decode cX5_takes 0 = .ok (.aload_n 0, 1) := by decide +kernel
theorem dX5_takes_1 : decode cX5_takes 1 = .ok (.iload_n 1, 1) := by decide +kernel
theorem dX5_takes_2 : decode cX5_takes 2 = .ok (.iload_n 1, 1) := by decide +kernel
theorem dX5_takes_3 : decode cX5_takes 3 = .ok (.invokevirtual 130, 3) := by decide +kernel
theorem dX5_takes_6 : decode cX5_takes 6 = .ok (.istore_n 2, 1) := by decide +kernel
theorem dX5_takes_7 : decode cX5_takes 7 = .ok (.aload_n 0, 1) := by decide +kernel
theorem dX5_takes_8 : decode cX5_takes 8 = .ok (.dup, 1) := by decide +kernel
theorem dX5_takes_9 : decode cX5_takes 9 = .ok (.getfield 127, 3) := by decide +kernel
theorem dX5_takes_12 : decode cX5_takes 12 = .ok (.iload_n 2, 1) := by decide +kernel
theorem dX5_takes_13 : decode cX5_takes 13 = .ok (.ifCond .eq 7, 3) := by decide +kernel
theorem dX5_takes_16 : decode cX5_takes 16 = .ok (.iconst 1, 1) := by decide +kernel
theorem dX5_takes_17 : decode cX5_takes 17 = .ok (.goto 4, 3) := by decide +kernel
theorem dX5_takes_20 : decode cX5_takes 20 = .ok (.iconst 0, 1) := by decide +kernel
theorem dX5_takes_21 : decode cX5_takes 21 = .ok (.iadd, 1) := by decide +kernel
theorem dX5_takes_22 : decode cX5_takes 22 = .ok (.putfield 127, 3) := by decide +kernel
theorem dX5_takes_25 : decode cX5_takes 25 = .ok (.iload_n 2, 1) := by decide +kernel
theorem dX5_takes_26 : decode cX5_takes 26 = .ok (.ireturn, 1) := by decide +kernel
theorem dX5_readNumber_0 : decode cX5_readNumber 0 = .ok (.aload_n 0, 1) := by decide +kernel
theorem dX5_readNumber_1 : decode cX5_readNumber 1 = .ok (.bipush 49, 2) := by decide +kernel
theorem dX5_readNumber_3 : decode cX5_readNumber 3 = .ok (.bipush 57, 2) := by decide +kernel
theorem dX5_readNumber_5 : decode cX5_readNumber 5 = .ok (.invokevirtual 130, 3) := by decide +kernel
theorem dX5_readNumber_8 : decode cX5_readNumber 8 = .ok (.ifCond .eq 18, 3) := by decide +kernel
theorem dX5_readNumber_11 : decode cX5_readNumber 11 = .ok (.aload_n 0, 1) := by decide +kernel
theorem dX5_readNumber_12 : decode cX5_readNumber 12 = .ok (.getfield 22, 3) := by decide +kernel
theorem dX5_readNumber_15 : decode cX5_readNumber 15 = .ok (.aload_n 0, 1) := by decide +kernel
theorem dX5_readNumber_16 : decode cX5_readNumber 16 = .ok (.getfield 127, 3) := by decide +kernel
theorem dX5_readNumber_19 : decode cX5_readNumber 19 = .ok (.iaload, 1) := by decide +kernel
theorem dX5_readNumber_20 : decode cX5_readNumber 20 = .ok (.bipush 48, 2) := by decide +kernel
theorem dX5_readNumber_22 : decode cX5_readNumber 22 = .ok (.isub, 1) := by decide +kernel
theorem dX5_readNumber_23 : decode cX5_readNumber 23 = .ok (.goto 4, 3) := by decide +kernel
theorem dX5_readNumber_26 : decode cX5_readNumber 26 = .ok (.iconst 0, 1) := by decide +kernel
theorem dX5_readNumber_27 : decode cX5_readNumber 27 = .ok (.istore 4, 2) := by decide +kernel
theorem dX5_readNumber_29 : decode cX5_readNumber 29 = .ok (.iload 4, 2) := by decide +kernel
theorem dX5_readNumber_31 : decode cX5_readNumber 31 = .ok (.ifCond .eq 18, 3) := by decide +kernel
theorem dX5_readNumber_34 : decode cX5_readNumber 34 = .ok (.iload 4, 2) := by decide +kernel
theorem dX5_readNumber_36 : decode cX5_readNumber 36 = .ok (.iload_n 2, 1) := by decide +kernel
theorem dX5_readNumber_37 : decode cX5_readNumber 37 = .ok (.if_icmp .ge 14, 3) := by decide +kernel
theorem dX5_readNumber_40 : decode cX5_readNumber 40 = .ok (.bipush 10, 2) := by decide +kernel
theorem dX5_readNumber_42 : decode cX5_readNumber 42 = .ok (.iload 4, 2) := by decide +kernel
theorem dX5_readNumber_44 : decode cX5_readNumber 44 = .ok (.imul, 1) := by decide +kernel
theorem dX5_readNumber_45 : decode cX5_readNumber 45 = .ok (.iload_n 3, 1) := by decide +kernel
theorem dX5_readNumber_46 : decode cX5_readNumber 46 = .ok (.if_icmp .le 5, 3) := by decide +kernel
theorem dX5_readNumber_49 : decode cX5_readNumber 49 = .ok (.iconst 0, 1) := by decide +kernel
theorem dX5_readNumber_50 : decode cX5_readNumber 50 = .ok (.ireturn, 1) := by decide +kernel
theorem dX5_readNumber_51 : decode cX5_readNumber 51 = .ok (.aload_n 0, 1) := by decide +kernel
theorem dX5_readNumber_52 : decode cX5_readNumber 52 = .ok (.dup, 1) := by decide +kernel
theorem dX5_readNumber_53 : decode cX5_readNumber 53 = .ok (.getfield 127, 3) := by decide +kernel
theorem dX5_readNumber_56 : decode cX5_readNumber 56 = .ok (.iconst 1, 1) := by decide +kernel
theorem dX5_readNumber_57 : decode cX5_readNumber 57 = .ok (.iadd, 1) := by decide +kernel
theorem dX5_readNumber_58 : decode cX5_readNumber 58 = .ok (.putfield 127, 3) := by decide +kernel
theorem dX5_readNumber_61 : decode cX5_readNumber 61 = .ok (.aload_n 0, 1) := by decide +kernel
theorem dX5_readNumber_62 : decode cX5_readNumber 62 = .ok (.bipush 48, 2) := by decide +kernel
theorem dX5_readNumber_64 : decode cX5_readNumber 64 = .ok (.bipush 57, 2) := by decide +kernel
theorem dX5_readNumber_66 : decode cX5_readNumber 66 = .ok (.invokevirtual 130, 3) := by decide +kernel
theorem dX5_readNumber_69 : decode cX5_readNumber 69 = .ok (.ifCond .eq 58, 3) := by decide +kernel
theorem dX5_readNumber_72 : decode cX5_readNumber 72 = .ok (.bipush 10, 2) := by decide +kernel
theorem dX5_readNumber_74 : decode cX5_readNumber 74 = .ok (.iload 4, 2) := by decide +kernel
theorem dX5_readNumber_76 : decode cX5_readNumber 76 = .ok (.imul, 1) := by decide +kernel
theorem dX5_readNumber_77 : decode cX5_readNumber 77 = .ok (.aload_n 0, 1) := by decide +kernel
theorem dX5_readNumber_78 : decode cX5_readNumber 78 = .ok (.getfield 22, 3) := by decide +kernel
theorem dX5_readNumber_81 : decode cX5_readNumber 81 = .ok (.aload_n 0, 1) := by decide +kernel
theorem dX5_readNumber_82 : decode cX5_readNumber 82 = .ok (.getfield 127, 3) := by decide +kernel
theorem dX5_readNumber_85 : decode cX5_readNumber 85 = .ok (.iaload, 1) := by decide +kernel
theorem dX5_readNumber_86 : decode cX5_readNumber 86 = .ok (.iadd, 1) := by decide +kernel
theorem dX5_readNumber_87 : decode cX5_readNumber 87 = .ok (.bipush 48, 2) := by decide +kernel
theorem dX5_readNumber_89 : decode cX5_readNumber 89 = .ok (.isub, 1) := by decide +kernel
theorem dX5_readNumber_90 : decode cX5_readNumber 90 = .ok (.iload_n 3, 1) := by decide +kernel
theorem dX5_readNumber_91 : decode cX5_readNumber 91 = .ok (.if_icmp .gt 36, 3) := by decide +kernel
theorem dX5_readNumber_94 : decode cX5_readNumber 94 = .ok (.bipush 10, 2) := by decide +kernel
theorem dX5_readNumber_96 : decode cX5_readNumber 96 = .ok (.iload 4, 2) := by decide +kernel
theorem dX5_readNumber_98 : decode cX5_readNumber 98 = .ok (.imul, 1) := by decide +kernel
theorem dX5_readNumber_99 : decode cX5_readNumber 99 = .ok (.aload_n 0, 1) := by decide +kernel
theorem dX5_readNumber_100 : decode cX5_readNumber 100 = .ok (.getfield 22, 3) := by decide +kernel
theorem dX5_readNumber_103 : decode cX5_readNumber 103 = .ok (.aload_n 0, 1) := by decide +kernel
theorem dX5_readNumber_104 : decode cX5_readNumber 104 = .ok (.getfield 127, 3) := by decide +kernel
theorem dX5_readNumber_107 : decode cX5_readNumber 107 = .ok (.iaload, 1) := by decide +kernel
theorem dX5_readNumber_108 : decode cX5_readNumber 108 = .ok (.iadd, 1) := by decide +kernel
theorem dX5_readNumber_109 : decode cX5_readNumber 109 = .ok (.bipush 48, 2) := by decide +kernel
theorem dX5_readNumber_111 : decode cX5_readNumber 111 = .ok (.isub, 1) := by decide +kernel
theorem dX5_readNumber_112 : decode cX5_readNumber 112 = .ok (.istore 4, 2) := by decide +kernel
theorem dX5_readNumber_114 : decode cX5_readNumber 114 = .ok (.aload_n 0, 1) := by decide +kernel
theorem dX5_readNumber_115 : decode cX5_readNumber 115 = .ok (.dup, 1) := by decide +kernel
theorem dX5_readNumber_116 : decode cX5_readNumber 116 = .ok (.getfield 127, 3) := by decide +kernel
theorem dX5_readNumber_119 : decode cX5_readNumber 119 = .ok (.iconst 1, 1) := by decide +kernel
theorem dX5_readNumber_120 : decode cX5_readNumber 120 = .ok (.iadd, 1) := by decide +kernel
theorem dX5_readNumber_121 : decode cX5_readNumber 121 = .ok (.putfield 127, 3) := by decide +kernel
theorem dX5_readNumber_124 : decode cX5_readNumber 124 = .ok (.goto (-63), 3) := by decide +kernel
theorem dX5_readNumber_127 : decode cX5_readNumber 127 = .ok (.aload_n 0, 1) := by decide +kernel
theorem dX5_readNumber_128 : decode cX5_readNumber 128 = .ok (.getfield 25, 3) := by decide +kernel
theorem dX5_readNumber_131 : decode cX5_readNumber 131 = .ok (.iload_n 1, 1) := by decide +kernel
theorem dX5_readNumber_132 : decode cX5_readNumber 132 = .ok (.iload 4, 2) := by decide +kernel
theorem dX5_readNumber_134 : decode cX5_readNumber 134 = .ok (.iastore, 1) := by decide +kernel
theorem dX5_readNumber_135 : decode cX5_readNumber 135 = .ok (.iload 4, 2) := by decide +kernel
theorem dX5_readNumber_137 : decode cX5_readNumber 137 = .ok (.iload_n 2, 1) := by decide +kernel
theorem dX5_readNumber_138 : decode cX5_readNumber 138 = .ok (.if_icmp .lt 7, 3) := by decide +kernel
theorem dX5_readNumber_141 : decode cX5_readNumber 141 = .ok (.iconst 1, 1) := by decide +kernel
theorem dX5_readNumber_142 : decode cX5_readNumber 142 = .ok (.goto 4, 3) := by decide +kernel
theorem dX5_readNumber_145 : decode cX5_readNumber 145 = .ok (.iconst 0, 1) := by decide +kernel
theorem dX5_readNumber_146 : decode cX5_readNumber 146 = .ok (.ireturn, 1) := by decide +kernel
theorem dX5_readMill_0 : decode cX5_readMill 0 = .ok (.aload_n 0, 1) := by decide +kernel
theorem dX5_readMill_1 : decode cX5_readMill 1 = .ok (.bipush 48, 2) := by decide +kernel
theorem dX5_readMill_3 : decode cX5_readMill 3 = .ok (.bipush 52, 2) := by decide +kernel
theorem dX5_readMill_5 : decode cX5_readMill 5 = .ok (.invokevirtual 130, 3) := by decide +kernel
theorem dX5_readMill_8 : decode cX5_readMill 8 = .ok (.istore_n 1, 1) := by decide +kernel
theorem dX5_readMill_9 : decode cX5_readMill 9 = .ok (.aload_n 0, 1) := by decide +kernel
theorem dX5_readMill_10 : decode cX5_readMill 10 = .ok (.getfield 25, 3) := by decide +kernel
theorem dX5_readMill_13 : decode cX5_readMill 13 = .ok (.iconst 0, 1) := by decide +kernel
theorem dX5_readMill_14 : decode cX5_readMill 14 = .ok (.iload_n 1, 1) := by decide +kernel
theorem dX5_readMill_15 : decode cX5_readMill 15 = .ok (.ifCond .eq 18, 3) := by decide +kernel
theorem dX5_readMill_18 : decode cX5_readMill 18 = .ok (.aload_n 0, 1) := by decide +kernel
theorem dX5_readMill_19 : decode cX5_readMill 19 = .ok (.getfield 22, 3) := by decide +kernel
theorem dX5_readMill_22 : decode cX5_readMill 22 = .ok (.aload_n 0, 1) := by decide +kernel
theorem dX5_readMill_23 : decode cX5_readMill 23 = .ok (.getfield 127, 3) := by decide +kernel
theorem dX5_readMill_26 : decode cX5_readMill 26 = .ok (.iaload, 1) := by decide +kernel
theorem dX5_readMill_27 : decode cX5_readMill 27 = .ok (.bipush 48, 2) := by decide +kernel
theorem dX5_readMill_29 : decode cX5_readMill 29 = .ok (.isub, 1) := by decide +kernel
theorem dX5_readMill_30 : decode cX5_readMill 30 = .ok (.goto 4, 3) := by decide +kernel
theorem dX5_readMill_33 : decode cX5_readMill 33 = .ok (.iconst 0, 1) := by decide +kernel
theorem dX5_readMill_34 : decode cX5_readMill 34 = .ok (.iastore, 1) := by decide +kernel
theorem dX5_readMill_35 : decode cX5_readMill 35 = .ok (.aload_n 0, 1) := by decide +kernel
theorem dX5_readMill_36 : decode cX5_readMill 36 = .ok (.dup, 1) := by decide +kernel
theorem dX5_readMill_37 : decode cX5_readMill 37 = .ok (.getfield 127, 3) := by decide +kernel
theorem dX5_readMill_40 : decode cX5_readMill 40 = .ok (.iload_n 1, 1) := by decide +kernel
theorem dX5_readMill_41 : decode cX5_readMill 41 = .ok (.ifCond .eq 7, 3) := by decide +kernel
theorem dX5_readMill_44 : decode cX5_readMill 44 = .ok (.iconst 1, 1) := by decide +kernel
theorem dX5_readMill_45 : decode cX5_readMill 45 = .ok (.goto 4, 3) := by decide +kernel
theorem dX5_readMill_48 : decode cX5_readMill 48 = .ok (.iconst 0, 1) := by decide +kernel
theorem dX5_readMill_49 : decode cX5_readMill 49 = .ok (.iadd, 1) := by decide +kernel
theorem dX5_readMill_50 : decode cX5_readMill 50 = .ok (.putfield 127, 3) := by decide +kernel
theorem dX5_readMill_53 : decode cX5_readMill 53 = .ok (.iload_n 1, 1) := by decide +kernel
theorem dX5_readMill_54 : decode cX5_readMill 54 = .ok (.ireturn, 1) := by decide +kernel
theorem dX5_readPart_0 : decode cX5_readPart 0 = .ok (.aload_n 0, 1) := by decide +kernel
theorem dX5_readPart_1 : decode cX5_readPart 1 = .ok (.aload_n 0, 1) := by decide +kernel
theorem dX5_readPart_2 : decode cX5_readPart 2 = .ok (.getfield 127, 3) := by decide +kernel
theorem dX5_readPart_5 : decode cX5_readPart 5 = .ok (.aload_n 0, 1) := by decide +kernel
theorem dX5_readPart_6 : decode cX5_readPart 6 = .ok (.getfield 124, 3) := by decide +kernel
theorem dX5_readPart_9 : decode cX5_readPart 9 = .ok (.if_icmp .ge 15, 3) := by decide +kernel
theorem dX5_readPart_12 : decode cX5_readPart 12 = .ok (.aload_n 0, 1) := by decide +kernel
theorem dX5_readPart_13 : decode cX5_readPart 13 = .ok (.getfield 22, 3) := by decide +kernel
theorem dX5_readPart_16 : decode cX5_readPart 16 = .ok (.aload_n 0, 1) := by decide +kernel
theorem dX5_readPart_17 : decode cX5_readPart 17 = .ok (.getfield 127, 3) := by decide +kernel
theorem dX5_readPart_20 : decode cX5_readPart 20 = .ok (.iaload, 1) := by decide +kernel
theorem dX5_readPart_21 : decode cX5_readPart 21 = .ok (.goto 4, 3) := by decide +kernel
theorem dX5_readPart_24 : decode cX5_readPart 24 = .ok (.iconst 0, 1) := by decide +kernel
theorem dX5_readPart_25 : decode cX5_readPart 25 = .ok (.putfield 133, 3) := by decide +kernel
theorem dX5_readPart_28 : decode cX5_readPart 28 = .ok (.aload_n 0, 1) := by decide +kernel
theorem dX5_readPart_29 : decode cX5_readPart 29 = .ok (.getfield 133, 3) := by decide +kernel
theorem dX5_readPart_32 : decode cX5_readPart 32 = .ok (.bipush 115, 2) := by decide +kernel
theorem dX5_readPart_34 : decode cX5_readPart 34 = .ok (.if_icmp .eq 23, 3) := by decide +kernel
theorem dX5_readPart_37 : decode cX5_readPart 37 = .ok (.aload_n 0, 1) := by decide +kernel
theorem dX5_readPart_38 : decode cX5_readPart 38 = .ok (.getfield 133, 3) := by decide +kernel
theorem dX5_readPart_41 : decode cX5_readPart 41 = .ok (.bipush 103, 2) := by decide +kernel
theorem dX5_readPart_43 : decode cX5_readPart 43 = .ok (.if_icmp .eq 14, 3) := by decide +kernel
theorem dX5_readPart_46 : decode cX5_readPart 46 = .ok (.aload_n 0, 1) := by decide +kernel
theorem dX5_readPart_47 : decode cX5_readPart 47 = .ok (.getfield 133, 3) := by decide +kernel
theorem dX5_readPart_50 : decode cX5_readPart 50 = .ok (.bipush 43, 2) := by decide +kernel
theorem dX5_readPart_52 : decode cX5_readPart 52 = .ok (.if_icmp .eq 5, 3) := by decide +kernel
theorem dX5_readPart_55 : decode cX5_readPart 55 = .ok (.iconst 0, 1) := by decide +kernel
theorem dX5_readPart_56 : decode cX5_readPart 56 = .ok (.ireturn, 1) := by decide +kernel
theorem dX5_readPart_57 : decode cX5_readPart 57 = .ok (.aload_n 0, 1) := by decide +kernel
theorem dX5_readPart_58 : decode cX5_readPart 58 = .ok (.dup, 1) := by decide +kernel
theorem dX5_readPart_59 : decode cX5_readPart 59 = .ok (.getfield 127, 3) := by decide +kernel
theorem dX5_readPart_62 : decode cX5_readPart 62 = .ok (.iconst 1, 1) := by decide +kernel
theorem dX5_readPart_63 : decode cX5_readPart 63 = .ok (.iadd, 1) := by decide +kernel
theorem dX5_readPart_64 : decode cX5_readPart 64 = .ok (.putfield 127, 3) := by decide +kernel
theorem dX5_readPart_67 : decode cX5_readPart 67 = .ok (.aload_n 0, 1) := by decide +kernel
theorem dX5_readPart_68 : decode cX5_readPart 68 = .ok (.getfield 133, 3) := by decide +kernel
theorem dX5_readPart_71 : decode cX5_readPart 71 = .ok (.bipush 43, 2) := by decide +kernel
theorem dX5_readPart_73 : decode cX5_readPart 73 = .ok (.if_icmp .ne 12, 3) := by decide +kernel
theorem dX5_readPart_76 : decode cX5_readPart 76 = .ok (.aload_n 0, 1) := by decide +kernel
theorem dX5_readPart_77 : decode cX5_readPart 77 = .ok (.iconst 0, 1) := by decide +kernel
theorem dX5_readPart_78 : decode cX5_readPart 78 = .ok (.iconst 1, 1) := by decide +kernel
theorem dX5_readPart_79 : decode cX5_readPart 79 = .ok (.bipush 48, 2) := by decide +kernel
theorem dX5_readPart_81 : decode cX5_readPart 81 = .ok (.invokevirtual 136, 3) := by decide +kernel
theorem dX5_readPart_84 : decode cX5_readPart 84 = .ok (.ireturn, 1) := by decide +kernel
theorem dX5_readPart_85 : decode cX5_readPart 85 = .ok (.aload_n 0, 1) := by decide +kernel
theorem dX5_readPart_86 : decode cX5_readPart 86 = .ok (.invokevirtual 139, 3) := by decide +kernel
theorem dX5_readPart_89 : decode cX5_readPart 89 = .ok (.ifCond .eq 12, 3) := by decide +kernel
theorem dX5_readPart_92 : decode cX5_readPart 92 = .ok (.aload_n 0, 1) := by decide +kernel
theorem dX5_readPart_93 : decode cX5_readPart 93 = .ok (.bipush 44, 2) := by decide +kernel
theorem dX5_readPart_95 : decode cX5_readPart 95 = .ok (.invokevirtual 143, 3) := by decide +kernel
theorem dX5_readPart_98 : decode cX5_readPart 98 = .ok (.ifCond .ne 5, 3) := by decide +kernel
theorem dX5_readPart_101 : decode cX5_readPart 101 = .ok (.iconst 0, 1) := by decide +kernel
theorem dX5_readPart_102 : decode cX5_readPart 102 = .ok (.ireturn, 1) := by decide +kernel
theorem dX5_readPart_103 : decode cX5_readPart 103 = .ok (.aload_n 0, 1) := by decide +kernel
theorem dX5_readPart_104 : decode cX5_readPart 104 = .ok (.getfield 133, 3) := by decide +kernel
theorem dX5_readPart_107 : decode cX5_readPart 107 = .ok (.bipush 115, 2) := by decide +kernel
theorem dX5_readPart_109 : decode cX5_readPart 109 = .ok (.if_icmp .ne 15, 3) := by decide +kernel
theorem dX5_readPart_112 : decode cX5_readPart 112 = .ok (.aload_n 0, 1) := by decide +kernel
theorem dX5_readPart_113 : decode cX5_readPart 113 = .ok (.iconst 1, 1) := by decide +kernel
theorem dX5_readPart_114 : decode cX5_readPart 114 = .ok (.iconst 1, 1) := by decide +kernel
theorem dX5_readPart_115 : decode cX5_readPart 115 = .ok (.sipush 999, 3) := by decide +kernel
theorem dX5_readPart_118 : decode cX5_readPart 118 = .ok (.invokevirtual 136, 3) := by decide +kernel
theorem dX5_readPart_121 : decode cX5_readPart 121 = .ok (.goto 12, 3) := by decide +kernel
theorem dX5_readPart_124 : decode cX5_readPart 124 = .ok (.aload_n 0, 1) := by decide +kernel
theorem dX5_readPart_125 : decode cX5_readPart 125 = .ok (.iconst 1, 1) := by decide +kernel
theorem dX5_readPart_126 : decode cX5_readPart 126 = .ok (.bipush 8, 2) := by decide +kernel
theorem dX5_readPart_128 : decode cX5_readPart 128 = .ok (.bipush 60, 2) := by decide +kernel
theorem dX5_readPart_130 : decode cX5_readPart 130 = .ok (.invokevirtual 136, 3) := by decide +kernel
theorem dX5_readPart_133 : decode cX5_readPart 133 = .ok (.istore_n 1, 1) := by decide +kernel
theorem dX5_readPart_134 : decode cX5_readPart 134 = .ok (.iload_n 1, 1) := by decide +kernel
theorem dX5_readPart_135 : decode cX5_readPart 135 = .ok (.ifCond .eq 52, 3) := by decide +kernel
theorem dX5_readPart_138 : decode cX5_readPart 138 = .ok (.aload_n 0, 1) := by decide +kernel
theorem dX5_readPart_139 : decode cX5_readPart 139 = .ok (.bipush 44, 2) := by decide +kernel
theorem dX5_readPart_141 : decode cX5_readPart 141 = .ok (.invokevirtual 143, 3) := by decide +kernel
theorem dX5_readPart_144 : decode cX5_readPart 144 = .ok (.ifCond .eq 43, 3) := by decide +kernel
theorem dX5_readPart_147 : decode cX5_readPart 147 = .ok (.aload_n 0, 1) := by decide +kernel
theorem dX5_readPart_148 : decode cX5_readPart 148 = .ok (.getfield 133, 3) := by decide +kernel
theorem dX5_readPart_151 : decode cX5_readPart 151 = .ok (.bipush 115, 2) := by decide +kernel
theorem dX5_readPart_153 : decode cX5_readPart 153 = .ok (.if_icmp .ne 18, 3) := by decide +kernel
theorem dX5_readPart_156 : decode cX5_readPart 156 = .ok (.aload_n 0, 1) := by decide +kernel
theorem dX5_readPart_157 : decode cX5_readPart 157 = .ok (.iconst 2, 1) := by decide +kernel
theorem dX5_readPart_158 : decode cX5_readPart 158 = .ok (.iconst 1, 1) := by decide +kernel
theorem dX5_readPart_159 : decode cX5_readPart 159 = .ok (.sipush 9999, 3) := by decide +kernel
theorem dX5_readPart_162 : decode cX5_readPart 162 = .ok (.invokevirtual 136, 3) := by decide +kernel
theorem dX5_readPart_165 : decode cX5_readPart 165 = .ok (.ifCond .eq 22, 3) := by decide +kernel
theorem dX5_readPart_168 : decode cX5_readPart 168 = .ok (.goto 15, 3) := by decide +kernel
theorem dX5_readPart_171 : decode cX5_readPart 171 = .ok (.aload_n 0, 1) := by decide +kernel
theorem dX5_readPart_172 : decode cX5_readPart 172 = .ok (.iconst 2, 1) := by decide +kernel
theorem dX5_readPart_173 : decode cX5_readPart 173 = .ok (.bipush 8, 2) := by decide +kernel
theorem dX5_readPart_175 : decode cX5_readPart 175 = .ok (.bipush 60, 2) := by decide +kernel
theorem dX5_readPart_177 : decode cX5_readPart 177 = .ok (.invokevirtual 136, 3) := by decide +kernel
theorem dX5_readPart_180 : decode cX5_readPart 180 = .ok (.ifCond .eq 7, 3) := by decide +kernel
theorem dX5_readPart_183 : decode cX5_readPart 183 = .ok (.iconst 1, 1) := by decide +kernel
theorem dX5_readPart_184 : decode cX5_readPart 184 = .ok (.goto 4, 3) := by decide +kernel
theorem dX5_readPart_187 : decode cX5_readPart 187 = .ok (.iconst 0, 1) := by decide +kernel
theorem dX5_readPart_188 : decode cX5_readPart 188 = .ok (.ireturn, 1) := by decide +kernel
theorem dX5_does_0 : decode cX5_does 0 = .ok (.aload_n 0, 1) := by decide +kernel
theorem dX5_does_1 : decode cX5_does 1 = .ok (.getfield 133, 3) := by decide +kernel
theorem dX5_does_4 : decode cX5_does 4 = .ok (.bipush 43, 2) := by decide +kernel
theorem dX5_does_6 : decode cX5_does 6 = .ok (.if_icmp .ne 22, 3) := by decide +kernel
theorem dX5_does_9 : decode cX5_does 9 = .ok (.aload_n 0, 1) := by decide +kernel
theorem dX5_does_10 : decode cX5_does 10 = .ok (.aload_n 0, 1) := by decide +kernel
theorem dX5_does_11 : decode cX5_does 11 = .ok (.getfield 25, 3) := by decide +kernel
theorem dX5_does_14 : decode cX5_does 14 = .ok (.iconst 0, 1) := by decide +kernel
theorem dX5_does_15 : decode cX5_does 15 = .ok (.iaload, 1) := by decide +kernel
theorem dX5_does_16 : decode cX5_does 16 = .ok (.invokevirtual 108, 3) := by decide +kernel
theorem dX5_does_19 : decode cX5_does 19 = .ok (.ifCond .lt 7, 3) := by decide +kernel
theorem dX5_does_22 : decode cX5_does 22 = .ok (.iconst 1, 1) := by decide +kernel
theorem dX5_does_23 : decode cX5_does 23 = .ok (.goto 4, 3) := by decide +kernel
theorem dX5_does_26 : decode cX5_does 26 = .ok (.iconst 0, 1) := by decide +kernel
theorem dX5_does_27 : decode cX5_does 27 = .ok (.ireturn, 1) := by decide +kernel
theorem dX5_does_28 : decode cX5_does 28 = .ok (.aload_n 0, 1) := by decide +kernel
theorem dX5_does_29 : decode cX5_does 29 = .ok (.getfield 133, 3) := by decide +kernel
theorem dX5_does_32 : decode cX5_does 32 = .ok (.bipush 103, 2) := by decide +kernel
theorem dX5_does_34 : decode cX5_does 34 = .ok (.if_icmp .ne 34, 3) := by decide +kernel
theorem dX5_does_37 : decode cX5_does 37 = .ok (.aload_n 0, 1) := by decide +kernel
theorem dX5_does_38 : decode cX5_does 38 = .ok (.aload_n 0, 1) := by decide +kernel
theorem dX5_does_39 : decode cX5_does 39 = .ok (.getfield 25, 3) := by decide +kernel
theorem dX5_does_42 : decode cX5_does 42 = .ok (.iconst 0, 1) := by decide +kernel
theorem dX5_does_43 : decode cX5_does 43 = .ok (.iaload, 1) := by decide +kernel
theorem dX5_does_44 : decode cX5_does 44 = .ok (.aload_n 0, 1) := by decide +kernel
theorem dX5_does_45 : decode cX5_does 45 = .ok (.getfield 25, 3) := by decide +kernel
theorem dX5_does_48 : decode cX5_does 48 = .ok (.iconst 1, 1) := by decide +kernel
theorem dX5_does_49 : decode cX5_does 49 = .ok (.iaload, 1) := by decide +kernel
theorem dX5_does_50 : decode cX5_does 50 = .ok (.aload_n 0, 1) := by decide +kernel
theorem dX5_does_51 : decode cX5_does 51 = .ok (.getfield 25, 3) := by decide +kernel
theorem dX5_does_54 : decode cX5_does 54 = .ok (.iconst 2, 1) := by decide +kernel
theorem dX5_does_55 : decode cX5_does 55 = .ok (.iaload, 1) := by decide +kernel
theorem dX5_does_56 : decode cX5_does 56 = .ok (.invokevirtual 104, 3) := by decide +kernel
theorem dX5_does_59 : decode cX5_does 59 = .ok (.ifCond .le 7, 3) := by decide +kernel
theorem dX5_does_62 : decode cX5_does 62 = .ok (.iconst 1, 1) := by decide +kernel
theorem dX5_does_63 : decode cX5_does 63 = .ok (.goto 4, 3) := by decide +kernel
theorem dX5_does_66 : decode cX5_does 66 = .ok (.iconst 0, 1) := by decide +kernel
theorem dX5_does_67 : decode cX5_does 67 = .ok (.ireturn, 1) := by decide +kernel
theorem dX5_does_68 : decode cX5_does 68 = .ok (.aload_n 0, 1) := by decide +kernel
theorem dX5_does_69 : decode cX5_does 69 = .ok (.aload_n 0, 1) := by decide +kernel
theorem dX5_does_70 : decode cX5_does 70 = .ok (.getfield 25, 3) := by decide +kernel
theorem dX5_does_73 : decode cX5_does 73 = .ok (.iconst 0, 1) := by decide +kernel
theorem dX5_does_74 : decode cX5_does 74 = .ok (.iaload, 1) := by decide +kernel
theorem dX5_does_75 : decode cX5_does 75 = .ok (.invokevirtual 115, 3) := by decide +kernel
theorem dX5_does_78 : decode cX5_does 78 = .ok (.ifCond .eq 32, 3) := by decide +kernel
theorem dX5_does_81 : decode cX5_does 81 = .ok (.aload_n 0, 1) := by decide +kernel
theorem dX5_does_82 : decode cX5_does 82 = .ok (.aload_n 0, 1) := by decide +kernel
theorem dX5_does_83 : decode cX5_does 83 = .ok (.getfield 25, 3) := by decide +kernel
theorem dX5_does_86 : decode cX5_does 86 = .ok (.iconst 0, 1) := by decide +kernel
theorem dX5_does_87 : decode cX5_does 87 = .ok (.iaload, 1) := by decide +kernel
theorem dX5_does_88 : decode cX5_does 88 = .ok (.aload_n 0, 1) := by decide +kernel
theorem dX5_does_89 : decode cX5_does 89 = .ok (.getfield 25, 3) := by decide +kernel
theorem dX5_does_92 : decode cX5_does 92 = .ok (.iconst 1, 1) := by decide +kernel
theorem dX5_does_93 : decode cX5_does 93 = .ok (.iaload, 1) := by decide +kernel
theorem dX5_does_94 : decode cX5_does 94 = .ok (.aload_n 0, 1) := by decide +kernel
theorem dX5_does_95 : decode cX5_does 95 = .ok (.getfield 25, 3) := by decide +kernel
theorem dX5_does_98 : decode cX5_does 98 = .ok (.iconst 2, 1) := by decide +kernel
theorem dX5_does_99 : decode cX5_does 99 = .ok (.iaload, 1) := by decide +kernel
theorem dX5_does_100 : decode cX5_does 100 = .ok (.invokevirtual 118, 3) := by decide +kernel
theorem dX5_does_103 : decode cX5_does 103 = .ok (.ifCond .lt 7, 3) := by decide +kernel
theorem dX5_does_106 : decode cX5_does 106 = .ok (.iconst 1, 1) := by decide +kernel
theorem dX5_does_107 : decode cX5_does 107 = .ok (.goto 4, 3) := by decide +kernel
theorem dX5_does_110 : decode cX5_does 110 = .ok (.iconst 0, 1) := by decide +kernel
theorem dX5_does_111 : decode cX5_does 111 = .ok (.ireturn, 1) := by decide +kernel
theorem dX5_readText_0 : decode cX5_readText 0 = .ok (.aload_n 0, 1) := by decide +kernel
theorem dX5_readText_1 : decode cX5_readText 1 = .ok (.iconst 0, 1) := by decide +kernel
theorem dX5_readText_2 : decode cX5_readText 2 = .ok (.putfield 127, 3) := by decide +kernel
theorem dX5_readText_5 : decode cX5_readText 5 = .ok (.aload_n 0, 1) := by decide +kernel
theorem dX5_readText_6 : decode cX5_readText 6 = .ok (.iconst 0, 1) := by decide +kernel
theorem dX5_readText_7 : decode cX5_readText 7 = .ok (.putfield 146, 3) := by decide +kernel
theorem dX5_readText_10 : decode cX5_readText 10 = .ok (.aload_n 0, 1) := by decide +kernel
theorem dX5_readText_11 : decode cX5_readText 11 = .ok (.invokevirtual 149, 3) := by decide +kernel
theorem dX5_readText_14 : decode cX5_readText 14 = .ok (.istore_n 2, 1) := by decide +kernel
theorem dX5_readText_15 : decode cX5_readText 15 = .ok (.iload_n 2, 1) := by decide +kernel
theorem dX5_readText_16 : decode cX5_readText 16 = .ok (.ifCond .eq 64, 3) := by decide +kernel
theorem dX5_readText_19 : decode cX5_readText 19 = .ok (.iload_n 1, 1) := by decide +kernel
theorem dX5_readText_20 : decode cX5_readText 20 = .ok (.ifCond .eq 12, 3) := by decide +kernel
theorem dX5_readText_23 : decode cX5_readText 23 = .ok (.aload_n 0, 1) := by decide +kernel
theorem dX5_readText_24 : decode cX5_readText 24 = .ok (.invokevirtual 152, 3) := by decide +kernel
theorem dX5_readText_27 : decode cX5_readText 27 = .ok (.ifCond .ne 5, 3) := by decide +kernel
theorem dX5_readText_30 : decode cX5_readText 30 = .ok (.iconst 1, 1) := by decide +kernel
theorem dX5_readText_31 : decode cX5_readText 31 = .ok (.ireturn, 1) := by decide +kernel
theorem dX5_readText_32 : decode cX5_readText 32 = .ok (.aload_n 0, 1) := by decide +kernel
theorem dX5_readText_33 : decode cX5_readText 33 = .ok (.dup, 1) := by decide +kernel
theorem dX5_readText_34 : decode cX5_readText 34 = .ok (.getfield 146, 3) := by decide +kernel
theorem dX5_readText_37 : decode cX5_readText 37 = .ok (.iconst 1, 1) := by decide +kernel
theorem dX5_readText_38 : decode cX5_readText 38 = .ok (.iadd, 1) := by decide +kernel
theorem dX5_readText_39 : decode cX5_readText 39 = .ok (.putfield 146, 3) := by decide +kernel
theorem dX5_readText_42 : decode cX5_readText 42 = .ok (.aload_n 0, 1) := by decide +kernel
theorem dX5_readText_43 : decode cX5_readText 43 = .ok (.getfield 127, 3) := by decide +kernel
theorem dX5_readText_46 : decode cX5_readText 46 = .ok (.aload_n 0, 1) := by decide +kernel
theorem dX5_readText_47 : decode cX5_readText 47 = .ok (.getfield 124, 3) := by decide +kernel
theorem dX5_readText_50 : decode cX5_readText 50 = .ok (.if_icmp .ne 5, 3) := by decide +kernel
theorem dX5_readText_53 : decode cX5_readText 53 = .ok (.iconst 1, 1) := by decide +kernel
theorem dX5_readText_54 : decode cX5_readText 54 = .ok (.ireturn, 1) := by decide +kernel
theorem dX5_readText_55 : decode cX5_readText 55 = .ok (.aload_n 0, 1) := by decide +kernel
theorem dX5_readText_56 : decode cX5_readText 56 = .ok (.bipush 59, 2) := by decide +kernel
theorem dX5_readText_58 : decode cX5_readText 58 = .ok (.invokevirtual 143, 3) := by decide +kernel
theorem dX5_readText_61 : decode cX5_readText 61 = .ok (.ifCond .eq 14, 3) := by decide +kernel
theorem dX5_readText_64 : decode cX5_readText 64 = .ok (.aload_n 0, 1) := by decide +kernel
theorem dX5_readText_65 : decode cX5_readText 65 = .ok (.invokevirtual 149, 3) := by decide +kernel
theorem dX5_readText_68 : decode cX5_readText 68 = .ok (.ifCond .eq 7, 3) := by decide +kernel
theorem dX5_readText_71 : decode cX5_readText 71 = .ok (.iconst 1, 1) := by decide +kernel
theorem dX5_readText_72 : decode cX5_readText 72 = .ok (.goto 4, 3) := by decide +kernel
theorem dX5_readText_75 : decode cX5_readText 75 = .ok (.iconst 0, 1) := by decide +kernel
theorem dX5_readText_76 : decode cX5_readText 76 = .ok (.istore_n 2, 1) := by decide +kernel
theorem dX5_readText_77 : decode cX5_readText 77 = .ok (.goto (-62), 3) := by decide +kernel
theorem dX5_readText_80 : decode cX5_readText 80 = .ok (.iconst 0, 1) := by decide +kernel
theorem dX5_readText_81 : decode cX5_readText 81 = .ok (.ireturn, 1) := by decide +kernel
theorem dX5_firstError_0 : decode cX5_firstError 0 = .ok (.aload_n 0, 1) := by decide +kernel
theorem dX5_firstError_1 : decode cX5_firstError 1 = .ok (.iconst 0, 1) := by decide +kernel
theorem dX5_firstError_2 : decode cX5_firstError 2 = .ok (.putfield 32, 3) := by decide +kernel
theorem dX5_firstError_5 : decode cX5_firstError 5 = .ok (.aload_n 0, 1) := by decide +kernel
theorem dX5_firstError_6 : decode cX5_firstError 6 = .ok (.iconst 0, 1) := by decide +kernel
theorem dX5_firstError_7 : decode cX5_firstError 7 = .ok (.invokevirtual 155, 3) := by decide +kernel
theorem dX5_firstError_10 : decode cX5_firstError 10 = .ok (.ifCond .eq 10, 3) := by decide +kernel
theorem dX5_firstError_13 : decode cX5_firstError 13 = .ok (.aload_n 0, 1) := by decide +kernel
theorem dX5_firstError_14 : decode cX5_firstError 14 = .ok (.getfield 124, 3) := by decide +kernel
theorem dX5_firstError_17 : decode cX5_firstError 17 = .ok (.goto 7, 3) := by decide +kernel
theorem dX5_firstError_20 : decode cX5_firstError 20 = .ok (.aload_n 0, 1) := by decide +kernel
theorem dX5_firstError_21 : decode cX5_firstError 21 = .ok (.getfield 127, 3) := by decide +kernel
theorem dX5_firstError_24 : decode cX5_firstError 24 = .ok (.ireturn, 1) := by decide +kernel
theorem dX5_play_0 : decode cX5_play 0 = .ok (.aload_n 0, 1) := by decide +kernel
theorem dX5_play_1 : decode cX5_play 1 = .ok (.aload_n 0, 1) := by decide +kernel
theorem dX5_play_2 : decode cX5_play 2 = .ok (.iconst 0, 1) := by decide +kernel
theorem dX5_play_3 : decode cX5_play 3 = .ok (.invokevirtual 155, 3) := by decide +kernel
theorem dX5_play_6 : decode cX5_play 6 = .ok (.ifCond .eq 7, 3) := by decide +kernel
theorem dX5_play_9 : decode cX5_play 9 = .ok (.iconst 0, 1) := by decide +kernel
theorem dX5_play_10 : decode cX5_play 10 = .ok (.goto 4, 3) := by decide +kernel
theorem dX5_play_13 : decode cX5_play 13 = .ok (.iconst 1, 1) := by decide +kernel
theorem dX5_play_14 : decode cX5_play 14 = .ok (.invokevirtual 98, 3) := by decide +kernel
theorem dX5_play_17 : decode cX5_play 17 = .ok (.ifCond .ne 5, 3) := by decide +kernel
theorem dX5_play_20 : decode cX5_play 20 = .ok (.iconst 0, 1) := by decide +kernel
theorem dX5_play_21 : decode cX5_play 21 = .ok (.ireturn, 1) := by decide +kernel
theorem dX5_play_22 : decode cX5_play 22 = .ok (.aload_n 0, 1) := by decide +kernel
theorem dX5_play_23 : decode cX5_play 23 = .ok (.invokevirtual 101, 3) := by decide +kernel
theorem dX5_play_26 : decode cX5_play 26 = .ok (.aload_n 0, 1) := by decide +kernel
theorem dX5_play_27 : decode cX5_play 27 = .ok (.iconst 1, 1) := by decide +kernel
theorem dX5_play_28 : decode cX5_play 28 = .ok (.invokevirtual 155, 3) := by decide +kernel
theorem dX5_play_31 : decode cX5_play 31 = .ok (.istore_n 1, 1) := by decide +kernel
theorem dX5_play_32 : decode cX5_play 32 = .ok (.aload_n 0, 1) := by decide +kernel
theorem dX5_play_33 : decode cX5_play 33 = .ok (.iconst 0, 1) := by decide +kernel
theorem dX5_play_34 : decode cX5_play 34 = .ok (.putfield 124, 3) := by decide +kernel
theorem dX5_play_37 : decode cX5_play 37 = .ok (.iload_n 1, 1) := by decide +kernel
theorem dX5_play_38 : decode cX5_play 38 = .ok (.ifCond .eq 10, 3) := by decide +kernel
theorem dX5_play_41 : decode cX5_play 41 = .ok (.aload_n 0, 1) := by decide +kernel
theorem dX5_play_42 : decode cX5_play 42 = .ok (.getfield 146, 3) := by decide +kernel
theorem dX5_play_45 : decode cX5_play 45 = .ok (.goto 4, 3) := by decide +kernel
theorem dX5_play_48 : decode cX5_play 48 = .ok (.iconst 0, 1) := by decide +kernel
theorem dX5_play_49 : decode cX5_play 49 = .ok (.ireturn, 1) := by decide +kernel
theorem dX5_undo_0 : decode cX5_undo 0 = .ok (.aload_n 0, 1) := by decide +kernel
theorem dX5_undo_1 : decode cX5_undo 1 = .ok (.aload_n 0, 1) := by decide +kernel
theorem dX5_undo_2 : decode cX5_undo 2 = .ok (.getfield 40, 3) := by decide +kernel
theorem dX5_undo_5 : decode cX5_undo 5 = .ok (.ifCond .le 7, 3) := by decide +kernel
theorem dX5_undo_8 : decode cX5_undo 8 = .ok (.iconst 0, 1) := by decide +kernel
theorem dX5_undo_9 : decode cX5_undo 9 = .ok (.goto 4, 3) := by decide +kernel
theorem dX5_undo_12 : decode cX5_undo 12 = .ok (.iconst 1, 1) := by decide +kernel
theorem dX5_undo_13 : decode cX5_undo 13 = .ok (.invokevirtual 98, 3) := by decide +kernel
theorem dX5_undo_16 : decode cX5_undo 16 = .ok (.ifCond .ne 5, 3) := by decide +kernel
theorem dX5_undo_19 : decode cX5_undo 19 = .ok (.iconst 0, 1) := by decide +kernel
theorem dX5_undo_20 : decode cX5_undo 20 = .ok (.ireturn, 1) := by decide +kernel
theorem dX5_undo_21 : decode cX5_undo 21 = .ok (.aload_n 0, 1) := by decide +kernel
theorem dX5_undo_22 : decode cX5_undo 22 = .ok (.dup, 1) := by decide +kernel
theorem dX5_undo_23 : decode cX5_undo 23 = .ok (.getfield 40, 3) := by decide +kernel
theorem dX5_undo_26 : decode cX5_undo 26 = .ok (.iconst 1, 1) := by decide +kernel
theorem dX5_undo_27 : decode cX5_undo 27 = .ok (.isub, 1) := by decide +kernel
theorem dX5_undo_28 : decode cX5_undo 28 = .ok (.putfield 40, 3) := by decide +kernel
theorem dX5_undo_31 : decode cX5_undo 31 = .ok (.aload_n 0, 1) := by decide +kernel
theorem dX5_undo_32 : decode cX5_undo 32 = .ok (.getfield 13, 3) := by decide +kernel
theorem dX5_undo_35 : decode cX5_undo 35 = .ok (.sipush 182, 3) := by decide +kernel
theorem dX5_undo_38 : decode cX5_undo 38 = .ok (.aload_n 0, 1) := by decide +kernel
theorem dX5_undo_39 : decode cX5_undo 39 = .ok (.getfield 40, 3) := by decide +kernel
theorem dX5_undo_42 : decode cX5_undo 42 = .ok (.imul, 1) := by decide +kernel
theorem dX5_undo_43 : decode cX5_undo 43 = .ok (.aload_n 0, 1) := by decide +kernel
theorem dX5_undo_44 : decode cX5_undo 44 = .ok (.getfield 7, 3) := by decide +kernel
theorem dX5_undo_47 : decode cX5_undo 47 = .ok (.iconst 0, 1) := by decide +kernel
theorem dX5_undo_48 : decode cX5_undo 48 = .ok (.invokestatic 43, 3) := by decide +kernel
theorem dX5_undo_51 : decode cX5_undo 51 = .ok (.aload_n 0, 1) := by decide +kernel
theorem dX5_undo_52 : decode cX5_undo 52 = .ok (.getfield 40, 3) := by decide +kernel
theorem dX5_undo_55 : decode cX5_undo 55 = .ok (.ireturn, 1) := by decide +kernel
theorem dX5_keep_0 : decode cX5_keep 0 = .ok (.aload_n 0, 1) := by decide +kernel
theorem dX5_keep_1 : decode cX5_keep 1 = .ok (.iconst 0, 1) := by decide +kernel
theorem dX5_keep_2 : decode cX5_keep 2 = .ok (.putfield 32, 3) := by decide +kernel
theorem dX5_keep_5 : decode cX5_keep 5 = .ok (.aload_n 0, 1) := by decide +kernel
theorem dX5_keep_6 : decode cX5_keep 6 = .ok (.getfield 7, 3) := by decide +kernel
theorem dX5_keep_9 : decode cX5_keep 9 = .ok (.iconst 0, 1) := by decide +kernel
theorem dX5_keep_10 : decode cX5_keep 10 = .ok (.aload_n 0, 1) := by decide +kernel
theorem dX5_keep_11 : decode cX5_keep 11 = .ok (.getfield 16, 3) := by decide +kernel
theorem dX5_keep_14 : decode cX5_keep 14 = .ok (.iconst 0, 1) := by decide +kernel
theorem dX5_keep_15 : decode cX5_keep 15 = .ok (.invokestatic 43, 3) := by decide +kernel
theorem dX5_keep_18 : decode cX5_keep 18 = .ok (.aload_n 0, 1) := by decide +kernel
theorem dX5_keep_19 : decode cX5_keep 19 = .ok (.iconst 1, 1) := by decide +kernel
theorem dX5_keep_20 : decode cX5_keep 20 = .ok (.putfield 159, 3) := by decide +kernel
theorem dX5_keep_23 : decode cX5_keep 23 = .ok (.aload_n 0, 1) := by decide +kernel
theorem dX5_keep_24 : decode cX5_keep 24 = .ok (.getfield 7, 3) := by decide +kernel
theorem dX5_keep_27 : decode cX5_keep 27 = .ok (.iconst 0, 1) := by decide +kernel
theorem dX5_keep_28 : decode cX5_keep 28 = .ok (.iaload, 1) := by decide +kernel
theorem dX5_keep_29 : decode cX5_keep 29 = .ok (.ireturn, 1) := by decide +kernel
theorem dX5_restore_0 : decode cX5_restore 0 = .ok (.aload_n 0, 1) := by decide +kernel
theorem dX5_restore_1 : decode cX5_restore 1 = .ok (.aload_n 0, 1) := by decide +kernel
theorem dX5_restore_2 : decode cX5_restore 2 = .ok (.getfield 159, 3) := by decide +kernel
theorem dX5_restore_5 : decode cX5_restore 5 = .ok (.ifCond .eq 7, 3) := by decide +kernel
theorem dX5_restore_8 : decode cX5_restore 8 = .ok (.iconst 0, 1) := by decide +kernel
theorem dX5_restore_9 : decode cX5_restore 9 = .ok (.goto 4, 3) := by decide +kernel
theorem dX5_restore_12 : decode cX5_restore 12 = .ok (.iconst 1, 1) := by decide +kernel
theorem dX5_restore_13 : decode cX5_restore 13 = .ok (.invokevirtual 98, 3) := by decide +kernel
theorem dX5_restore_16 : decode cX5_restore 16 = .ok (.ifCond .ne 5, 3) := by decide +kernel
theorem dX5_restore_19 : decode cX5_restore 19 = .ok (.iconst 0, 1) := by decide +kernel
theorem dX5_restore_20 : decode cX5_restore 20 = .ok (.ireturn, 1) := by decide +kernel
theorem dX5_restore_21 : decode cX5_restore 21 = .ok (.aload_n 0, 1) := by decide +kernel
theorem dX5_restore_22 : decode cX5_restore 22 = .ok (.invokevirtual 101, 3) := by decide +kernel
theorem dX5_restore_25 : decode cX5_restore 25 = .ok (.aload_n 0, 1) := by decide +kernel
theorem dX5_restore_26 : decode cX5_restore 26 = .ok (.getfield 16, 3) := by decide +kernel
theorem dX5_restore_29 : decode cX5_restore 29 = .ok (.iconst 0, 1) := by decide +kernel
theorem dX5_restore_30 : decode cX5_restore 30 = .ok (.aload_n 0, 1) := by decide +kernel
theorem dX5_restore_31 : decode cX5_restore 31 = .ok (.getfield 7, 3) := by decide +kernel
theorem dX5_restore_34 : decode cX5_restore 34 = .ok (.iconst 0, 1) := by decide +kernel
theorem dX5_restore_35 : decode cX5_restore 35 = .ok (.invokestatic 43, 3) := by decide +kernel
theorem dX5_restore_38 : decode cX5_restore 38 = .ok (.aload_n 0, 1) := by decide +kernel
theorem dX5_restore_39 : decode cX5_restore 39 = .ok (.getfield 7, 3) := by decide +kernel
theorem dX5_restore_42 : decode cX5_restore 42 = .ok (.iconst 0, 1) := by decide +kernel
theorem dX5_restore_43 : decode cX5_restore 43 = .ok (.iaload, 1) := by decide +kernel
theorem dX5_restore_44 : decode cX5_restore 44 = .ok (.ireturn, 1) := by decide +kernel
theorem dX5_millTold_0 : decode cX5_millTold 0 = .ok (.iload_n 2, 1) := by decide +kernel
theorem dX5_millTold_1 : decode cX5_millTold 1 = .ok (.tableswitch 65 7 10 #[31, 39, 49, 57], 31) := by decide +kernel
theorem dX5_millTold_32 : decode cX5_millTold 32 = .ok (.aload_n 0, 1) := by decide +kernel
theorem dX5_millTold_33 : decode cX5_millTold 33 = .ok (.iload_n 1, 1) := by decide +kernel
theorem dX5_millTold_34 : decode cX5_millTold 34 = .ok (.bipush 9, 2) := by decide +kernel
theorem dX5_millTold_36 : decode cX5_millTold 36 = .ok (.invokevirtual 47, 3) := by decide +kernel
theorem dX5_millTold_39 : decode cX5_millTold 39 = .ok (.ireturn, 1) := by decide +kernel
theorem dX5_millTold_40 : decode cX5_millTold 40 = .ok (.aload_n 0, 1) := by decide +kernel
theorem dX5_millTold_41 : decode cX5_millTold 41 = .ok (.iload_n 1, 1) := by decide +kernel
theorem dX5_millTold_42 : decode cX5_millTold 42 = .ok (.invokevirtual 64, 3) := by decide +kernel
theorem dX5_millTold_45 : decode cX5_millTold 45 = .ok (.sipush 1000, 3) := by decide +kernel
theorem dX5_millTold_48 : decode cX5_millTold 48 = .ok (.iadd, 1) := by decide +kernel
theorem dX5_millTold_49 : decode cX5_millTold 49 = .ok (.ireturn, 1) := by decide +kernel
theorem dX5_millTold_50 : decode cX5_millTold 50 = .ok (.aload_n 0, 1) := by decide +kernel
theorem dX5_millTold_51 : decode cX5_millTold 51 = .ok (.iload_n 1, 1) := by decide +kernel
theorem dX5_millTold_52 : decode cX5_millTold 52 = .ok (.bipush 7, 2) := by decide +kernel
theorem dX5_millTold_54 : decode cX5_millTold 54 = .ok (.invokevirtual 47, 3) := by decide +kernel
theorem dX5_millTold_57 : decode cX5_millTold 57 = .ok (.ireturn, 1) := by decide +kernel
theorem dX5_millTold_58 : decode cX5_millTold 58 = .ok (.aload_n 0, 1) := by decide +kernel
theorem dX5_millTold_59 : decode cX5_millTold 59 = .ok (.iload_n 1, 1) := by decide +kernel
theorem dX5_millTold_60 : decode cX5_millTold 60 = .ok (.bipush 8, 2) := by decide +kernel
theorem dX5_millTold_62 : decode cX5_millTold 62 = .ok (.invokevirtual 47, 3) := by decide +kernel
theorem dX5_millTold_65 : decode cX5_millTold 65 = .ok (.ireturn, 1) := by decide +kernel
theorem dX5_millTold_66 : decode cX5_millTold 66 = .ok (.aload_n 0, 1) := by decide +kernel
theorem dX5_millTold_67 : decode cX5_millTold 67 = .ok (.iload_n 1, 1) := by decide +kernel
theorem dX5_millTold_68 : decode cX5_millTold 68 = .ok (.iload_n 2, 1) := by decide +kernel
theorem dX5_millTold_69 : decode cX5_millTold 69 = .ok (.invokevirtual 47, 3) := by decide +kernel
theorem dX5_millTold_72 : decode cX5_millTold 72 = .ok (.ireturn, 1) := by decide +kernel
theorem dX5_mill_0 : decode cX5_mill 0 = .ok (.aload_n 0, 1) := by decide +kernel
theorem dX5_mill_1 : decode cX5_mill 1 = .ok (.iload_n 1, 1) := by decide +kernel
theorem dX5_mill_2 : decode cX5_mill 2 = .ok (.invokestatic 94, 3) := by decide +kernel
theorem dX5_mill_5 : decode cX5_mill 5 = .ok (.ifCond .ne 7, 3) := by decide +kernel
theorem dX5_mill_8 : decode cX5_mill 8 = .ok (.iconst 1, 1) := by decide +kernel
theorem dX5_mill_9 : decode cX5_mill 9 = .ok (.goto 18, 3) := by decide +kernel
theorem dX5_mill_12 : decode cX5_mill 12 = .ok (.iload_n 2, 1) := by decide +kernel
theorem dX5_mill_13 : decode cX5_mill 13 = .ok (.iconst 0, 1) := by decide +kernel
theorem dX5_mill_14 : decode cX5_mill 14 = .ok (.bipush 10, 2) := by decide +kernel
theorem dX5_mill_16 : decode cX5_mill 16 = .ok (.invokestatic 36, 3) := by decide +kernel
theorem dX5_mill_19 : decode cX5_mill 19 = .ok (.ifCond .ne 7, 3) := by decide +kernel
theorem dX5_mill_22 : decode cX5_mill 22 = .ok (.iconst 2, 1) := by decide +kernel
theorem dX5_mill_23 : decode cX5_mill 23 = .ok (.goto 4, 3) := by decide +kernel
theorem dX5_mill_26 : decode cX5_mill 26 = .ok (.iconst 0, 1) := by decide +kernel
theorem dX5_mill_27 : decode cX5_mill 27 = .ok (.invokevirtual 98, 3) := by decide +kernel
theorem dX5_mill_30 : decode cX5_mill 30 = .ok (.ifCond .eq 12, 3) := by decide +kernel
theorem dX5_mill_33 : decode cX5_mill 33 = .ok (.aload_n 0, 1) := by decide +kernel
theorem dX5_mill_34 : decode cX5_mill 34 = .ok (.iload_n 1, 1) := by decide +kernel
theorem dX5_mill_35 : decode cX5_mill 35 = .ok (.iload_n 2, 1) := by decide +kernel
theorem dX5_mill_36 : decode cX5_mill 36 = .ok (.invokevirtual 163, 3) := by decide +kernel
theorem dX5_mill_39 : decode cX5_mill 39 = .ok (.goto 4, 3) := by decide +kernel
theorem dX5_mill_42 : decode cX5_mill 42 = .ok (.iconst 0, 1) := by decide +kernel
theorem dX5_mill_43 : decode cX5_mill 43 = .ok (.ireturn, 1) := by decide +kernel
theorem dX5_sackTold_0 : decode cX5_sackTold 0 = .ok (.iload_n 2, 1) := by decide +kernel
theorem dX5_sackTold_1 : decode cX5_sackTold 1 = .ok (.aload_n 0, 1) := by decide +kernel
theorem dX5_sackTold_2 : decode cX5_sackTold 2 = .ok (.iload_n 1, 1) := by decide +kernel
theorem dX5_sackTold_3 : decode cX5_sackTold 3 = .ok (.bipush 9, 2) := by decide +kernel
theorem dX5_sackTold_5 : decode cX5_sackTold 5 = .ok (.invokevirtual 47, 3) := by decide +kernel
theorem dX5_sackTold_8 : decode cX5_sackTold 8 = .ok (.if_icmp .ge 19, 3) := by decide +kernel
theorem dX5_sackTold_11 : decode cX5_sackTold 11 = .ok (.aload_n 0, 1) := by decide +kernel
theorem dX5_sackTold_12 : decode cX5_sackTold 12 = .ok (.getfield 7, 3) := by decide +kernel
theorem dX5_sackTold_15 : decode cX5_sackTold 15 = .ok (.aload_n 0, 1) := by decide +kernel
theorem dX5_sackTold_16 : decode cX5_sackTold 16 = .ok (.iload_n 1, 1) := by decide +kernel
theorem dX5_sackTold_17 : decode cX5_sackTold 17 = .ok (.iload_n 2, 1) := by decide +kernel
theorem dX5_sackTold_18 : decode cX5_sackTold 18 = .ok (.invokevirtual 51, 3) := by decide +kernel
theorem dX5_sackTold_21 : decode cX5_sackTold 21 = .ok (.iload_n 3, 1) := by decide +kernel
theorem dX5_sackTold_22 : decode cX5_sackTold 22 = .ok (.iadd, 1) := by decide +kernel
theorem dX5_sackTold_23 : decode cX5_sackTold 23 = .ok (.iaload, 1) := by decide +kernel
theorem dX5_sackTold_24 : decode cX5_sackTold 24 = .ok (.goto 4, 3) := by decide +kernel
theorem dX5_sackTold_27 : decode cX5_sackTold 27 = .ok (.iconst (-1), 1) := by decide +kernel
theorem dX5_sackTold_28 : decode cX5_sackTold 28 = .ok (.ireturn, 1) := by decide +kernel
theorem dX5_sackAt_0 : decode cX5_sackAt 0 = .ok (.aload_n 0, 1) := by decide +kernel
theorem dX5_sackAt_1 : decode cX5_sackAt 1 = .ok (.iload_n 1, 1) := by decide +kernel
theorem dX5_sackAt_2 : decode cX5_sackAt 2 = .ok (.invokestatic 94, 3) := by decide +kernel
theorem dX5_sackAt_5 : decode cX5_sackAt 5 = .ok (.ifCond .ne 7, 3) := by decide +kernel
theorem dX5_sackAt_8 : decode cX5_sackAt 8 = .ok (.iconst 1, 1) := by decide +kernel
theorem dX5_sackAt_9 : decode cX5_sackAt 9 = .ok (.goto 12, 3) := by decide +kernel
theorem dX5_sackAt_12 : decode cX5_sackAt 12 = .ok (.iload_n 2, 1) := by decide +kernel
theorem dX5_sackAt_13 : decode cX5_sackAt 13 = .ok (.ifCond .ge 7, 3) := by decide +kernel
theorem dX5_sackAt_16 : decode cX5_sackAt 16 = .ok (.iconst 2, 1) := by decide +kernel
theorem dX5_sackAt_17 : decode cX5_sackAt 17 = .ok (.goto 4, 3) := by decide +kernel
theorem dX5_sackAt_20 : decode cX5_sackAt 20 = .ok (.iconst 0, 1) := by decide +kernel
theorem dX5_sackAt_21 : decode cX5_sackAt 21 = .ok (.invokevirtual 98, 3) := by decide +kernel
theorem dX5_sackAt_24 : decode cX5_sackAt 24 = .ok (.ifCond .eq 13, 3) := by decide +kernel
theorem dX5_sackAt_27 : decode cX5_sackAt 27 = .ok (.aload_n 0, 1) := by decide +kernel
theorem dX5_sackAt_28 : decode cX5_sackAt 28 = .ok (.iload_n 1, 1) := by decide +kernel
theorem dX5_sackAt_29 : decode cX5_sackAt 29 = .ok (.iload_n 2, 1) := by decide +kernel
theorem dX5_sackAt_30 : decode cX5_sackAt 30 = .ok (.iconst 0, 1) := by decide +kernel
theorem dX5_sackAt_31 : decode cX5_sackAt 31 = .ok (.invokevirtual 166, 3) := by decide +kernel
theorem dX5_sackAt_34 : decode cX5_sackAt 34 = .ok (.goto 4, 3) := by decide +kernel
theorem dX5_sackAt_37 : decode cX5_sackAt 37 = .ok (.iconst 0, 1) := by decide +kernel
theorem dX5_sackAt_38 : decode cX5_sackAt 38 = .ok (.ireturn, 1) := by decide +kernel
theorem dX5_sackOf_0 : decode cX5_sackOf 0 = .ok (.aload_n 0, 1) := by decide +kernel
theorem dX5_sackOf_1 : decode cX5_sackOf 1 = .ok (.iload_n 2, 1) := by decide +kernel
theorem dX5_sackOf_2 : decode cX5_sackOf 2 = .ok (.iconst 0, 1) := by decide +kernel
theorem dX5_sackOf_3 : decode cX5_sackOf 3 = .ok (.iconst 4, 1) := by decide +kernel
theorem dX5_sackOf_4 : decode cX5_sackOf 4 = .ok (.invokestatic 36, 3) := by decide +kernel
theorem dX5_sackOf_7 : decode cX5_sackOf 7 = .ok (.ifCond .eq 7, 3) := by decide +kernel
theorem dX5_sackOf_10 : decode cX5_sackOf 10 = .ok (.iconst 0, 1) := by decide +kernel
theorem dX5_sackOf_11 : decode cX5_sackOf 11 = .ok (.goto 4, 3) := by decide +kernel
theorem dX5_sackOf_14 : decode cX5_sackOf 14 = .ok (.iconst 1, 1) := by decide +kernel
theorem dX5_sackOf_15 : decode cX5_sackOf 15 = .ok (.invokevirtual 98, 3) := by decide +kernel
theorem dX5_sackOf_18 : decode cX5_sackOf 18 = .ok (.ifCond .ne 5, 3) := by decide +kernel
theorem dX5_sackOf_21 : decode cX5_sackOf 21 = .ok (.iconst 0, 1) := by decide +kernel
theorem dX5_sackOf_22 : decode cX5_sackOf 22 = .ok (.ireturn, 1) := by decide +kernel
theorem dX5_sackOf_23 : decode cX5_sackOf 23 = .ok (.aload_n 0, 1) := by decide +kernel
theorem dX5_sackOf_24 : decode cX5_sackOf 24 = .ok (.iload_n 1, 1) := by decide +kernel
theorem dX5_sackOf_25 : decode cX5_sackOf 25 = .ok (.invokevirtual 121, 3) := by decide +kernel
theorem dX5_sackOf_28 : decode cX5_sackOf 28 = .ok (.istore_n 3, 1) := by decide +kernel
theorem dX5_sackOf_29 : decode cX5_sackOf 29 = .ok (.iload_n 3, 1) := by decide +kernel
theorem dX5_sackOf_30 : decode cX5_sackOf 30 = .ok (.iconst (-1), 1) := by decide +kernel
theorem dX5_sackOf_31 : decode cX5_sackOf 31 = .ok (.if_icmp .ne 5, 3) := by decide +kernel
theorem dX5_sackOf_34 : decode cX5_sackOf 34 = .ok (.iconst (-1), 1) := by decide +kernel
theorem dX5_sackOf_35 : decode cX5_sackOf 35 = .ok (.ireturn, 1) := by decide +kernel
theorem dX5_sackOf_36 : decode cX5_sackOf 36 = .ok (.iload_n 2, 1) := by decide +kernel
theorem dX5_sackOf_37 : decode cX5_sackOf 37 = .ok (.ifCond .ne 10, 3) := by decide +kernel
theorem dX5_sackOf_40 : decode cX5_sackOf 40 = .ok (.iload_n 3, 1) := by decide +kernel
theorem dX5_sackOf_41 : decode cX5_sackOf 41 = .ok (.bipush 6, 2) := by decide +kernel
theorem dX5_sackOf_43 : decode cX5_sackOf 43 = .ok (.idiv, 1) := by decide +kernel
theorem dX5_sackOf_44 : decode cX5_sackOf 44 = .ok (.goto 28, 3) := by decide +kernel
theorem dX5_sackOf_47 : decode cX5_sackOf 47 = .ok (.iload_n 2, 1) := by decide +kernel
theorem dX5_sackOf_48 : decode cX5_sackOf 48 = .ok (.iconst 4, 1) := by decide +kernel
theorem dX5_sackOf_49 : decode cX5_sackOf 49 = .ok (.if_icmp .ne 10, 3) := by decide +kernel
theorem dX5_sackOf_52 : decode cX5_sackOf 52 = .ok (.iload_n 3, 1) := by decide +kernel
theorem dX5_sackOf_53 : decode cX5_sackOf 53 = .ok (.bipush 6, 2) := by decide +kernel
theorem dX5_sackOf_55 : decode cX5_sackOf 55 = .ok (.irem, 1) := by decide +kernel
theorem dX5_sackOf_56 : decode cX5_sackOf 56 = .ok (.goto 16, 3) := by decide +kernel
theorem dX5_sackOf_59 : decode cX5_sackOf 59 = .ok (.aload_n 0, 1) := by decide +kernel
theorem dX5_sackOf_60 : decode cX5_sackOf 60 = .ok (.iload_n 3, 1) := by decide +kernel
theorem dX5_sackOf_61 : decode cX5_sackOf 61 = .ok (.bipush 6, 2) := by decide +kernel
theorem dX5_sackOf_63 : decode cX5_sackOf 63 = .ok (.idiv, 1) := by decide +kernel
theorem dX5_sackOf_64 : decode cX5_sackOf 64 = .ok (.iload_n 3, 1) := by decide +kernel
theorem dX5_sackOf_65 : decode cX5_sackOf 65 = .ok (.bipush 6, 2) := by decide +kernel
theorem dX5_sackOf_67 : decode cX5_sackOf 67 = .ok (.irem, 1) := by decide +kernel
theorem dX5_sackOf_68 : decode cX5_sackOf 68 = .ok (.iload_n 2, 1) := by decide +kernel
theorem dX5_sackOf_69 : decode cX5_sackOf 69 = .ok (.invokevirtual 166, 3) := by decide +kernel
theorem dX5_sackOf_72 : decode cX5_sackOf 72 = .ok (.ireturn, 1) := by decide +kernel
theorem dX5_whyNot_0 : decode cX5_whyNot 0 = .ok (.aload_n 0, 1) := by decide +kernel
theorem dX5_whyNot_1 : decode cX5_whyNot 1 = .ok (.iload_n 1, 1) := by decide +kernel
theorem dX5_whyNot_2 : decode cX5_whyNot 2 = .ok (.invokestatic 94, 3) := by decide +kernel
theorem dX5_whyNot_5 : decode cX5_whyNot 5 = .ok (.ifCond .eq 7, 3) := by decide +kernel
theorem dX5_whyNot_8 : decode cX5_whyNot 8 = .ok (.iconst 0, 1) := by decide +kernel
theorem dX5_whyNot_9 : decode cX5_whyNot 9 = .ok (.goto 4, 3) := by decide +kernel
theorem dX5_whyNot_12 : decode cX5_whyNot 12 = .ok (.iconst 1, 1) := by decide +kernel
theorem dX5_whyNot_13 : decode cX5_whyNot 13 = .ok (.invokevirtual 98, 3) := by decide +kernel
theorem dX5_whyNot_16 : decode cX5_whyNot 16 = .ok (.ifCond .eq 11, 3) := by decide +kernel
theorem dX5_whyNot_19 : decode cX5_whyNot 19 = .ok (.aload_n 0, 1) := by decide +kernel
theorem dX5_whyNot_20 : decode cX5_whyNot 20 = .ok (.iload_n 1, 1) := by decide +kernel
theorem dX5_whyNot_21 : decode cX5_whyNot 21 = .ok (.invokevirtual 67, 3) := by decide +kernel
theorem dX5_whyNot_24 : decode cX5_whyNot 24 = .ok (.goto 4, 3) := by decide +kernel
theorem dX5_whyNot_27 : decode cX5_whyNot 27 = .ok (.iconst 0, 1) := by decide +kernel
theorem dX5_whyNot_28 : decode cX5_whyNot 28 = .ok (.ireturn, 1) := by decide +kernel
theorem dX5_tide_0 : decode cX5_tide 0 = .ok (.aload_n 0, 1) := by decide +kernel
theorem dX5_tide_1 : decode cX5_tide 1 = .ok (.iload_n 1, 1) := by decide +kernel
theorem dX5_tide_2 : decode cX5_tide 2 = .ok (.ifCond .ge 7, 3) := by decide +kernel
theorem dX5_tide_5 : decode cX5_tide 5 = .ok (.iconst 1, 1) := by decide +kernel
theorem dX5_tide_6 : decode cX5_tide 6 = .ok (.goto 4, 3) := by decide +kernel
theorem dX5_tide_9 : decode cX5_tide 9 = .ok (.iconst 0, 1) := by decide +kernel
theorem dX5_tide_10 : decode cX5_tide 10 = .ok (.invokevirtual 98, 3) := by decide +kernel
theorem dX5_tide_13 : decode cX5_tide 13 = .ok (.ifCond .eq 11, 3) := by decide +kernel
theorem dX5_tide_16 : decode cX5_tide 16 = .ok (.aload_n 0, 1) := by decide +kernel
theorem dX5_tide_17 : decode cX5_tide 17 = .ok (.iload_n 1, 1) := by decide +kernel
theorem dX5_tide_18 : decode cX5_tide 18 = .ok (.invokevirtual 60, 3) := by decide +kernel
theorem dX5_tide_21 : decode cX5_tide 21 = .ok (.goto 4, 3) := by decide +kernel
theorem dX5_tide_24 : decode cX5_tide 24 = .ok (.iconst 0, 1) := by decide +kernel
theorem dX5_tide_25 : decode cX5_tide 25 = .ok (.ireturn, 1) := by decide +kernel
theorem dX5_sum_0 : decode cX5_sum 0 = .ok (.iconst 0, 1) := by decide +kernel
theorem dX5_sum_1 : decode cX5_sum 1 = .ok (.istore_n 2, 1) := by decide +kernel
theorem dX5_sum_2 : decode cX5_sum 2 = .ok (.iconst 0, 1) := by decide +kernel
theorem dX5_sum_3 : decode cX5_sum 3 = .ok (.istore_n 3, 1) := by decide +kernel
theorem dX5_sum_4 : decode cX5_sum 4 = .ok (.iload_n 3, 1) := by decide +kernel
theorem dX5_sum_5 : decode cX5_sum 5 = .ok (.iconst 5, 1) := by decide +kernel
theorem dX5_sum_6 : decode cX5_sum 6 = .ok (.if_icmp .ge 18, 3) := by decide +kernel
theorem dX5_sum_9 : decode cX5_sum 9 = .ok (.iload_n 2, 1) := by decide +kernel
theorem dX5_sum_10 : decode cX5_sum 10 = .ok (.aload_n 0, 1) := by decide +kernel
theorem dX5_sum_11 : decode cX5_sum 11 = .ok (.iload_n 3, 1) := by decide +kernel
theorem dX5_sum_12 : decode cX5_sum 12 = .ok (.iload_n 1, 1) := by decide +kernel
theorem dX5_sum_13 : decode cX5_sum 13 = .ok (.invokevirtual 47, 3) := by decide +kernel
theorem dX5_sum_16 : decode cX5_sum 16 = .ok (.iadd, 1) := by decide +kernel
theorem dX5_sum_17 : decode cX5_sum 17 = .ok (.istore_n 2, 1) := by decide +kernel
theorem dX5_sum_18 : decode cX5_sum 18 = .ok (.iinc 3 1, 3) := by decide +kernel
theorem dX5_sum_21 : decode cX5_sum 21 = .ok (.goto (-17), 3) := by decide +kernel
theorem dX5_sum_24 : decode cX5_sum 24 = .ok (.iload_n 2, 1) := by decide +kernel
theorem dX5_sum_25 : decode cX5_sum 25 = .ok (.ireturn, 1) := by decide +kernel
theorem dX5_countTold_0 : decode cX5_countTold 0 = .ok (.iload_n 1, 1) := by decide +kernel
theorem dX5_countTold_1 : decode cX5_countTold 1 = .ok (.tableswitch 140 0 13 #[71, 78, 87, 87, 87, 94, 100, 107, 114, 114, 114, 127, 127, 127], 71) := by decide +kernel
theorem dX5_countTold_72 : decode cX5_countTold 72 = .ok (.aload_n 0, 1) := by decide +kernel
theorem dX5_countTold_73 : decode cX5_countTold 73 = .ok (.getfield 7, 3) := by decide +kernel
theorem dX5_countTold_76 : decode cX5_countTold 76 = .ok (.iconst 0, 1) := by decide +kernel
theorem dX5_countTold_77 : decode cX5_countTold 77 = .ok (.iaload, 1) := by decide +kernel
theorem dX5_countTold_78 : decode cX5_countTold 78 = .ok (.ireturn, 1) := by decide +kernel
theorem dX5_countTold_79 : decode cX5_countTold 79 = .ok (.aload_n 0, 1) := by decide +kernel
theorem dX5_countTold_80 : decode cX5_countTold 80 = .ok (.getfield 7, 3) := by decide +kernel
theorem dX5_countTold_83 : decode cX5_countTold 83 = .ok (.iconst 1, 1) := by decide +kernel
theorem dX5_countTold_84 : decode cX5_countTold 84 = .ok (.iaload, 1) := by decide +kernel
theorem dX5_countTold_85 : decode cX5_countTold 85 = .ok (.iconst 1, 1) := by decide +kernel
theorem dX5_countTold_86 : decode cX5_countTold 86 = .ok (.isub, 1) := by decide +kernel
theorem dX5_countTold_87 : decode cX5_countTold 87 = .ok (.ireturn, 1) := by decide +kernel
theorem dX5_countTold_88 : decode cX5_countTold 88 = .ok (.aload_n 0, 1) := by decide +kernel
theorem dX5_countTold_89 : decode cX5_countTold 89 = .ok (.getfield 7, 3) := by decide +kernel
theorem dX5_countTold_92 : decode cX5_countTold 92 = .ok (.iload_n 1, 1) := by decide +kernel
theorem dX5_countTold_93 : decode cX5_countTold 93 = .ok (.iaload, 1) := by decide +kernel
theorem dX5_countTold_94 : decode cX5_countTold 94 = .ok (.ireturn, 1) := by decide +kernel
theorem dX5_countTold_95 : decode cX5_countTold 95 = .ok (.aload_n 0, 1) := by decide +kernel
theorem dX5_countTold_96 : decode cX5_countTold 96 = .ok (.iconst 1, 1) := by decide +kernel
theorem dX5_countTold_97 : decode cX5_countTold 97 = .ok (.invokevirtual 169, 3) := by decide +kernel
theorem dX5_countTold_100 : decode cX5_countTold 100 = .ok (.ireturn, 1) := by decide +kernel
theorem dX5_countTold_101 : decode cX5_countTold 101 = .ok (.aload_n 0, 1) := by decide +kernel
theorem dX5_countTold_102 : decode cX5_countTold 102 = .ok (.getfield 7, 3) := by decide +kernel
theorem dX5_countTold_105 : decode cX5_countTold 105 = .ok (.iconst 5, 1) := by decide +kernel
theorem dX5_countTold_106 : decode cX5_countTold 106 = .ok (.iaload, 1) := by decide +kernel
theorem dX5_countTold_107 : decode cX5_countTold 107 = .ok (.ireturn, 1) := by decide +kernel
theorem dX5_countTold_108 : decode cX5_countTold 108 = .ok (.aload_n 0, 1) := by decide +kernel
theorem dX5_countTold_109 : decode cX5_countTold 109 = .ok (.bipush 9, 2) := by decide +kernel
theorem dX5_countTold_111 : decode cX5_countTold 111 = .ok (.invokevirtual 169, 3) := by decide +kernel
theorem dX5_countTold_114 : decode cX5_countTold 114 = .ok (.ireturn, 1) := by decide +kernel
theorem dX5_countTold_115 : decode cX5_countTold 115 = .ok (.aload_n 0, 1) := by decide +kernel
theorem dX5_countTold_116 : decode cX5_countTold 116 = .ok (.getfield 7, 3) := by decide +kernel
theorem dX5_countTold_119 : decode cX5_countTold 119 = .ok (.bipush 6, 2) := by decide +kernel
theorem dX5_countTold_121 : decode cX5_countTold 121 = .ok (.iload_n 1, 1) := by decide +kernel
theorem dX5_countTold_122 : decode cX5_countTold 122 = .ok (.iadd, 1) := by decide +kernel
theorem dX5_countTold_123 : decode cX5_countTold 123 = .ok (.bipush 8, 2) := by decide +kernel
theorem dX5_countTold_125 : decode cX5_countTold 125 = .ok (.isub, 1) := by decide +kernel
theorem dX5_countTold_126 : decode cX5_countTold 126 = .ok (.iaload, 1) := by decide +kernel
theorem dX5_countTold_127 : decode cX5_countTold 127 = .ok (.ireturn, 1) := by decide +kernel
theorem dX5_countTold_128 : decode cX5_countTold 128 = .ok (.aload_n 0, 1) := by decide +kernel
theorem dX5_countTold_129 : decode cX5_countTold 129 = .ok (.getfield 7, 3) := by decide +kernel
theorem dX5_countTold_132 : decode cX5_countTold 132 = .ok (.bipush 9, 2) := by decide +kernel
theorem dX5_countTold_134 : decode cX5_countTold 134 = .ok (.iload_n 1, 1) := by decide +kernel
theorem dX5_countTold_135 : decode cX5_countTold 135 = .ok (.iadd, 1) := by decide +kernel
theorem dX5_countTold_136 : decode cX5_countTold 136 = .ok (.bipush 11, 2) := by decide +kernel
theorem dX5_countTold_138 : decode cX5_countTold 138 = .ok (.isub, 1) := by decide +kernel
theorem dX5_countTold_139 : decode cX5_countTold 139 = .ok (.iaload, 1) := by decide +kernel
theorem dX5_countTold_140 : decode cX5_countTold 140 = .ok (.ireturn, 1) := by decide +kernel
theorem dX5_countTold_141 : decode cX5_countTold 141 = .ok (.aload_n 0, 1) := by decide +kernel
theorem dX5_countTold_142 : decode cX5_countTold 142 = .ok (.getfield 40, 3) := by decide +kernel
theorem dX5_countTold_145 : decode cX5_countTold 145 = .ok (.ireturn, 1) := by decide +kernel
theorem dX5_count_0 : decode cX5_count 0 = .ok (.aload_n 0, 1) := by decide +kernel
theorem dX5_count_1 : decode cX5_count 1 = .ok (.iload_n 1, 1) := by decide +kernel
theorem dX5_count_2 : decode cX5_count 2 = .ok (.iconst 0, 1) := by decide +kernel
theorem dX5_count_3 : decode cX5_count 3 = .ok (.bipush 14, 2) := by decide +kernel
theorem dX5_count_5 : decode cX5_count 5 = .ok (.invokestatic 36, 3) := by decide +kernel
theorem dX5_count_8 : decode cX5_count 8 = .ok (.ifCond .eq 7, 3) := by decide +kernel
theorem dX5_count_11 : decode cX5_count 11 = .ok (.iconst 0, 1) := by decide +kernel
theorem dX5_count_12 : decode cX5_count 12 = .ok (.goto 4, 3) := by decide +kernel
theorem dX5_count_15 : decode cX5_count 15 = .ok (.iconst 1, 1) := by decide +kernel
theorem dX5_count_16 : decode cX5_count 16 = .ok (.invokevirtual 98, 3) := by decide +kernel
theorem dX5_count_19 : decode cX5_count 19 = .ok (.ifCond .eq 11, 3) := by decide +kernel
theorem dX5_count_22 : decode cX5_count 22 = .ok (.aload_n 0, 1) := by decide +kernel
theorem dX5_count_23 : decode cX5_count 23 = .ok (.iload_n 1, 1) := by decide +kernel
theorem dX5_count_24 : decode cX5_count 24 = .ok (.invokevirtual 172, 3) := by decide +kernel
theorem dX5_count_27 : decode cX5_count 27 = .ok (.goto 4, 3) := by decide +kernel
theorem dX5_count_30 : decode cX5_count 30 = .ok (.iconst 0, 1) := by decide +kernel
theorem dX5_count_31 : decode cX5_count 31 = .ok (.ireturn, 1) := by decide +kernel
theorem dX5_next_0 : decode cX5_next 0 = .ok (.aload_n 0, 1) := by decide +kernel
theorem dX5_next_1 : decode cX5_next 1 = .ok (.iload_n 1, 1) := by decide +kernel
theorem dX5_next_2 : decode cX5_next 2 = .ok (.ifCond .ge 7, 3) := by decide +kernel
theorem dX5_next_5 : decode cX5_next 5 = .ok (.iconst 1, 1) := by decide +kernel
theorem dX5_next_6 : decode cX5_next 6 = .ok (.goto 4, 3) := by decide +kernel
theorem dX5_next_9 : decode cX5_next 9 = .ok (.iconst 0, 1) := by decide +kernel
theorem dX5_next_10 : decode cX5_next 10 = .ok (.invokevirtual 98, 3) := by decide +kernel
theorem dX5_next_13 : decode cX5_next 13 = .ok (.ifCond .eq 11, 3) := by decide +kernel
theorem dX5_next_16 : decode cX5_next 16 = .ok (.aload_n 0, 1) := by decide +kernel
theorem dX5_next_17 : decode cX5_next 17 = .ok (.iload_n 1, 1) := by decide +kernel
theorem dX5_next_18 : decode cX5_next 18 = .ok (.invokevirtual 85, 3) := by decide +kernel
theorem dX5_next_21 : decode cX5_next 21 = .ok (.goto 4, 3) := by decide +kernel
theorem dX5_next_24 : decode cX5_next 24 = .ok (.iconst 0, 1) := by decide +kernel
theorem dX5_next_25 : decode cX5_next 25 = .ok (.ireturn, 1) := by decide +kernel
theorem dX5_chosen_0 : decode cX5_chosen 0 = .ok (.aload_n 0, 1) := by decide +kernel
theorem dX5_chosen_1 : decode cX5_chosen 1 = .ok (.iconst 0, 1) := by decide +kernel
theorem dX5_chosen_2 : decode cX5_chosen 2 = .ok (.putfield 32, 3) := by decide +kernel
theorem dX5_chosen_5 : decode cX5_chosen 5 = .ok (.aload_n 0, 1) := by decide +kernel
theorem dX5_chosen_6 : decode cX5_chosen 6 = .ok (.iconst 0, 1) := by decide +kernel
theorem dX5_chosen_7 : decode cX5_chosen 7 = .ok (.invokevirtual 85, 3) := by decide +kernel
theorem dX5_chosen_10 : decode cX5_chosen 10 = .ok (.ireturn, 1) := by decide +kernel
theorem dX5_wouldBring_0 : decode cX5_wouldBring 0 = .ok (.iload_n 2, 1) := by decide +kernel
theorem dX5_wouldBring_1 : decode cX5_wouldBring 1 = .ok (.ifCond .ne 8, 3) := by decide +kernel
theorem dX5_wouldBring_4 : decode cX5_wouldBring 4 = .ok (.bipush 6, 2) := by decide +kernel
theorem dX5_wouldBring_6 : decode cX5_wouldBring 6 = .ok (.goto 23, 3) := by decide +kernel
theorem dX5_wouldBring_9 : decode cX5_wouldBring 9 = .ok (.iload_n 2, 1) := by decide +kernel
theorem dX5_wouldBring_10 : decode cX5_wouldBring 10 = .ok (.iconst 1, 1) := by decide +kernel
theorem dX5_wouldBring_11 : decode cX5_wouldBring 11 = .ok (.if_icmp .ne 8, 3) := by decide +kernel
theorem dX5_wouldBring_14 : decode cX5_wouldBring 14 = .ok (.bipush 7, 2) := by decide +kernel
theorem dX5_wouldBring_16 : decode cX5_wouldBring 16 = .ok (.goto 13, 3) := by decide +kernel
theorem dX5_wouldBring_19 : decode cX5_wouldBring 19 = .ok (.iload_n 2, 1) := by decide +kernel
theorem dX5_wouldBring_20 : decode cX5_wouldBring 20 = .ok (.iconst 2, 1) := by decide +kernel
theorem dX5_wouldBring_21 : decode cX5_wouldBring 21 = .ok (.if_icmp .ne 7, 3) := by decide +kernel
theorem dX5_wouldBring_24 : decode cX5_wouldBring 24 = .ok (.iconst 2, 1) := by decide +kernel
theorem dX5_wouldBring_25 : decode cX5_wouldBring 25 = .ok (.goto 4, 3) := by decide +kernel
theorem dX5_wouldBring_28 : decode cX5_wouldBring 28 = .ok (.iconst 4, 1) := by decide +kernel
theorem dX5_wouldBring_29 : decode cX5_wouldBring 29 = .ok (.istore_n 3, 1) := by decide +kernel
theorem dX5_wouldBring_30 : decode cX5_wouldBring 30 = .ok (.aload_n 0, 1) := by decide +kernel
theorem dX5_wouldBring_31 : decode cX5_wouldBring 31 = .ok (.getfield 7, 3) := by decide +kernel
theorem dX5_wouldBring_34 : decode cX5_wouldBring 34 = .ok (.iconst 0, 1) := by decide +kernel
theorem dX5_wouldBring_35 : decode cX5_wouldBring 35 = .ok (.aload_n 0, 1) := by decide +kernel
theorem dX5_wouldBring_36 : decode cX5_wouldBring 36 = .ok (.getfield 19, 3) := by decide +kernel
theorem dX5_wouldBring_39 : decode cX5_wouldBring 39 = .ok (.iconst 0, 1) := by decide +kernel
theorem dX5_wouldBring_40 : decode cX5_wouldBring 40 = .ok (.invokestatic 43, 3) := by decide +kernel
theorem dX5_wouldBring_43 : decode cX5_wouldBring 43 = .ok (.iconst 0, 1) := by decide +kernel
theorem dX5_wouldBring_44 : decode cX5_wouldBring 44 = .ok (.istore 4, 2) := by decide +kernel
theorem dX5_wouldBring_46 : decode cX5_wouldBring 46 = .ok (.iload 4, 2) := by decide +kernel
theorem dX5_wouldBring_48 : decode cX5_wouldBring 48 = .ok (.iload_n 1, 1) := by decide +kernel
theorem dX5_wouldBring_49 : decode cX5_wouldBring 49 = .ok (.if_icmp .ge 13, 3) := by decide +kernel
theorem dX5_wouldBring_52 : decode cX5_wouldBring 52 = .ok (.aload_n 0, 1) := by decide +kernel
theorem dX5_wouldBring_53 : decode cX5_wouldBring 53 = .ok (.invokevirtual 91, 3) := by decide +kernel
theorem dX5_wouldBring_56 : decode cX5_wouldBring 56 = .ok (.iinc 4 1, 3) := by decide +kernel
theorem dX5_wouldBring_59 : decode cX5_wouldBring 59 = .ok (.goto (-13), 3) := by decide +kernel
theorem dX5_wouldBring_62 : decode cX5_wouldBring 62 = .ok (.aload_n 0, 1) := by decide +kernel
theorem dX5_wouldBring_63 : decode cX5_wouldBring 63 = .ok (.getfield 7, 3) := by decide +kernel
theorem dX5_wouldBring_66 : decode cX5_wouldBring 66 = .ok (.iload_n 3, 1) := by decide +kernel
theorem dX5_wouldBring_67 : decode cX5_wouldBring 67 = .ok (.iaload, 1) := by decide +kernel
theorem dX5_wouldBring_68 : decode cX5_wouldBring 68 = .ok (.aload_n 0, 1) := by decide +kernel
theorem dX5_wouldBring_69 : decode cX5_wouldBring 69 = .ok (.getfield 19, 3) := by decide +kernel
theorem dX5_wouldBring_72 : decode cX5_wouldBring 72 = .ok (.iload_n 3, 1) := by decide +kernel
theorem dX5_wouldBring_73 : decode cX5_wouldBring 73 = .ok (.iaload, 1) := by decide +kernel
theorem dX5_wouldBring_74 : decode cX5_wouldBring 74 = .ok (.isub, 1) := by decide +kernel
theorem dX5_wouldBring_75 : decode cX5_wouldBring 75 = .ok (.istore 4, 2) := by decide +kernel
theorem dX5_wouldBring_77 : decode cX5_wouldBring 77 = .ok (.aload_n 0, 1) := by decide +kernel
theorem dX5_wouldBring_78 : decode cX5_wouldBring 78 = .ok (.getfield 19, 3) := by decide +kernel
theorem dX5_wouldBring_81 : decode cX5_wouldBring 81 = .ok (.iconst 0, 1) := by decide +kernel
theorem dX5_wouldBring_82 : decode cX5_wouldBring 82 = .ok (.aload_n 0, 1) := by decide +kernel
theorem dX5_wouldBring_83 : decode cX5_wouldBring 83 = .ok (.getfield 7, 3) := by decide +kernel
theorem dX5_wouldBring_86 : decode cX5_wouldBring 86 = .ok (.iconst 0, 1) := by decide +kernel
theorem dX5_wouldBring_87 : decode cX5_wouldBring 87 = .ok (.invokestatic 43, 3) := by decide +kernel
theorem dX5_wouldBring_90 : decode cX5_wouldBring 90 = .ok (.iload 4, 2) := by decide +kernel
theorem dX5_wouldBring_92 : decode cX5_wouldBring 92 = .ok (.ireturn, 1) := by decide +kernel
theorem dX5_ifPassed_0 : decode cX5_ifPassed 0 = .ok (.aload_n 0, 1) := by decide +kernel
theorem dX5_ifPassed_1 : decode cX5_ifPassed 1 = .ok (.iload_n 1, 1) := by decide +kernel
theorem dX5_ifPassed_2 : decode cX5_ifPassed 2 = .ok (.iconst 1, 1) := by decide +kernel
theorem dX5_ifPassed_3 : decode cX5_ifPassed 3 = .ok (.bipush 48, 2) := by decide +kernel
theorem dX5_ifPassed_5 : decode cX5_ifPassed 5 = .ok (.invokestatic 36, 3) := by decide +kernel
theorem dX5_ifPassed_8 : decode cX5_ifPassed 8 = .ok (.ifCond .eq 16, 3) := by decide +kernel
theorem dX5_ifPassed_11 : decode cX5_ifPassed 11 = .ok (.iload_n 2, 1) := by decide +kernel
theorem dX5_ifPassed_12 : decode cX5_ifPassed 12 = .ok (.iconst 0, 1) := by decide +kernel
theorem dX5_ifPassed_13 : decode cX5_ifPassed 13 = .ok (.iconst 3, 1) := by decide +kernel
theorem dX5_ifPassed_14 : decode cX5_ifPassed 14 = .ok (.invokestatic 36, 3) := by decide +kernel
theorem dX5_ifPassed_17 : decode cX5_ifPassed 17 = .ok (.ifCond .eq 7, 3) := by decide +kernel
theorem dX5_ifPassed_20 : decode cX5_ifPassed 20 = .ok (.iconst 0, 1) := by decide +kernel
theorem dX5_ifPassed_21 : decode cX5_ifPassed 21 = .ok (.goto 4, 3) := by decide +kernel
theorem dX5_ifPassed_24 : decode cX5_ifPassed 24 = .ok (.iconst 1, 1) := by decide +kernel
theorem dX5_ifPassed_25 : decode cX5_ifPassed 25 = .ok (.invokevirtual 98, 3) := by decide +kernel
theorem dX5_ifPassed_28 : decode cX5_ifPassed 28 = .ok (.ifCond .eq 12, 3) := by decide +kernel
theorem dX5_ifPassed_31 : decode cX5_ifPassed 31 = .ok (.aload_n 0, 1) := by decide +kernel
theorem dX5_ifPassed_32 : decode cX5_ifPassed 32 = .ok (.iload_n 1, 1) := by decide +kernel
theorem dX5_ifPassed_33 : decode cX5_ifPassed 33 = .ok (.iload_n 2, 1) := by decide +kernel
theorem dX5_ifPassed_34 : decode cX5_ifPassed 34 = .ok (.invokevirtual 175, 3) := by decide +kernel
theorem dX5_ifPassed_37 : decode cX5_ifPassed 37 = .ok (.goto 4, 3) := by decide +kernel
theorem dX5_ifPassed_40 : decode cX5_ifPassed 40 = .ok (.iconst 0, 1) := by decide +kernel
theorem dX5_ifPassed_41 : decode cX5_ifPassed 41 = .ok (.ireturn, 1) := by decide +kernel
theorem dX5_groundBehind_0 : decode cX5_groundBehind 0 = .ok (.aload_n 0, 1) := by decide +kernel
theorem dX5_groundBehind_1 : decode cX5_groundBehind 1 = .ok (.iload_n 1, 1) := by decide +kernel
theorem dX5_groundBehind_2 : decode cX5_groundBehind 2 = .ok (.invokevirtual 121, 3) := by decide +kernel
theorem dX5_groundBehind_5 : decode cX5_groundBehind 5 = .ok (.iconst (-1), 1) := by decide +kernel
theorem dX5_groundBehind_6 : decode cX5_groundBehind 6 = .ok (.if_icmp .ne 5, 3) := by decide +kernel
theorem dX5_groundBehind_9 : decode cX5_groundBehind 9 = .ok (.iconst (-1), 1) := by decide +kernel
theorem dX5_groundBehind_10 : decode cX5_groundBehind 10 = .ok (.ireturn, 1) := by decide +kernel
theorem dX5_groundBehind_11 : decode cX5_groundBehind 11 = .ok (.aload_n 0, 1) := by decide +kernel
theorem dX5_groundBehind_12 : decode cX5_groundBehind 12 = .ok (.getfield 7, 3) := by decide +kernel
theorem dX5_groundBehind_15 : decode cX5_groundBehind 15 = .ok (.iconst 0, 1) := by decide +kernel
theorem dX5_groundBehind_16 : decode cX5_groundBehind 16 = .ok (.aload_n 0, 1) := by decide +kernel
theorem dX5_groundBehind_17 : decode cX5_groundBehind 17 = .ok (.getfield 19, 3) := by decide +kernel
theorem dX5_groundBehind_20 : decode cX5_groundBehind 20 = .ok (.iconst 0, 1) := by decide +kernel
theorem dX5_groundBehind_21 : decode cX5_groundBehind 21 = .ok (.invokestatic 43, 3) := by decide +kernel
theorem dX5_groundBehind_24 : decode cX5_groundBehind 24 = .ok (.iconst 0, 1) := by decide +kernel
theorem dX5_groundBehind_25 : decode cX5_groundBehind 25 = .ok (.istore_n 2, 1) := by decide +kernel
theorem dX5_groundBehind_26 : decode cX5_groundBehind 26 = .ok (.iload_n 2, 1) := by decide +kernel
theorem dX5_groundBehind_27 : decode cX5_groundBehind 27 = .ok (.sipush 200, 3) := by decide +kernel
theorem dX5_groundBehind_30 : decode cX5_groundBehind 30 = .ok (.if_icmp .ge 22, 3) := by decide +kernel
theorem dX5_groundBehind_33 : decode cX5_groundBehind 33 = .ok (.aload_n 0, 1) := by decide +kernel
theorem dX5_groundBehind_34 : decode cX5_groundBehind 34 = .ok (.iload_n 1, 1) := by decide +kernel
theorem dX5_groundBehind_35 : decode cX5_groundBehind 35 = .ok (.invokevirtual 121, 3) := by decide +kernel
theorem dX5_groundBehind_38 : decode cX5_groundBehind 38 = .ok (.iconst (-1), 1) := by decide +kernel
theorem dX5_groundBehind_39 : decode cX5_groundBehind 39 = .ok (.if_icmp .eq 13, 3) := by decide +kernel
theorem dX5_groundBehind_42 : decode cX5_groundBehind 42 = .ok (.aload_n 0, 1) := by decide +kernel
theorem dX5_groundBehind_43 : decode cX5_groundBehind 43 = .ok (.invokevirtual 91, 3) := by decide +kernel
theorem dX5_groundBehind_46 : decode cX5_groundBehind 46 = .ok (.iinc 2 1, 3) := by decide +kernel
theorem dX5_groundBehind_49 : decode cX5_groundBehind 49 = .ok (.goto (-23), 3) := by decide +kernel
theorem dX5_groundBehind_52 : decode cX5_groundBehind 52 = .ok (.aload_n 0, 1) := by decide +kernel
theorem dX5_groundBehind_53 : decode cX5_groundBehind 53 = .ok (.iload_n 1, 1) := by decide +kernel
theorem dX5_groundBehind_54 : decode cX5_groundBehind 54 = .ok (.invokevirtual 121, 3) := by decide +kernel
theorem dX5_groundBehind_57 : decode cX5_groundBehind 57 = .ok (.iconst (-1), 1) := by decide +kernel
theorem dX5_groundBehind_58 : decode cX5_groundBehind 58 = .ok (.if_icmp .ne 7, 3) := by decide +kernel
theorem dX5_groundBehind_61 : decode cX5_groundBehind 61 = .ok (.iconst 1, 1) := by decide +kernel
theorem dX5_groundBehind_62 : decode cX5_groundBehind 62 = .ok (.goto 4, 3) := by decide +kernel
theorem dX5_groundBehind_65 : decode cX5_groundBehind 65 = .ok (.iconst 0, 1) := by decide +kernel
theorem dX5_groundBehind_66 : decode cX5_groundBehind 66 = .ok (.istore_n 3, 1) := by decide +kernel
theorem dX5_groundBehind_67 : decode cX5_groundBehind 67 = .ok (.aload_n 0, 1) := by decide +kernel
theorem dX5_groundBehind_68 : decode cX5_groundBehind 68 = .ok (.getfield 19, 3) := by decide +kernel
theorem dX5_groundBehind_71 : decode cX5_groundBehind 71 = .ok (.iconst 0, 1) := by decide +kernel
theorem dX5_groundBehind_72 : decode cX5_groundBehind 72 = .ok (.aload_n 0, 1) := by decide +kernel
theorem dX5_groundBehind_73 : decode cX5_groundBehind 73 = .ok (.getfield 7, 3) := by decide +kernel
theorem dX5_groundBehind_76 : decode cX5_groundBehind 76 = .ok (.iconst 0, 1) := by decide +kernel
theorem dX5_groundBehind_77 : decode cX5_groundBehind 77 = .ok (.invokestatic 43, 3) := by decide +kernel
theorem dX5_groundBehind_80 : decode cX5_groundBehind 80 = .ok (.iload_n 3, 1) := by decide +kernel
theorem dX5_groundBehind_81 : decode cX5_groundBehind 81 = .ok (.ifCond .eq 7, 3) := by decide +kernel
theorem dX5_groundBehind_84 : decode cX5_groundBehind 84 = .ok (.iload_n 2, 1) := by decide +kernel
theorem dX5_groundBehind_85 : decode cX5_groundBehind 85 = .ok (.goto 4, 3) := by decide +kernel
theorem dX5_groundBehind_88 : decode cX5_groundBehind 88 = .ok (.iconst (-1), 1) := by decide +kernel
theorem dX5_groundBehind_89 : decode cX5_groundBehind 89 = .ok (.ireturn, 1) := by decide +kernel
theorem dX5_groundIn_0 : decode cX5_groundIn 0 = .ok (.aload_n 0, 1) := by decide +kernel
theorem dX5_groundIn_1 : decode cX5_groundIn 1 = .ok (.iconst 0, 1) := by decide +kernel
theorem dX5_groundIn_2 : decode cX5_groundIn 2 = .ok (.putfield 32, 3) := by decide +kernel
theorem dX5_groundIn_5 : decode cX5_groundIn 5 = .ok (.aload_n 0, 1) := by decide +kernel
theorem dX5_groundIn_6 : decode cX5_groundIn 6 = .ok (.iload_n 1, 1) := by decide +kernel
theorem dX5_groundIn_7 : decode cX5_groundIn 7 = .ok (.invokevirtual 178, 3) := by decide +kernel
theorem dX5_groundIn_10 : decode cX5_groundIn 10 = .ok (.ireturn, 1) := by decide +kernel
theorem dX5_rests_0 : decode cX5_rests 0 = .ok (.iconst 0, 1) := by decide +kernel
theorem dX5_rests_1 : decode cX5_rests 1 = .ok (.istore_n 1, 1) := by decide +kernel
theorem dX5_rests_2 : decode cX5_rests 2 = .ok (.iconst 0, 1) := by decide +kernel
theorem dX5_rests_3 : decode cX5_rests 3 = .ok (.istore_n 2, 1) := by decide +kernel
theorem dX5_rests_4 : decode cX5_rests 4 = .ok (.iload_n 2, 1) := by decide +kernel
theorem dX5_rests_5 : decode cX5_rests 5 = .ok (.bipush 30, 2) := by decide +kernel
theorem dX5_rests_7 : decode cX5_rests 7 = .ok (.if_icmp .ge 52, 3) := by decide +kernel
theorem dX5_rests_10 : decode cX5_rests 10 = .ok (.iload_n 1, 1) := by decide +kernel
theorem dX5_rests_11 : decode cX5_rests 11 = .ok (.iload_n 2, 1) := by decide +kernel
theorem dX5_rests_12 : decode cX5_rests 12 = .ok (.bipush 6, 2) := by decide +kernel
theorem dX5_rests_14 : decode cX5_rests 14 = .ok (.irem, 1) := by decide +kernel
theorem dX5_rests_15 : decode cX5_rests 15 = .ok (.aload_n 0, 1) := by decide +kernel
theorem dX5_rests_16 : decode cX5_rests 16 = .ok (.iload_n 2, 1) := by decide +kernel
theorem dX5_rests_17 : decode cX5_rests 17 = .ok (.bipush 6, 2) := by decide +kernel
theorem dX5_rests_19 : decode cX5_rests 19 = .ok (.idiv, 1) := by decide +kernel
theorem dX5_rests_20 : decode cX5_rests 20 = .ok (.bipush 9, 2) := by decide +kernel
theorem dX5_rests_22 : decode cX5_rests 22 = .ok (.invokevirtual 47, 3) := by decide +kernel
theorem dX5_rests_25 : decode cX5_rests 25 = .ok (.if_icmp .ge 25, 3) := by decide +kernel
theorem dX5_rests_28 : decode cX5_rests 28 = .ok (.aload_n 0, 1) := by decide +kernel
theorem dX5_rests_29 : decode cX5_rests 29 = .ok (.getfield 7, 3) := by decide +kernel
theorem dX5_rests_32 : decode cX5_rests 32 = .ok (.aload_n 0, 1) := by decide +kernel
theorem dX5_rests_33 : decode cX5_rests 33 = .ok (.iload_n 2, 1) := by decide +kernel
theorem dX5_rests_34 : decode cX5_rests 34 = .ok (.bipush 6, 2) := by decide +kernel
theorem dX5_rests_36 : decode cX5_rests 36 = .ok (.idiv, 1) := by decide +kernel
theorem dX5_rests_37 : decode cX5_rests 37 = .ok (.iload_n 2, 1) := by decide +kernel
theorem dX5_rests_38 : decode cX5_rests 38 = .ok (.bipush 6, 2) := by decide +kernel
theorem dX5_rests_40 : decode cX5_rests 40 = .ok (.irem, 1) := by decide +kernel
theorem dX5_rests_41 : decode cX5_rests 41 = .ok (.invokevirtual 51, 3) := by decide +kernel
theorem dX5_rests_44 : decode cX5_rests 44 = .ok (.iconst 2, 1) := by decide +kernel
theorem dX5_rests_45 : decode cX5_rests 45 = .ok (.iadd, 1) := by decide +kernel
theorem dX5_rests_46 : decode cX5_rests 46 = .ok (.iaload, 1) := by decide +kernel
theorem dX5_rests_47 : decode cX5_rests 47 = .ok (.goto 4, 3) := by decide +kernel
theorem dX5_rests_50 : decode cX5_rests 50 = .ok (.iconst 0, 1) := by decide +kernel
theorem dX5_rests_51 : decode cX5_rests 51 = .ok (.iadd, 1) := by decide +kernel
theorem dX5_rests_52 : decode cX5_rests 52 = .ok (.istore_n 1, 1) := by decide +kernel
theorem dX5_rests_53 : decode cX5_rests 53 = .ok (.iinc 2 1, 3) := by decide +kernel
theorem dX5_rests_56 : decode cX5_rests 56 = .ok (.goto (-52), 3) := by decide +kernel
theorem dX5_rests_59 : decode cX5_rests 59 = .ok (.iload_n 1, 1) := by decide +kernel
theorem dX5_rests_60 : decode cX5_rests 60 = .ok (.ireturn, 1) := by decide +kernel
theorem dX5_bestFor_0 : decode cX5_bestFor 0 = .ok (.iconst 0, 1) := by decide +kernel
theorem dX5_bestFor_1 : decode cX5_bestFor 1 = .ok (.istore_n 2, 1) := by decide +kernel
theorem dX5_bestFor_2 : decode cX5_bestFor 2 = .ok (.iconst 0, 1) := by decide +kernel
theorem dX5_bestFor_3 : decode cX5_bestFor 3 = .ok (.istore_n 3, 1) := by decide +kernel
theorem dX5_bestFor_4 : decode cX5_bestFor 4 = .ok (.aload_n 0, 1) := by decide +kernel
theorem dX5_bestFor_5 : decode cX5_bestFor 5 = .ok (.getfield 7, 3) := by decide +kernel
theorem dX5_bestFor_8 : decode cX5_bestFor 8 = .ok (.iconst 0, 1) := by decide +kernel
theorem dX5_bestFor_9 : decode cX5_bestFor 9 = .ok (.aload_n 0, 1) := by decide +kernel
theorem dX5_bestFor_10 : decode cX5_bestFor 10 = .ok (.getfield 19, 3) := by decide +kernel
theorem dX5_bestFor_13 : decode cX5_bestFor 13 = .ok (.iconst 0, 1) := by decide +kernel
theorem dX5_bestFor_14 : decode cX5_bestFor 14 = .ok (.invokestatic 43, 3) := by decide +kernel
theorem dX5_bestFor_17 : decode cX5_bestFor 17 = .ok (.bipush 60, 2) := by decide +kernel
theorem dX5_bestFor_19 : decode cX5_bestFor 19 = .ok (.istore 4, 2) := by decide +kernel
theorem dX5_bestFor_21 : decode cX5_bestFor 21 = .ok (.iload 4, 2) := by decide +kernel
theorem dX5_bestFor_23 : decode cX5_bestFor 23 = .ok (.bipush 8, 2) := by decide +kernel
theorem dX5_bestFor_25 : decode cX5_bestFor 25 = .ok (.if_icmp .lt 98, 3) := by decide +kernel
theorem dX5_bestFor_28 : decode cX5_bestFor 28 = .ok (.aload_n 0, 1) := by decide +kernel
theorem dX5_bestFor_29 : decode cX5_bestFor 29 = .ok (.iload_n 1, 1) := by decide +kernel
theorem dX5_bestFor_30 : decode cX5_bestFor 30 = .ok (.bipush 6, 2) := by decide +kernel
theorem dX5_bestFor_32 : decode cX5_bestFor 32 = .ok (.iload 4, 2) := by decide +kernel
theorem dX5_bestFor_34 : decode cX5_bestFor 34 = .ok (.invokevirtual 28, 3) := by decide +kernel
theorem dX5_bestFor_37 : decode cX5_bestFor 37 = .ok (.iconst 0, 1) := by decide +kernel
theorem dX5_bestFor_38 : decode cX5_bestFor 38 = .ok (.istore 5, 2) := by decide +kernel
theorem dX5_bestFor_40 : decode cX5_bestFor 40 = .ok (.iload 5, 2) := by decide +kernel
theorem dX5_bestFor_42 : decode cX5_bestFor 42 = .ok (.bipush 24, 2) := by decide +kernel
theorem dX5_bestFor_44 : decode cX5_bestFor 44 = .ok (.if_icmp .ge 13, 3) := by decide +kernel
theorem dX5_bestFor_47 : decode cX5_bestFor 47 = .ok (.aload_n 0, 1) := by decide +kernel
theorem dX5_bestFor_48 : decode cX5_bestFor 48 = .ok (.invokevirtual 91, 3) := by decide +kernel
theorem dX5_bestFor_51 : decode cX5_bestFor 51 = .ok (.iinc 5 1, 3) := by decide +kernel
theorem dX5_bestFor_54 : decode cX5_bestFor 54 = .ok (.goto (-14), 3) := by decide +kernel
theorem dX5_bestFor_57 : decode cX5_bestFor 57 = .ok (.aload_n 0, 1) := by decide +kernel
theorem dX5_bestFor_58 : decode cX5_bestFor 58 = .ok (.invokevirtual 181, 3) := by decide +kernel
theorem dX5_bestFor_61 : decode cX5_bestFor 61 = .ok (.istore 5, 2) := by decide +kernel
theorem dX5_bestFor_63 : decode cX5_bestFor 63 = .ok (.iload_n 2, 1) := by decide +kernel
theorem dX5_bestFor_64 : decode cX5_bestFor 64 = .ok (.ifCond .eq 9, 3) := by decide +kernel
theorem dX5_bestFor_67 : decode cX5_bestFor 67 = .ok (.iload 5, 2) := by decide +kernel
theorem dX5_bestFor_69 : decode cX5_bestFor 69 = .ok (.iload_n 3, 1) := by decide +kernel
theorem dX5_bestFor_70 : decode cX5_bestFor 70 = .ok (.if_icmp .ge 7, 3) := by decide +kernel
theorem dX5_bestFor_73 : decode cX5_bestFor 73 = .ok (.iconst 1, 1) := by decide +kernel
theorem dX5_bestFor_74 : decode cX5_bestFor 74 = .ok (.goto 4, 3) := by decide +kernel
theorem dX5_bestFor_77 : decode cX5_bestFor 77 = .ok (.iconst 0, 1) := by decide +kernel
theorem dX5_bestFor_78 : decode cX5_bestFor 78 = .ok (.istore 6, 2) := by decide +kernel
theorem dX5_bestFor_80 : decode cX5_bestFor 80 = .ok (.iload 6, 2) := by decide +kernel
theorem dX5_bestFor_82 : decode cX5_bestFor 82 = .ok (.ifCond .eq 8, 3) := by decide +kernel
theorem dX5_bestFor_85 : decode cX5_bestFor 85 = .ok (.iload 4, 2) := by decide +kernel
theorem dX5_bestFor_87 : decode cX5_bestFor 87 = .ok (.goto 4, 3) := by decide +kernel
theorem dX5_bestFor_90 : decode cX5_bestFor 90 = .ok (.iload_n 2, 1) := by decide +kernel
theorem dX5_bestFor_91 : decode cX5_bestFor 91 = .ok (.istore_n 2, 1) := by decide +kernel
theorem dX5_bestFor_92 : decode cX5_bestFor 92 = .ok (.iload 6, 2) := by decide +kernel
theorem dX5_bestFor_94 : decode cX5_bestFor 94 = .ok (.ifCond .eq 8, 3) := by decide +kernel
theorem dX5_bestFor_97 : decode cX5_bestFor 97 = .ok (.iload 5, 2) := by decide +kernel
theorem dX5_bestFor_99 : decode cX5_bestFor 99 = .ok (.goto 4, 3) := by decide +kernel
theorem dX5_bestFor_102 : decode cX5_bestFor 102 = .ok (.iload_n 3, 1) := by decide +kernel
theorem dX5_bestFor_103 : decode cX5_bestFor 103 = .ok (.istore_n 3, 1) := by decide +kernel
theorem dX5_bestFor_104 : decode cX5_bestFor 104 = .ok (.aload_n 0, 1) := by decide +kernel
theorem dX5_bestFor_105 : decode cX5_bestFor 105 = .ok (.getfield 19, 3) := by decide +kernel
theorem dX5_bestFor_108 : decode cX5_bestFor 108 = .ok (.iconst 0, 1) := by decide +kernel
theorem dX5_bestFor_109 : decode cX5_bestFor 109 = .ok (.aload_n 0, 1) := by decide +kernel
theorem dX5_bestFor_110 : decode cX5_bestFor 110 = .ok (.getfield 7, 3) := by decide +kernel
theorem dX5_bestFor_113 : decode cX5_bestFor 113 = .ok (.iconst 0, 1) := by decide +kernel
theorem dX5_bestFor_114 : decode cX5_bestFor 114 = .ok (.invokestatic 43, 3) := by decide +kernel
theorem dX5_bestFor_117 : decode cX5_bestFor 117 = .ok (.iinc 4 (-4), 3) := by decide +kernel
theorem dX5_bestFor_120 : decode cX5_bestFor 120 = .ok (.goto (-99), 3) := by decide +kernel
theorem dX5_bestFor_123 : decode cX5_bestFor 123 = .ok (.iload_n 2, 1) := by decide +kernel
theorem dX5_bestFor_124 : decode cX5_bestFor 124 = .ok (.ireturn, 1) := by decide +kernel
theorem dX5_bestStone_0 : decode cX5_bestStone 0 = .ok (.aload_n 0, 1) := by decide +kernel
theorem dX5_bestStone_1 : decode cX5_bestStone 1 = .ok (.iload_n 1, 1) := by decide +kernel
theorem dX5_bestStone_2 : decode cX5_bestStone 2 = .ok (.invokestatic 94, 3) := by decide +kernel
theorem dX5_bestStone_5 : decode cX5_bestStone 5 = .ok (.ifCond .eq 7, 3) := by decide +kernel
theorem dX5_bestStone_8 : decode cX5_bestStone 8 = .ok (.iconst 0, 1) := by decide +kernel
theorem dX5_bestStone_9 : decode cX5_bestStone 9 = .ok (.goto 4, 3) := by decide +kernel
theorem dX5_bestStone_12 : decode cX5_bestStone 12 = .ok (.iconst 1, 1) := by decide +kernel
theorem dX5_bestStone_13 : decode cX5_bestStone 13 = .ok (.invokevirtual 98, 3) := by decide +kernel
theorem dX5_bestStone_16 : decode cX5_bestStone 16 = .ok (.ifCond .eq 11, 3) := by decide +kernel
theorem dX5_bestStone_19 : decode cX5_bestStone 19 = .ok (.aload_n 0, 1) := by decide +kernel
theorem dX5_bestStone_20 : decode cX5_bestStone 20 = .ok (.iload_n 1, 1) := by decide +kernel
theorem dX5_bestStone_21 : decode cX5_bestStone 21 = .ok (.invokevirtual 185, 3) := by decide +kernel
theorem dX5_bestStone_24 : decode cX5_bestStone 24 = .ok (.goto 4, 3) := by decide +kernel
theorem dX5_bestStone_27 : decode cX5_bestStone 27 = .ok (.iconst 0, 1) := by decide +kernel
theorem dX5_bestStone_28 : decode cX5_bestStone 28 = .ok (.ireturn, 1) := by decide +kernel
theorem dX5_shareInTime_0 : decode cX5_shareInTime 0 = .ok (.aload_n 0, 1) := by decide +kernel
theorem dX5_shareInTime_1 : decode cX5_shareInTime 1 = .ok (.getfield 7, 3) := by decide +kernel
theorem dX5_shareInTime_4 : decode cX5_shareInTime 4 = .ok (.bipush 6, 2) := by decide +kernel
theorem dX5_shareInTime_6 : decode cX5_shareInTime 6 = .ok (.iaload, 1) := by decide +kernel
theorem dX5_shareInTime_7 : decode cX5_shareInTime 7 = .ok (.ifCond .ne 7, 3) := by decide +kernel
theorem dX5_shareInTime_10 : decode cX5_shareInTime 10 = .ok (.dconst 1, 1) := by decide +kernel
theorem dX5_shareInTime_11 : decode cX5_shareInTime 11 = .ok (.goto 28, 3) := by decide +kernel
theorem dX5_shareInTime_14 : decode cX5_shareInTime 14 = .ok (.aload_n 0, 1) := by decide +kernel
theorem dX5_shareInTime_15 : decode cX5_shareInTime 15 = .ok (.getfield 7, 3) := by decide +kernel
theorem dX5_shareInTime_18 : decode cX5_shareInTime 18 = .ok (.bipush 6, 2) := by decide +kernel
theorem dX5_shareInTime_20 : decode cX5_shareInTime 20 = .ok (.iaload, 1) := by decide +kernel
theorem dX5_shareInTime_21 : decode cX5_shareInTime 21 = .ok (.aload_n 0, 1) := by decide +kernel
theorem dX5_shareInTime_22 : decode cX5_shareInTime 22 = .ok (.getfield 7, 3) := by decide +kernel
theorem dX5_shareInTime_25 : decode cX5_shareInTime 25 = .ok (.bipush 7, 2) := by decide +kernel
theorem dX5_shareInTime_27 : decode cX5_shareInTime 27 = .ok (.iaload, 1) := by decide +kernel
theorem dX5_shareInTime_28 : decode cX5_shareInTime 28 = .ok (.isub, 1) := by decide +kernel
theorem dX5_shareInTime_29 : decode cX5_shareInTime 29 = .ok (.i2d, 1) := by decide +kernel
theorem dX5_shareInTime_30 : decode cX5_shareInTime 30 = .ok (.aload_n 0, 1) := by decide +kernel
theorem dX5_shareInTime_31 : decode cX5_shareInTime 31 = .ok (.getfield 7, 3) := by decide +kernel
theorem dX5_shareInTime_34 : decode cX5_shareInTime 34 = .ok (.bipush 6, 2) := by decide +kernel
theorem dX5_shareInTime_36 : decode cX5_shareInTime 36 = .ok (.iaload, 1) := by decide +kernel
theorem dX5_shareInTime_37 : decode cX5_shareInTime 37 = .ok (.i2d, 1) := by decide +kernel
theorem dX5_shareInTime_38 : decode cX5_shareInTime 38 = .ok (.ddiv, 1) := by decide +kernel
theorem dX5_shareInTime_39 : decode cX5_shareInTime 39 = .ok (.dreturn, 1) := by decide +kernel
theorem dX5_inTime_0 : decode cX5_inTime 0 = .ok (.aload_n 0, 1) := by decide +kernel
theorem dX5_inTime_1 : decode cX5_inTime 1 = .ok (.iconst 0, 1) := by decide +kernel
theorem dX5_inTime_2 : decode cX5_inTime 2 = .ok (.putfield 32, 3) := by decide +kernel
theorem dX5_inTime_5 : decode cX5_inTime 5 = .ok (.aload_n 0, 1) := by decide +kernel
theorem dX5_inTime_6 : decode cX5_inTime 6 = .ok (.invokevirtual 188, 3) := by decide +kernel
theorem dX5_inTime_9 : decode cX5_inTime 9 = .ok (.dreturn, 1) := by decide +kernel
theorem dX5_bitsOf_0 : decode cX5_bitsOf 0 = .ok (.dload_n 0, 1) := by decide +kernel
theorem dX5_bitsOf_1 : decode cX5_bitsOf 1 = .ok (.dconst 0, 1) := by decide +kernel
theorem dX5_bitsOf_2 : decode cX5_bitsOf 2 = .ok (.dcmp .l, 1) := by decide +kernel
theorem dX5_bitsOf_3 : decode cX5_bitsOf 3 = .ok (.ifCond .ne 5, 3) := by decide +kernel
theorem dX5_bitsOf_6 : decode cX5_bitsOf 6 = .ok (.lconst 0, 1) := by decide +kernel
theorem dX5_bitsOf_7 : decode cX5_bitsOf 7 = .ok (.lreturn, 1) := by decide +kernel
theorem dX5_bitsOf_8 : decode cX5_bitsOf 8 = .ok (.ldc2_w 192, 3) := by decide +kernel
theorem dX5_bitsOf_11 : decode cX5_bitsOf 11 = .ok (.lstore_n 2, 1) := by decide +kernel
theorem dX5_bitsOf_12 : decode cX5_bitsOf 12 = .ok (.dload_n 0, 1) := by decide +kernel
theorem dX5_bitsOf_13 : decode cX5_bitsOf 13 = .ok (.dstore 4, 2) := by decide +kernel
theorem dX5_bitsOf_15 : decode cX5_bitsOf 15 = .ok (.dload 4, 2) := by decide +kernel
theorem dX5_bitsOf_17 : decode cX5_bitsOf 17 = .ok (.dconst 1, 1) := by decide +kernel
theorem dX5_bitsOf_18 : decode cX5_bitsOf 18 = .ok (.dcmp .g, 1) := by decide +kernel
theorem dX5_bitsOf_19 : decode cX5_bitsOf 19 = .ok (.ifCond .ge 18, 3) := by decide +kernel
theorem dX5_bitsOf_22 : decode cX5_bitsOf 22 = .ok (.dload 4, 2) := by decide +kernel
theorem dX5_bitsOf_24 : decode cX5_bitsOf 24 = .ok (.ldc2_w 194, 3) := by decide +kernel
theorem dX5_bitsOf_27 : decode cX5_bitsOf 27 = .ok (.dmul, 1) := by decide +kernel
theorem dX5_bitsOf_28 : decode cX5_bitsOf 28 = .ok (.dstore 4, 2) := by decide +kernel
theorem dX5_bitsOf_30 : decode cX5_bitsOf 30 = .ok (.lload_n 2, 1) := by decide +kernel
theorem dX5_bitsOf_31 : decode cX5_bitsOf 31 = .ok (.lconst 1, 1) := by decide +kernel
theorem dX5_bitsOf_32 : decode cX5_bitsOf 32 = .ok (.lsub, 1) := by decide +kernel
theorem dX5_bitsOf_33 : decode cX5_bitsOf 33 = .ok (.lstore_n 2, 1) := by decide +kernel
theorem dX5_bitsOf_34 : decode cX5_bitsOf 34 = .ok (.goto (-19), 3) := by decide +kernel
theorem dX5_bitsOf_37 : decode cX5_bitsOf 37 = .ok (.lload_n 2, 1) := by decide +kernel
theorem dX5_bitsOf_38 : decode cX5_bitsOf 38 = .ok (.ldc2_w 196, 3) := by decide +kernel
theorem dX5_bitsOf_41 : decode cX5_bitsOf 41 = .ok (.lmul, 1) := by decide +kernel
theorem dX5_bitsOf_42 : decode cX5_bitsOf 42 = .ok (.dload 4, 2) := by decide +kernel
theorem dX5_bitsOf_44 : decode cX5_bitsOf 44 = .ok (.dconst 1, 1) := by decide +kernel
theorem dX5_bitsOf_45 : decode cX5_bitsOf 45 = .ok (.dsub, 1) := by decide +kernel
theorem dX5_bitsOf_46 : decode cX5_bitsOf 46 = .ok (.ldc2_w 198, 3) := by decide +kernel
theorem dX5_bitsOf_49 : decode cX5_bitsOf 49 = .ok (.dmul, 1) := by decide +kernel
theorem dX5_bitsOf_50 : decode cX5_bitsOf 50 = .ok (.d2l, 1) := by decide +kernel
theorem dX5_bitsOf_51 : decode cX5_bitsOf 51 = .ok (.ladd, 1) := by decide +kernel
theorem dX5_bitsOf_52 : decode cX5_bitsOf 52 = .ok (.lreturn, 1) := by decide +kernel
theorem dX5_mix_0 : decode cX5_mix 0 = .ok (.aload_n 0, 1) := by decide +kernel
theorem dX5_mix_1 : decode cX5_mix 1 = .ok (.ldc2_w 200, 3) := by decide +kernel
theorem dX5_mix_4 : decode cX5_mix 4 = .ok (.aload_n 0, 1) := by decide +kernel
theorem dX5_mix_5 : decode cX5_mix 5 = .ok (.getfield 202, 3) := by decide +kernel
theorem dX5_mix_8 : decode cX5_mix 8 = .ok (.lmul, 1) := by decide +kernel
theorem dX5_mix_9 : decode cX5_mix 9 = .ok (.lload_n 1, 1) := by decide +kernel
theorem dX5_mix_10 : decode cX5_mix 10 = .ok (.ladd, 1) := by decide +kernel
theorem dX5_mix_11 : decode cX5_mix 11 = .ok (.putfield 202, 3) := by decide +kernel
theorem dX5_mix_14 : decode cX5_mix 14 = .ok (.return_, 1) := by decide +kernel
theorem dX5_mixMill_0 : decode cX5_mixMill 0 = .ok (.iconst 0, 1) := by decide +kernel
theorem dX5_mixMill_1 : decode cX5_mixMill 1 = .ok (.istore_n 2, 1) := by decide +kernel
theorem dX5_mixMill_2 : decode cX5_mixMill 2 = .ok (.iload_n 2, 1) := by decide +kernel
theorem dX5_mixMill_3 : decode cX5_mixMill 3 = .ok (.bipush 11, 2) := by decide +kernel
theorem dX5_mixMill_5 : decode cX5_mixMill 5 = .ok (.if_icmp .ge 20, 3) := by decide +kernel
theorem dX5_mixMill_8 : decode cX5_mixMill 8 = .ok (.aload_n 0, 1) := by decide +kernel
theorem dX5_mixMill_9 : decode cX5_mixMill 9 = .ok (.aload_n 0, 1) := by decide +kernel
theorem dX5_mixMill_10 : decode cX5_mixMill 10 = .ok (.iload_n 1, 1) := by decide +kernel
theorem dX5_mixMill_11 : decode cX5_mixMill 11 = .ok (.iload_n 2, 1) := by decide +kernel
theorem dX5_mixMill_12 : decode cX5_mixMill 12 = .ok (.invokevirtual 163, 3) := by decide +kernel
theorem dX5_mixMill_15 : decode cX5_mixMill 15 = .ok (.i2l, 1) := by decide +kernel
theorem dX5_mixMill_16 : decode cX5_mixMill 16 = .ok (.invokevirtual 206, 3) := by decide +kernel
theorem dX5_mixMill_19 : decode cX5_mixMill 19 = .ok (.iinc 2 1, 3) := by decide +kernel
theorem dX5_mixMill_22 : decode cX5_mixMill 22 = .ok (.goto (-20), 3) := by decide +kernel
theorem dX5_mixMill_25 : decode cX5_mixMill 25 = .ok (.aload_n 0, 1) := by decide +kernel
theorem dX5_mixMill_26 : decode cX5_mixMill 26 = .ok (.aload_n 0, 1) := by decide +kernel
theorem dX5_mixMill_27 : decode cX5_mixMill 27 = .ok (.iload_n 1, 1) := by decide +kernel
theorem dX5_mixMill_28 : decode cX5_mixMill 28 = .ok (.invokevirtual 67, 3) := by decide +kernel
theorem dX5_mixMill_31 : decode cX5_mixMill 31 = .ok (.i2l, 1) := by decide +kernel
theorem dX5_mixMill_32 : decode cX5_mixMill 32 = .ok (.invokevirtual 206, 3) := by decide +kernel
theorem dX5_mixMill_35 : decode cX5_mixMill 35 = .ok (.iconst 0, 1) := by decide +kernel
theorem dX5_mixMill_36 : decode cX5_mixMill 36 = .ok (.istore_n 2, 1) := by decide +kernel
theorem dX5_mixMill_37 : decode cX5_mixMill 37 = .ok (.iload_n 2, 1) := by decide +kernel
theorem dX5_mixMill_38 : decode cX5_mixMill 38 = .ok (.aload_n 0, 1) := by decide +kernel
theorem dX5_mixMill_39 : decode cX5_mixMill 39 = .ok (.iload_n 1, 1) := by decide +kernel
theorem dX5_mixMill_40 : decode cX5_mixMill 40 = .ok (.bipush 9, 2) := by decide +kernel
theorem dX5_mixMill_42 : decode cX5_mixMill 42 = .ok (.invokevirtual 47, 3) := by decide +kernel
theorem dX5_mixMill_45 : decode cX5_mixMill 45 = .ok (.if_icmp .ge 33, 3) := by decide +kernel
theorem dX5_mixMill_48 : decode cX5_mixMill 48 = .ok (.aload_n 0, 1) := by decide +kernel
theorem dX5_mixMill_49 : decode cX5_mixMill 49 = .ok (.aload_n 0, 1) := by decide +kernel
theorem dX5_mixMill_50 : decode cX5_mixMill 50 = .ok (.iload_n 1, 1) := by decide +kernel
theorem dX5_mixMill_51 : decode cX5_mixMill 51 = .ok (.iload_n 2, 1) := by decide +kernel
theorem dX5_mixMill_52 : decode cX5_mixMill 52 = .ok (.iconst 0, 1) := by decide +kernel
theorem dX5_mixMill_53 : decode cX5_mixMill 53 = .ok (.invokevirtual 166, 3) := by decide +kernel
theorem dX5_mixMill_56 : decode cX5_mixMill 56 = .ok (.i2l, 1) := by decide +kernel
theorem dX5_mixMill_57 : decode cX5_mixMill 57 = .ok (.invokevirtual 206, 3) := by decide +kernel
theorem dX5_mixMill_60 : decode cX5_mixMill 60 = .ok (.aload_n 0, 1) := by decide +kernel
theorem dX5_mixMill_61 : decode cX5_mixMill 61 = .ok (.aload_n 0, 1) := by decide +kernel
theorem dX5_mixMill_62 : decode cX5_mixMill 62 = .ok (.iload_n 1, 1) := by decide +kernel
theorem dX5_mixMill_63 : decode cX5_mixMill 63 = .ok (.iload_n 2, 1) := by decide +kernel
theorem dX5_mixMill_64 : decode cX5_mixMill 64 = .ok (.iconst 2, 1) := by decide +kernel
theorem dX5_mixMill_65 : decode cX5_mixMill 65 = .ok (.invokevirtual 166, 3) := by decide +kernel
theorem dX5_mixMill_68 : decode cX5_mixMill 68 = .ok (.i2l, 1) := by decide +kernel
theorem dX5_mixMill_69 : decode cX5_mixMill 69 = .ok (.invokevirtual 206, 3) := by decide +kernel
theorem dX5_mixMill_72 : decode cX5_mixMill 72 = .ok (.iinc 2 1, 3) := by decide +kernel
theorem dX5_mixMill_75 : decode cX5_mixMill 75 = .ok (.goto (-38), 3) := by decide +kernel
theorem dX5_mixMill_78 : decode cX5_mixMill 78 = .ok (.aload_n 0, 1) := by decide +kernel
theorem dX5_mixMill_79 : decode cX5_mixMill 79 = .ok (.aload_n 0, 1) := by decide +kernel
theorem dX5_mixMill_80 : decode cX5_mixMill 80 = .ok (.iload_n 1, 1) := by decide +kernel
theorem dX5_mixMill_81 : decode cX5_mixMill 81 = .ok (.bipush 9, 2) := by decide +kernel
theorem dX5_mixMill_83 : decode cX5_mixMill 83 = .ok (.invokevirtual 47, 3) := by decide +kernel
theorem dX5_mixMill_86 : decode cX5_mixMill 86 = .ok (.ifCond .ne 9, 3) := by decide +kernel
theorem dX5_mixMill_89 : decode cX5_mixMill 89 = .ok (.ldc2_w 210, 3) := by decide +kernel
theorem dX5_mixMill_92 : decode cX5_mixMill 92 = .ok (.goto 15, 3) := by decide +kernel
theorem dX5_mixMill_95 : decode cX5_mixMill 95 = .ok (.aload_n 0, 1) := by decide +kernel
theorem dX5_mixMill_96 : decode cX5_mixMill 96 = .ok (.aload_n 0, 1) := by decide +kernel
theorem dX5_mixMill_97 : decode cX5_mixMill 97 = .ok (.iload_n 1, 1) := by decide +kernel
theorem dX5_mixMill_98 : decode cX5_mixMill 98 = .ok (.iconst 0, 1) := by decide +kernel
theorem dX5_mixMill_99 : decode cX5_mixMill 99 = .ok (.iconst 0, 1) := by decide +kernel
theorem dX5_mixMill_100 : decode cX5_mixMill 100 = .ok (.invokevirtual 166, 3) := by decide +kernel
theorem dX5_mixMill_103 : decode cX5_mixMill 103 = .ok (.invokevirtual 178, 3) := by decide +kernel
theorem dX5_mixMill_106 : decode cX5_mixMill 106 = .ok (.i2l, 1) := by decide +kernel
theorem dX5_mixMill_107 : decode cX5_mixMill 107 = .ok (.invokevirtual 206, 3) := by decide +kernel
theorem dX5_mixMill_110 : decode cX5_mixMill 110 = .ok (.aload_n 0, 1) := by decide +kernel
theorem dX5_mixMill_111 : decode cX5_mixMill 111 = .ok (.aload_n 0, 1) := by decide +kernel
theorem dX5_mixMill_112 : decode cX5_mixMill 112 = .ok (.iload_n 1, 1) := by decide +kernel
theorem dX5_mixMill_113 : decode cX5_mixMill 113 = .ok (.invokevirtual 185, 3) := by decide +kernel
theorem dX5_mixMill_116 : decode cX5_mixMill 116 = .ok (.i2l, 1) := by decide +kernel
theorem dX5_mixMill_117 : decode cX5_mixMill 117 = .ok (.invokevirtual 206, 3) := by decide +kernel
theorem dX5_mixMill_120 : decode cX5_mixMill 120 = .ok (.return_, 1) := by decide +kernel
theorem dX5_digest_0 : decode cX5_digest 0 = .ok (.aload_n 0, 1) := by decide +kernel
theorem dX5_digest_1 : decode cX5_digest 1 = .ok (.iconst 0, 1) := by decide +kernel
theorem dX5_digest_2 : decode cX5_digest 2 = .ok (.putfield 32, 3) := by decide +kernel
theorem dX5_digest_5 : decode cX5_digest 5 = .ok (.aload_n 0, 1) := by decide +kernel
theorem dX5_digest_6 : decode cX5_digest 6 = .ok (.ldc2_w 212, 3) := by decide +kernel
theorem dX5_digest_9 : decode cX5_digest 9 = .ok (.putfield 202, 3) := by decide +kernel
theorem dX5_digest_12 : decode cX5_digest 12 = .ok (.iconst 0, 1) := by decide +kernel
theorem dX5_digest_13 : decode cX5_digest 13 = .ok (.istore_n 1, 1) := by decide +kernel
theorem dX5_digest_14 : decode cX5_digest 14 = .ok (.iload_n 1, 1) := by decide +kernel
theorem dX5_digest_15 : decode cX5_digest 15 = .ok (.bipush 15, 2) := by decide +kernel
theorem dX5_digest_17 : decode cX5_digest 17 = .ok (.if_icmp .ge 19, 3) := by decide +kernel
theorem dX5_digest_20 : decode cX5_digest 20 = .ok (.aload_n 0, 1) := by decide +kernel
theorem dX5_digest_21 : decode cX5_digest 21 = .ok (.aload_n 0, 1) := by decide +kernel
theorem dX5_digest_22 : decode cX5_digest 22 = .ok (.iload_n 1, 1) := by decide +kernel
theorem dX5_digest_23 : decode cX5_digest 23 = .ok (.invokevirtual 172, 3) := by decide +kernel
theorem dX5_digest_26 : decode cX5_digest 26 = .ok (.i2l, 1) := by decide +kernel
theorem dX5_digest_27 : decode cX5_digest 27 = .ok (.invokevirtual 206, 3) := by decide +kernel
theorem dX5_digest_30 : decode cX5_digest 30 = .ok (.iinc 1 1, 3) := by decide +kernel
theorem dX5_digest_33 : decode cX5_digest 33 = .ok (.goto (-19), 3) := by decide +kernel
theorem dX5_digest_36 : decode cX5_digest 36 = .ok (.iconst 0, 1) := by decide +kernel
theorem dX5_digest_37 : decode cX5_digest 37 = .ok (.istore_n 1, 1) := by decide +kernel
theorem dX5_digest_38 : decode cX5_digest 38 = .ok (.iload_n 1, 1) := by decide +kernel
theorem dX5_digest_39 : decode cX5_digest 39 = .ok (.iconst 5, 1) := by decide +kernel
theorem dX5_digest_40 : decode cX5_digest 40 = .ok (.if_icmp .ge 14, 3) := by decide +kernel
theorem dX5_digest_43 : decode cX5_digest 43 = .ok (.aload_n 0, 1) := by decide +kernel
theorem dX5_digest_44 : decode cX5_digest 44 = .ok (.iload_n 1, 1) := by decide +kernel
theorem dX5_digest_45 : decode cX5_digest 45 = .ok (.invokevirtual 214, 3) := by decide +kernel
theorem dX5_digest_48 : decode cX5_digest 48 = .ok (.iinc 1 1, 3) := by decide +kernel
theorem dX5_digest_51 : decode cX5_digest 51 = .ok (.goto (-13), 3) := by decide +kernel
theorem dX5_digest_54 : decode cX5_digest 54 = .ok (.iconst 0, 1) := by decide +kernel
theorem dX5_digest_55 : decode cX5_digest 55 = .ok (.istore_n 1, 1) := by decide +kernel
theorem dX5_digest_56 : decode cX5_digest 56 = .ok (.iload_n 1, 1) := by decide +kernel
theorem dX5_digest_57 : decode cX5_digest 57 = .ok (.bipush 12, 2) := by decide +kernel
theorem dX5_digest_59 : decode cX5_digest 59 = .ok (.if_icmp .ge 19, 3) := by decide +kernel
theorem dX5_digest_62 : decode cX5_digest 62 = .ok (.aload_n 0, 1) := by decide +kernel
theorem dX5_digest_63 : decode cX5_digest 63 = .ok (.aload_n 0, 1) := by decide +kernel
theorem dX5_digest_64 : decode cX5_digest 64 = .ok (.iload_n 1, 1) := by decide +kernel
theorem dX5_digest_65 : decode cX5_digest 65 = .ok (.invokevirtual 60, 3) := by decide +kernel
theorem dX5_digest_68 : decode cX5_digest 68 = .ok (.i2l, 1) := by decide +kernel
theorem dX5_digest_69 : decode cX5_digest 69 = .ok (.invokevirtual 206, 3) := by decide +kernel
theorem dX5_digest_72 : decode cX5_digest 72 = .ok (.iinc 1 1, 3) := by decide +kernel
theorem dX5_digest_75 : decode cX5_digest 75 = .ok (.goto (-19), 3) := by decide +kernel
theorem dX5_digest_78 : decode cX5_digest 78 = .ok (.iconst 0, 1) := by decide +kernel
theorem dX5_digest_79 : decode cX5_digest 79 = .ok (.istore_n 1, 1) := by decide +kernel
theorem dX5_digest_80 : decode cX5_digest 80 = .ok (.iload_n 1, 1) := by decide +kernel
theorem dX5_digest_81 : decode cX5_digest 81 = .ok (.iconst 5, 1) := by decide +kernel
theorem dX5_digest_82 : decode cX5_digest 82 = .ok (.if_icmp .ge 19, 3) := by decide +kernel
theorem dX5_digest_85 : decode cX5_digest 85 = .ok (.aload_n 0, 1) := by decide +kernel
theorem dX5_digest_86 : decode cX5_digest 86 = .ok (.aload_n 0, 1) := by decide +kernel
theorem dX5_digest_87 : decode cX5_digest 87 = .ok (.iload_n 1, 1) := by decide +kernel
theorem dX5_digest_88 : decode cX5_digest 88 = .ok (.invokevirtual 85, 3) := by decide +kernel
theorem dX5_digest_91 : decode cX5_digest 91 = .ok (.i2l, 1) := by decide +kernel
theorem dX5_digest_92 : decode cX5_digest 92 = .ok (.invokevirtual 206, 3) := by decide +kernel
theorem dX5_digest_95 : decode cX5_digest 95 = .ok (.iinc 1 1, 3) := by decide +kernel
theorem dX5_digest_98 : decode cX5_digest 98 = .ok (.goto (-18), 3) := by decide +kernel
theorem dX5_digest_101 : decode cX5_digest 101 = .ok (.aload_n 0, 1) := by decide +kernel
theorem dX5_digest_102 : decode cX5_digest 102 = .ok (.aload_n 0, 1) := by decide +kernel
theorem dX5_digest_103 : decode cX5_digest 103 = .ok (.iconst 0, 1) := by decide +kernel
theorem dX5_digest_104 : decode cX5_digest 104 = .ok (.invokevirtual 85, 3) := by decide +kernel
theorem dX5_digest_107 : decode cX5_digest 107 = .ok (.i2l, 1) := by decide +kernel
theorem dX5_digest_108 : decode cX5_digest 108 = .ok (.invokevirtual 206, 3) := by decide +kernel
theorem dX5_digest_111 : decode cX5_digest 111 = .ok (.iconst 0, 1) := by decide +kernel
theorem dX5_digest_112 : decode cX5_digest 112 = .ok (.istore_n 1, 1) := by decide +kernel
theorem dX5_digest_113 : decode cX5_digest 113 = .ok (.iload_n 1, 1) := by decide +kernel
theorem dX5_digest_114 : decode cX5_digest 114 = .ok (.iconst 4, 1) := by decide +kernel
theorem dX5_digest_115 : decode cX5_digest 115 = .ok (.if_icmp .ge 21, 3) := by decide +kernel
theorem dX5_digest_118 : decode cX5_digest 118 = .ok (.aload_n 0, 1) := by decide +kernel
theorem dX5_digest_119 : decode cX5_digest 119 = .ok (.aload_n 0, 1) := by decide +kernel
theorem dX5_digest_120 : decode cX5_digest 120 = .ok (.bipush 12, 2) := by decide +kernel
theorem dX5_digest_122 : decode cX5_digest 122 = .ok (.iload_n 1, 1) := by decide +kernel
theorem dX5_digest_123 : decode cX5_digest 123 = .ok (.invokevirtual 175, 3) := by decide +kernel
theorem dX5_digest_126 : decode cX5_digest 126 = .ok (.i2l, 1) := by decide +kernel
theorem dX5_digest_127 : decode cX5_digest 127 = .ok (.invokevirtual 206, 3) := by decide +kernel
theorem dX5_digest_130 : decode cX5_digest 130 = .ok (.iinc 1 1, 3) := by decide +kernel
theorem dX5_digest_133 : decode cX5_digest 133 = .ok (.goto (-20), 3) := by decide +kernel
theorem dX5_digest_136 : decode cX5_digest 136 = .ok (.aload_n 0, 1) := by decide +kernel
theorem dX5_digest_137 : decode cX5_digest 137 = .ok (.aload_n 0, 1) := by decide +kernel
theorem dX5_digest_138 : decode cX5_digest 138 = .ok (.invokevirtual 188, 3) := by decide +kernel
theorem dX5_digest_141 : decode cX5_digest 141 = .ok (.invokestatic 217, 3) := by decide +kernel
theorem dX5_digest_144 : decode cX5_digest 144 = .ok (.invokevirtual 206, 3) := by decide +kernel
theorem dX5_digest_147 : decode cX5_digest 147 = .ok (.aload_n 0, 1) := by decide +kernel
theorem dX5_digest_148 : decode cX5_digest 148 = .ok (.aload_n 0, 1) := by decide +kernel
theorem dX5_digest_149 : decode cX5_digest 149 = .ok (.getfield 124, 3) := by decide +kernel
theorem dX5_digest_152 : decode cX5_digest 152 = .ok (.i2l, 1) := by decide +kernel
theorem dX5_digest_153 : decode cX5_digest 153 = .ok (.invokevirtual 206, 3) := by decide +kernel
theorem dX5_digest_156 : decode cX5_digest 156 = .ok (.iconst 0, 1) := by decide +kernel
theorem dX5_digest_157 : decode cX5_digest 157 = .ok (.istore_n 1, 1) := by decide +kernel
theorem dX5_digest_158 : decode cX5_digest 158 = .ok (.iload_n 1, 1) := by decide +kernel
theorem dX5_digest_159 : decode cX5_digest 159 = .ok (.aload_n 0, 1) := by decide +kernel
theorem dX5_digest_160 : decode cX5_digest 160 = .ok (.getfield 124, 3) := by decide +kernel
theorem dX5_digest_163 : decode cX5_digest 163 = .ok (.if_icmp .ge 20, 3) := by decide +kernel
theorem dX5_digest_166 : decode cX5_digest 166 = .ok (.aload_n 0, 1) := by decide +kernel
theorem dX5_digest_167 : decode cX5_digest 167 = .ok (.aload_n 0, 1) := by decide +kernel
theorem dX5_digest_168 : decode cX5_digest 168 = .ok (.getfield 22, 3) := by decide +kernel
theorem dX5_digest_171 : decode cX5_digest 171 = .ok (.iload_n 1, 1) := by decide +kernel
theorem dX5_digest_172 : decode cX5_digest 172 = .ok (.iaload, 1) := by decide +kernel
theorem dX5_digest_173 : decode cX5_digest 173 = .ok (.i2l, 1) := by decide +kernel
theorem dX5_digest_174 : decode cX5_digest 174 = .ok (.invokevirtual 206, 3) := by decide +kernel
theorem dX5_digest_177 : decode cX5_digest 177 = .ok (.iinc 1 1, 3) := by decide +kernel
theorem dX5_digest_180 : decode cX5_digest 180 = .ok (.goto (-22), 3) := by decide +kernel
theorem dX5_digest_183 : decode cX5_digest 183 = .ok (.aload_n 0, 1) := by decide +kernel
theorem dX5_digest_184 : decode cX5_digest 184 = .ok (.getfield 202, 3) := by decide +kernel
theorem dX5_digest_187 : decode cX5_digest 187 = .ok (.lreturn, 1) := by decide +kernel
theorem dJ9_min_7cf53_0 : decode cJ9_min_7cf53 0 = .ok (.iload_n 0, 1) := by decide +kernel
theorem dJ9_min_7cf53_1 : decode cJ9_min_7cf53 1 = .ok (.iload_n 1, 1) := by decide +kernel
theorem dJ9_min_7cf53_2 : decode cJ9_min_7cf53 2 = .ok (.if_icmp .gt 7, 3) := by decide +kernel
theorem dJ9_min_7cf53_5 : decode cJ9_min_7cf53 5 = .ok (.iload_n 0, 1) := by decide +kernel
theorem dJ9_min_7cf53_6 : decode cJ9_min_7cf53 6 = .ok (.goto 4, 3) := by decide +kernel
theorem dJ9_min_7cf53_9 : decode cJ9_min_7cf53 9 = .ok (.iload_n 1, 1) := by decide +kernel
theorem dJ9_min_7cf53_10 : decode cJ9_min_7cf53 10 = .ok (.ireturn, 1) := by decide +kernel
theorem dL_pond_0 : decode cL_pond 0 = .ok (.aload 4, 2) := by decide +kernel
theorem dL_pond_2 : decode cL_pond 2 = .ok (.iconst 0, 1) := by decide +kernel
theorem dL_pond_3 : decode cL_pond 3 = .ok (.aload_n 0, 1) := by decide +kernel
theorem dL_pond_4 : decode cL_pond 4 = .ok (.iload_n 1, 1) := by decide +kernel
theorem dL_pond_5 : decode cL_pond 5 = .ok (.iload_n 2, 1) := by decide +kernel
theorem dL_pond_6 : decode cL_pond 6 = .ok (.iload_n 3, 1) := by decide +kernel
theorem dL_pond_7 : decode cL_pond 7 = .ok (.invokevirtual 7, 3) := by decide +kernel
theorem dL_pond_10 : decode cL_pond 10 = .ok (.i2l, 1) := by decide +kernel
theorem dL_pond_11 : decode cL_pond 11 = .ok (.lastore, 1) := by decide +kernel
theorem dL_pond_12 : decode cL_pond 12 = .ok (.goto 15, 3) := by decide +kernel
theorem dL_pond_15 : decode cL_pond 15 = .ok (.astore 5, 2) := by decide +kernel
theorem dL_pond_17 : decode cL_pond 17 = .ok (.iconst 1, 1) := by decide +kernel
theorem dL_pond_18 : decode cL_pond 18 = .ok (.ireturn, 1) := by decide +kernel
theorem dL_pond_19 : decode cL_pond 19 = .ok (.astore 5, 2) := by decide +kernel
theorem dL_pond_21 : decode cL_pond 21 = .ok (.iconst 2, 1) := by decide +kernel
theorem dL_pond_22 : decode cL_pond 22 = .ok (.ireturn, 1) := by decide +kernel
theorem dL_pond_23 : decode cL_pond 23 = .ok (.astore 5, 2) := by decide +kernel
theorem dL_pond_25 : decode cL_pond 25 = .ok (.iconst 3, 1) := by decide +kernel
theorem dL_pond_26 : decode cL_pond 26 = .ok (.ireturn, 1) := by decide +kernel
theorem dL_pond_27 : decode cL_pond 27 = .ok (.iconst 0, 1) := by decide +kernel
theorem dL_pond_28 : decode cL_pond 28 = .ok (.ireturn, 1) := by decide +kernel
theorem dL_gate_0 : decode cL_gate 0 = .ok (.aload 4, 2) := by decide +kernel
theorem dL_gate_2 : decode cL_gate 2 = .ok (.iconst 0, 1) := by decide +kernel
theorem dL_gate_3 : decode cL_gate 3 = .ok (.aload_n 0, 1) := by decide +kernel
theorem dL_gate_4 : decode cL_gate 4 = .ok (.iload_n 1, 1) := by decide +kernel
theorem dL_gate_5 : decode cL_gate 5 = .ok (.iload_n 2, 1) := by decide +kernel
theorem dL_gate_6 : decode cL_gate 6 = .ok (.iload_n 3, 1) := by decide +kernel
theorem dL_gate_7 : decode cL_gate 7 = .ok (.invokevirtual 19, 3) := by decide +kernel
theorem dL_gate_10 : decode cL_gate 10 = .ok (.i2l, 1) := by decide +kernel
theorem dL_gate_11 : decode cL_gate 11 = .ok (.lastore, 1) := by decide +kernel
theorem dL_gate_12 : decode cL_gate 12 = .ok (.goto 11, 3) := by decide +kernel
theorem dL_gate_15 : decode cL_gate 15 = .ok (.astore 5, 2) := by decide +kernel
theorem dL_gate_17 : decode cL_gate 17 = .ok (.iconst 1, 1) := by decide +kernel
theorem dL_gate_18 : decode cL_gate 18 = .ok (.ireturn, 1) := by decide +kernel
theorem dL_gate_19 : decode cL_gate 19 = .ok (.astore 5, 2) := by decide +kernel
theorem dL_gate_21 : decode cL_gate 21 = .ok (.iconst 2, 1) := by decide +kernel
theorem dL_gate_22 : decode cL_gate 22 = .ok (.ireturn, 1) := by decide +kernel
theorem dL_gate_23 : decode cL_gate 23 = .ok (.iconst 0, 1) := by decide +kernel
theorem dL_gate_24 : decode cL_gate 24 = .ok (.ireturn, 1) := by decide +kernel
theorem dL_gear_0 : decode cL_gear 0 = .ok (.aload 4, 2) := by decide +kernel
theorem dL_gear_2 : decode cL_gear 2 = .ok (.iconst 0, 1) := by decide +kernel
theorem dL_gear_3 : decode cL_gear 3 = .ok (.aload_n 0, 1) := by decide +kernel
theorem dL_gear_4 : decode cL_gear 4 = .ok (.iload_n 1, 1) := by decide +kernel
theorem dL_gear_5 : decode cL_gear 5 = .ok (.iload_n 2, 1) := by decide +kernel
theorem dL_gear_6 : decode cL_gear 6 = .ok (.iload_n 3, 1) := by decide +kernel
theorem dL_gear_7 : decode cL_gear 7 = .ok (.invokevirtual 22, 3) := by decide +kernel
theorem dL_gear_10 : decode cL_gear 10 = .ok (.i2l, 1) := by decide +kernel
theorem dL_gear_11 : decode cL_gear 11 = .ok (.lastore, 1) := by decide +kernel
theorem dL_gear_12 : decode cL_gear 12 = .ok (.goto 11, 3) := by decide +kernel
theorem dL_gear_15 : decode cL_gear 15 = .ok (.astore 5, 2) := by decide +kernel
theorem dL_gear_17 : decode cL_gear 17 = .ok (.iconst 1, 1) := by decide +kernel
theorem dL_gear_18 : decode cL_gear 18 = .ok (.ireturn, 1) := by decide +kernel
theorem dL_gear_19 : decode cL_gear 19 = .ok (.astore 5, 2) := by decide +kernel
theorem dL_gear_21 : decode cL_gear 21 = .ok (.iconst 2, 1) := by decide +kernel
theorem dL_gear_22 : decode cL_gear 22 = .ok (.ireturn, 1) := by decide +kernel
theorem dL_gear_23 : decode cL_gear 23 = .ok (.iconst 0, 1) := by decide +kernel
theorem dL_gear_24 : decode cL_gear 24 = .ok (.ireturn, 1) := by decide +kernel
theorem dL_set_0 : decode cL_set 0 = .ok (.aload_n 3, 1) := by decide +kernel
theorem dL_set_1 : decode cL_set 1 = .ok (.iconst 0, 1) := by decide +kernel
theorem dL_set_2 : decode cL_set 2 = .ok (.aload_n 0, 1) := by decide +kernel
theorem dL_set_3 : decode cL_set 3 = .ok (.iload_n 1, 1) := by decide +kernel
theorem dL_set_4 : decode cL_set 4 = .ok (.iload_n 2, 1) := by decide +kernel
theorem dL_set_5 : decode cL_set 5 = .ok (.invokevirtual 25, 3) := by decide +kernel
theorem dL_set_8 : decode cL_set 8 = .ok (.i2l, 1) := by decide +kernel
theorem dL_set_9 : decode cL_set 9 = .ok (.lastore, 1) := by decide +kernel
theorem dL_set_10 : decode cL_set 10 = .ok (.goto 11, 3) := by decide +kernel
theorem dL_set_13 : decode cL_set 13 = .ok (.astore 4, 2) := by decide +kernel
theorem dL_set_15 : decode cL_set 15 = .ok (.iconst 1, 1) := by decide +kernel
theorem dL_set_16 : decode cL_set 16 = .ok (.ireturn, 1) := by decide +kernel
theorem dL_set_17 : decode cL_set 17 = .ok (.astore 4, 2) := by decide +kernel
theorem dL_set_19 : decode cL_set 19 = .ok (.iconst 2, 1) := by decide +kernel
theorem dL_set_20 : decode cL_set 20 = .ok (.ireturn, 1) := by decide +kernel
theorem dL_set_21 : decode cL_set 21 = .ok (.iconst 0, 1) := by decide +kernel
theorem dL_set_22 : decode cL_set 22 = .ok (.ireturn, 1) := by decide +kernel
theorem dL_pass_0 : decode cL_pass 0 = .ok (.aload_n 2, 1) := by decide +kernel
theorem dL_pass_1 : decode cL_pass 1 = .ok (.iconst 0, 1) := by decide +kernel
theorem dL_pass_2 : decode cL_pass 2 = .ok (.aload_n 0, 1) := by decide +kernel
theorem dL_pass_3 : decode cL_pass 3 = .ok (.iload_n 1, 1) := by decide +kernel
theorem dL_pass_4 : decode cL_pass 4 = .ok (.invokevirtual 29, 3) := by decide +kernel
theorem dL_pass_7 : decode cL_pass 7 = .ok (.i2l, 1) := by decide +kernel
theorem dL_pass_8 : decode cL_pass 8 = .ok (.lastore, 1) := by decide +kernel
theorem dL_pass_9 : decode cL_pass 9 = .ok (.goto 6, 3) := by decide +kernel
theorem dL_pass_12 : decode cL_pass 12 = .ok (.astore_n 3, 1) := by decide +kernel
theorem dL_pass_13 : decode cL_pass 13 = .ok (.iconst 1, 1) := by decide +kernel
theorem dL_pass_14 : decode cL_pass 14 = .ok (.ireturn, 1) := by decide +kernel
theorem dL_pass_15 : decode cL_pass 15 = .ok (.iconst 0, 1) := by decide +kernel
theorem dL_pass_16 : decode cL_pass 16 = .ok (.ireturn, 1) := by decide +kernel
theorem dL_sack_0 : decode cL_sack 0 = .ok (.aload 4, 2) := by decide +kernel
theorem dL_sack_2 : decode cL_sack 2 = .ok (.iconst 0, 1) := by decide +kernel
theorem dL_sack_3 : decode cL_sack 3 = .ok (.aload_n 0, 1) := by decide +kernel
theorem dL_sack_4 : decode cL_sack 4 = .ok (.iload_n 1, 1) := by decide +kernel
theorem dL_sack_5 : decode cL_sack 5 = .ok (.iload_n 2, 1) := by decide +kernel
theorem dL_sack_6 : decode cL_sack 6 = .ok (.iload_n 3, 1) := by decide +kernel
theorem dL_sack_7 : decode cL_sack 7 = .ok (.invokevirtual 33, 3) := by decide +kernel
theorem dL_sack_10 : decode cL_sack 10 = .ok (.i2l, 1) := by decide +kernel
theorem dL_sack_11 : decode cL_sack 11 = .ok (.lastore, 1) := by decide +kernel
theorem dL_sack_12 : decode cL_sack 12 = .ok (.goto 15, 3) := by decide +kernel
theorem dL_sack_15 : decode cL_sack 15 = .ok (.astore 5, 2) := by decide +kernel
theorem dL_sack_17 : decode cL_sack 17 = .ok (.iconst 1, 1) := by decide +kernel
theorem dL_sack_18 : decode cL_sack 18 = .ok (.ireturn, 1) := by decide +kernel
theorem dL_sack_19 : decode cL_sack 19 = .ok (.astore 5, 2) := by decide +kernel
theorem dL_sack_21 : decode cL_sack 21 = .ok (.iconst 2, 1) := by decide +kernel
theorem dL_sack_22 : decode cL_sack 22 = .ok (.ireturn, 1) := by decide +kernel
theorem dL_sack_23 : decode cL_sack 23 = .ok (.astore 5, 2) := by decide +kernel
theorem dL_sack_25 : decode cL_sack 25 = .ok (.iconst 3, 1) := by decide +kernel
theorem dL_sack_26 : decode cL_sack 26 = .ok (.ireturn, 1) := by decide +kernel
theorem dL_sack_27 : decode cL_sack 27 = .ok (.iconst 0, 1) := by decide +kernel
theorem dL_sack_28 : decode cL_sack 28 = .ok (.ireturn, 1) := by decide +kernel
theorem dL_carry_0 : decode cL_carry 0 = .ok (.aload_n 3, 1) := by decide +kernel
theorem dL_carry_1 : decode cL_carry 1 = .ok (.iconst 0, 1) := by decide +kernel
theorem dL_carry_2 : decode cL_carry 2 = .ok (.aload_n 0, 1) := by decide +kernel
theorem dL_carry_3 : decode cL_carry 3 = .ok (.iload_n 1, 1) := by decide +kernel
theorem dL_carry_4 : decode cL_carry 4 = .ok (.iload_n 2, 1) := by decide +kernel
theorem dL_carry_5 : decode cL_carry 5 = .ok (.invokevirtual 36, 3) := by decide +kernel
theorem dL_carry_8 : decode cL_carry 8 = .ok (.i2l, 1) := by decide +kernel
theorem dL_carry_9 : decode cL_carry 9 = .ok (.lastore, 1) := by decide +kernel
theorem dL_carry_10 : decode cL_carry 10 = .ok (.goto 11, 3) := by decide +kernel
theorem dL_carry_13 : decode cL_carry 13 = .ok (.astore 4, 2) := by decide +kernel
theorem dL_carry_15 : decode cL_carry 15 = .ok (.iconst 1, 1) := by decide +kernel
theorem dL_carry_16 : decode cL_carry 16 = .ok (.ireturn, 1) := by decide +kernel
theorem dL_carry_17 : decode cL_carry 17 = .ok (.astore 4, 2) := by decide +kernel
theorem dL_carry_19 : decode cL_carry 19 = .ok (.iconst 2, 1) := by decide +kernel
theorem dL_carry_20 : decode cL_carry 20 = .ok (.ireturn, 1) := by decide +kernel
theorem dL_carry_21 : decode cL_carry 21 = .ok (.iconst 0, 1) := by decide +kernel
theorem dL_carry_22 : decode cL_carry 22 = .ok (.ireturn, 1) := by decide +kernel
theorem dL_back_0 : decode cL_back 0 = .ok (.aload_n 2, 1) := by decide +kernel
theorem dL_back_1 : decode cL_back 1 = .ok (.iconst 0, 1) := by decide +kernel
theorem dL_back_2 : decode cL_back 2 = .ok (.aload_n 0, 1) := by decide +kernel
theorem dL_back_3 : decode cL_back 3 = .ok (.iload_n 1, 1) := by decide +kernel
theorem dL_back_4 : decode cL_back 4 = .ok (.invokevirtual 39, 3) := by decide +kernel
theorem dL_back_7 : decode cL_back 7 = .ok (.i2l, 1) := by decide +kernel
theorem dL_back_8 : decode cL_back 8 = .ok (.lastore, 1) := by decide +kernel
theorem dL_back_9 : decode cL_back 9 = .ok (.goto 6, 3) := by decide +kernel
theorem dL_back_12 : decode cL_back 12 = .ok (.astore_n 3, 1) := by decide +kernel
theorem dL_back_13 : decode cL_back 13 = .ok (.iconst 1, 1) := by decide +kernel
theorem dL_back_14 : decode cL_back 14 = .ok (.ireturn, 1) := by decide +kernel
theorem dL_back_15 : decode cL_back 15 = .ok (.iconst 0, 1) := by decide +kernel
theorem dL_back_16 : decode cL_back 16 = .ok (.ireturn, 1) := by decide +kernel
theorem dL_append_0 : decode cL_append 0 = .ok (.aload_n 2, 1) := by decide +kernel
theorem dL_append_1 : decode cL_append 1 = .ok (.iconst 0, 1) := by decide +kernel
theorem dL_append_2 : decode cL_append 2 = .ok (.aload_n 0, 1) := by decide +kernel
theorem dL_append_3 : decode cL_append 3 = .ok (.iload_n 1, 1) := by decide +kernel
theorem dL_append_4 : decode cL_append 4 = .ok (.invokevirtual 42, 3) := by decide +kernel
theorem dL_append_7 : decode cL_append 7 = .ok (.i2l, 1) := by decide +kernel
theorem dL_append_8 : decode cL_append 8 = .ok (.lastore, 1) := by decide +kernel
theorem dL_append_9 : decode cL_append 9 = .ok (.goto 9, 3) := by decide +kernel
theorem dL_append_12 : decode cL_append 12 = .ok (.astore_n 3, 1) := by decide +kernel
theorem dL_append_13 : decode cL_append 13 = .ok (.iconst 1, 1) := by decide +kernel
theorem dL_append_14 : decode cL_append 14 = .ok (.ireturn, 1) := by decide +kernel
theorem dL_append_15 : decode cL_append 15 = .ok (.astore_n 3, 1) := by decide +kernel
theorem dL_append_16 : decode cL_append 16 = .ok (.iconst 2, 1) := by decide +kernel
theorem dL_append_17 : decode cL_append 17 = .ok (.ireturn, 1) := by decide +kernel
theorem dL_append_18 : decode cL_append 18 = .ok (.iconst 0, 1) := by decide +kernel
theorem dL_append_19 : decode cL_append 19 = .ok (.ireturn, 1) := by decide +kernel
theorem dL_play_0 : decode cL_play 0 = .ok (.aload_n 1, 1) := by decide +kernel
theorem dL_play_1 : decode cL_play 1 = .ok (.iconst 0, 1) := by decide +kernel
theorem dL_play_2 : decode cL_play 2 = .ok (.aload_n 0, 1) := by decide +kernel
theorem dL_play_3 : decode cL_play 3 = .ok (.invokevirtual 45, 3) := by decide +kernel
theorem dL_play_6 : decode cL_play 6 = .ok (.i2l, 1) := by decide +kernel
theorem dL_play_7 : decode cL_play 7 = .ok (.lastore, 1) := by decide +kernel
theorem dL_play_8 : decode cL_play 8 = .ok (.goto 6, 3) := by decide +kernel
theorem dL_play_11 : decode cL_play 11 = .ok (.astore_n 2, 1) := by decide +kernel
theorem dL_play_12 : decode cL_play 12 = .ok (.iconst 1, 1) := by decide +kernel
theorem dL_play_13 : decode cL_play 13 = .ok (.ireturn, 1) := by decide +kernel
theorem dL_play_14 : decode cL_play 14 = .ok (.iconst 0, 1) := by decide +kernel
theorem dL_play_15 : decode cL_play 15 = .ok (.ireturn, 1) := by decide +kernel
theorem dL_undo_0 : decode cL_undo 0 = .ok (.aload_n 1, 1) := by decide +kernel
theorem dL_undo_1 : decode cL_undo 1 = .ok (.iconst 0, 1) := by decide +kernel
theorem dL_undo_2 : decode cL_undo 2 = .ok (.aload_n 0, 1) := by decide +kernel
theorem dL_undo_3 : decode cL_undo 3 = .ok (.invokevirtual 49, 3) := by decide +kernel
theorem dL_undo_6 : decode cL_undo 6 = .ok (.i2l, 1) := by decide +kernel
theorem dL_undo_7 : decode cL_undo 7 = .ok (.lastore, 1) := by decide +kernel
theorem dL_undo_8 : decode cL_undo 8 = .ok (.goto 6, 3) := by decide +kernel
theorem dL_undo_11 : decode cL_undo 11 = .ok (.astore_n 2, 1) := by decide +kernel
theorem dL_undo_12 : decode cL_undo 12 = .ok (.iconst 1, 1) := by decide +kernel
theorem dL_undo_13 : decode cL_undo 13 = .ok (.ireturn, 1) := by decide +kernel
theorem dL_undo_14 : decode cL_undo 14 = .ok (.iconst 0, 1) := by decide +kernel
theorem dL_undo_15 : decode cL_undo 15 = .ok (.ireturn, 1) := by decide +kernel
theorem dL_restore_0 : decode cL_restore 0 = .ok (.aload_n 1, 1) := by decide +kernel
theorem dL_restore_1 : decode cL_restore 1 = .ok (.iconst 0, 1) := by decide +kernel
theorem dL_restore_2 : decode cL_restore 2 = .ok (.aload_n 0, 1) := by decide +kernel
theorem dL_restore_3 : decode cL_restore 3 = .ok (.invokevirtual 52, 3) := by decide +kernel
theorem dL_restore_6 : decode cL_restore 6 = .ok (.i2l, 1) := by decide +kernel
theorem dL_restore_7 : decode cL_restore 7 = .ok (.lastore, 1) := by decide +kernel
theorem dL_restore_8 : decode cL_restore 8 = .ok (.goto 6, 3) := by decide +kernel
theorem dL_restore_11 : decode cL_restore 11 = .ok (.astore_n 2, 1) := by decide +kernel
theorem dL_restore_12 : decode cL_restore 12 = .ok (.iconst 1, 1) := by decide +kernel
theorem dL_restore_13 : decode cL_restore 13 = .ok (.ireturn, 1) := by decide +kernel
theorem dL_restore_14 : decode cL_restore 14 = .ok (.iconst 0, 1) := by decide +kernel
theorem dL_restore_15 : decode cL_restore 15 = .ok (.ireturn, 1) := by decide +kernel
theorem dL_mill_0 : decode cL_mill 0 = .ok (.aload_n 3, 1) := by decide +kernel
theorem dL_mill_1 : decode cL_mill 1 = .ok (.iconst 0, 1) := by decide +kernel
theorem dL_mill_2 : decode cL_mill 2 = .ok (.aload_n 0, 1) := by decide +kernel
theorem dL_mill_3 : decode cL_mill 3 = .ok (.iload_n 1, 1) := by decide +kernel
theorem dL_mill_4 : decode cL_mill 4 = .ok (.iload_n 2, 1) := by decide +kernel
theorem dL_mill_5 : decode cL_mill 5 = .ok (.invokevirtual 55, 3) := by decide +kernel
theorem dL_mill_8 : decode cL_mill 8 = .ok (.i2l, 1) := by decide +kernel
theorem dL_mill_9 : decode cL_mill 9 = .ok (.lastore, 1) := by decide +kernel
theorem dL_mill_10 : decode cL_mill 10 = .ok (.goto 11, 3) := by decide +kernel
theorem dL_mill_13 : decode cL_mill 13 = .ok (.astore 4, 2) := by decide +kernel
theorem dL_mill_15 : decode cL_mill 15 = .ok (.iconst 1, 1) := by decide +kernel
theorem dL_mill_16 : decode cL_mill 16 = .ok (.ireturn, 1) := by decide +kernel
theorem dL_mill_17 : decode cL_mill 17 = .ok (.astore 4, 2) := by decide +kernel
theorem dL_mill_19 : decode cL_mill 19 = .ok (.iconst 2, 1) := by decide +kernel
theorem dL_mill_20 : decode cL_mill 20 = .ok (.ireturn, 1) := by decide +kernel
theorem dL_mill_21 : decode cL_mill 21 = .ok (.iconst 0, 1) := by decide +kernel
theorem dL_mill_22 : decode cL_mill 22 = .ok (.ireturn, 1) := by decide +kernel
theorem dL_sackAt_0 : decode cL_sackAt 0 = .ok (.aload_n 3, 1) := by decide +kernel
theorem dL_sackAt_1 : decode cL_sackAt 1 = .ok (.iconst 0, 1) := by decide +kernel
theorem dL_sackAt_2 : decode cL_sackAt 2 = .ok (.aload_n 0, 1) := by decide +kernel
theorem dL_sackAt_3 : decode cL_sackAt 3 = .ok (.iload_n 1, 1) := by decide +kernel
theorem dL_sackAt_4 : decode cL_sackAt 4 = .ok (.iload_n 2, 1) := by decide +kernel
theorem dL_sackAt_5 : decode cL_sackAt 5 = .ok (.invokevirtual 58, 3) := by decide +kernel
theorem dL_sackAt_8 : decode cL_sackAt 8 = .ok (.i2l, 1) := by decide +kernel
theorem dL_sackAt_9 : decode cL_sackAt 9 = .ok (.lastore, 1) := by decide +kernel
theorem dL_sackAt_10 : decode cL_sackAt 10 = .ok (.goto 11, 3) := by decide +kernel
theorem dL_sackAt_13 : decode cL_sackAt 13 = .ok (.astore 4, 2) := by decide +kernel
theorem dL_sackAt_15 : decode cL_sackAt 15 = .ok (.iconst 1, 1) := by decide +kernel
theorem dL_sackAt_16 : decode cL_sackAt 16 = .ok (.ireturn, 1) := by decide +kernel
theorem dL_sackAt_17 : decode cL_sackAt 17 = .ok (.astore 4, 2) := by decide +kernel
theorem dL_sackAt_19 : decode cL_sackAt 19 = .ok (.iconst 2, 1) := by decide +kernel
theorem dL_sackAt_20 : decode cL_sackAt 20 = .ok (.ireturn, 1) := by decide +kernel
theorem dL_sackAt_21 : decode cL_sackAt 21 = .ok (.iconst 0, 1) := by decide +kernel
theorem dL_sackAt_22 : decode cL_sackAt 22 = .ok (.ireturn, 1) := by decide +kernel
theorem dL_sackOf_0 : decode cL_sackOf 0 = .ok (.aload_n 3, 1) := by decide +kernel
theorem dL_sackOf_1 : decode cL_sackOf 1 = .ok (.iconst 0, 1) := by decide +kernel
theorem dL_sackOf_2 : decode cL_sackOf 2 = .ok (.aload_n 0, 1) := by decide +kernel
theorem dL_sackOf_3 : decode cL_sackOf 3 = .ok (.iload_n 1, 1) := by decide +kernel
theorem dL_sackOf_4 : decode cL_sackOf 4 = .ok (.iload_n 2, 1) := by decide +kernel
theorem dL_sackOf_5 : decode cL_sackOf 5 = .ok (.invokevirtual 61, 3) := by decide +kernel
theorem dL_sackOf_8 : decode cL_sackOf 8 = .ok (.i2l, 1) := by decide +kernel
theorem dL_sackOf_9 : decode cL_sackOf 9 = .ok (.lastore, 1) := by decide +kernel
theorem dL_sackOf_10 : decode cL_sackOf 10 = .ok (.goto 7, 3) := by decide +kernel
theorem dL_sackOf_13 : decode cL_sackOf 13 = .ok (.astore 4, 2) := by decide +kernel
theorem dL_sackOf_15 : decode cL_sackOf 15 = .ok (.iconst 1, 1) := by decide +kernel
theorem dL_sackOf_16 : decode cL_sackOf 16 = .ok (.ireturn, 1) := by decide +kernel
theorem dL_sackOf_17 : decode cL_sackOf 17 = .ok (.iconst 0, 1) := by decide +kernel
theorem dL_sackOf_18 : decode cL_sackOf 18 = .ok (.ireturn, 1) := by decide +kernel
theorem dL_whyNot_0 : decode cL_whyNot 0 = .ok (.aload_n 2, 1) := by decide +kernel
theorem dL_whyNot_1 : decode cL_whyNot 1 = .ok (.iconst 0, 1) := by decide +kernel
theorem dL_whyNot_2 : decode cL_whyNot 2 = .ok (.aload_n 0, 1) := by decide +kernel
theorem dL_whyNot_3 : decode cL_whyNot 3 = .ok (.iload_n 1, 1) := by decide +kernel
theorem dL_whyNot_4 : decode cL_whyNot 4 = .ok (.invokevirtual 64, 3) := by decide +kernel
theorem dL_whyNot_7 : decode cL_whyNot 7 = .ok (.i2l, 1) := by decide +kernel
theorem dL_whyNot_8 : decode cL_whyNot 8 = .ok (.lastore, 1) := by decide +kernel
theorem dL_whyNot_9 : decode cL_whyNot 9 = .ok (.goto 6, 3) := by decide +kernel
theorem dL_whyNot_12 : decode cL_whyNot 12 = .ok (.astore_n 3, 1) := by decide +kernel
theorem dL_whyNot_13 : decode cL_whyNot 13 = .ok (.iconst 1, 1) := by decide +kernel
theorem dL_whyNot_14 : decode cL_whyNot 14 = .ok (.ireturn, 1) := by decide +kernel
theorem dL_whyNot_15 : decode cL_whyNot 15 = .ok (.iconst 0, 1) := by decide +kernel
theorem dL_whyNot_16 : decode cL_whyNot 16 = .ok (.ireturn, 1) := by decide +kernel
theorem dL_tide_0 : decode cL_tide 0 = .ok (.aload_n 2, 1) := by decide +kernel
theorem dL_tide_1 : decode cL_tide 1 = .ok (.iconst 0, 1) := by decide +kernel
theorem dL_tide_2 : decode cL_tide 2 = .ok (.aload_n 0, 1) := by decide +kernel
theorem dL_tide_3 : decode cL_tide 3 = .ok (.iload_n 1, 1) := by decide +kernel
theorem dL_tide_4 : decode cL_tide 4 = .ok (.invokevirtual 67, 3) := by decide +kernel
theorem dL_tide_7 : decode cL_tide 7 = .ok (.i2l, 1) := by decide +kernel
theorem dL_tide_8 : decode cL_tide 8 = .ok (.lastore, 1) := by decide +kernel
theorem dL_tide_9 : decode cL_tide 9 = .ok (.goto 6, 3) := by decide +kernel
theorem dL_tide_12 : decode cL_tide 12 = .ok (.astore_n 3, 1) := by decide +kernel
theorem dL_tide_13 : decode cL_tide 13 = .ok (.iconst 1, 1) := by decide +kernel
theorem dL_tide_14 : decode cL_tide 14 = .ok (.ireturn, 1) := by decide +kernel
theorem dL_tide_15 : decode cL_tide 15 = .ok (.iconst 0, 1) := by decide +kernel
theorem dL_tide_16 : decode cL_tide 16 = .ok (.ireturn, 1) := by decide +kernel
theorem dL_count_0 : decode cL_count 0 = .ok (.aload_n 2, 1) := by decide +kernel
theorem dL_count_1 : decode cL_count 1 = .ok (.iconst 0, 1) := by decide +kernel
theorem dL_count_2 : decode cL_count 2 = .ok (.aload_n 0, 1) := by decide +kernel
theorem dL_count_3 : decode cL_count 3 = .ok (.iload_n 1, 1) := by decide +kernel
theorem dL_count_4 : decode cL_count 4 = .ok (.invokevirtual 70, 3) := by decide +kernel
theorem dL_count_7 : decode cL_count 7 = .ok (.i2l, 1) := by decide +kernel
theorem dL_count_8 : decode cL_count 8 = .ok (.lastore, 1) := by decide +kernel
theorem dL_count_9 : decode cL_count 9 = .ok (.goto 6, 3) := by decide +kernel
theorem dL_count_12 : decode cL_count 12 = .ok (.astore_n 3, 1) := by decide +kernel
theorem dL_count_13 : decode cL_count 13 = .ok (.iconst 1, 1) := by decide +kernel
theorem dL_count_14 : decode cL_count 14 = .ok (.ireturn, 1) := by decide +kernel
theorem dL_count_15 : decode cL_count 15 = .ok (.iconst 0, 1) := by decide +kernel
theorem dL_count_16 : decode cL_count 16 = .ok (.ireturn, 1) := by decide +kernel
theorem dL_next_0 : decode cL_next 0 = .ok (.aload_n 2, 1) := by decide +kernel
theorem dL_next_1 : decode cL_next 1 = .ok (.iconst 0, 1) := by decide +kernel
theorem dL_next_2 : decode cL_next 2 = .ok (.aload_n 0, 1) := by decide +kernel
theorem dL_next_3 : decode cL_next 3 = .ok (.iload_n 1, 1) := by decide +kernel
theorem dL_next_4 : decode cL_next 4 = .ok (.invokevirtual 73, 3) := by decide +kernel
theorem dL_next_7 : decode cL_next 7 = .ok (.i2l, 1) := by decide +kernel
theorem dL_next_8 : decode cL_next 8 = .ok (.lastore, 1) := by decide +kernel
theorem dL_next_9 : decode cL_next 9 = .ok (.goto 6, 3) := by decide +kernel
theorem dL_next_12 : decode cL_next 12 = .ok (.astore_n 3, 1) := by decide +kernel
theorem dL_next_13 : decode cL_next 13 = .ok (.iconst 1, 1) := by decide +kernel
theorem dL_next_14 : decode cL_next 14 = .ok (.ireturn, 1) := by decide +kernel
theorem dL_next_15 : decode cL_next 15 = .ok (.iconst 0, 1) := by decide +kernel
theorem dL_next_16 : decode cL_next 16 = .ok (.ireturn, 1) := by decide +kernel
theorem dL_ifPassed_0 : decode cL_ifPassed 0 = .ok (.aload_n 3, 1) := by decide +kernel
theorem dL_ifPassed_1 : decode cL_ifPassed 1 = .ok (.iconst 0, 1) := by decide +kernel
theorem dL_ifPassed_2 : decode cL_ifPassed 2 = .ok (.aload_n 0, 1) := by decide +kernel
theorem dL_ifPassed_3 : decode cL_ifPassed 3 = .ok (.iload_n 1, 1) := by decide +kernel
theorem dL_ifPassed_4 : decode cL_ifPassed 4 = .ok (.iload_n 2, 1) := by decide +kernel
theorem dL_ifPassed_5 : decode cL_ifPassed 5 = .ok (.invokevirtual 76, 3) := by decide +kernel
theorem dL_ifPassed_8 : decode cL_ifPassed 8 = .ok (.i2l, 1) := by decide +kernel
theorem dL_ifPassed_9 : decode cL_ifPassed 9 = .ok (.lastore, 1) := by decide +kernel
theorem dL_ifPassed_10 : decode cL_ifPassed 10 = .ok (.goto 7, 3) := by decide +kernel
theorem dL_ifPassed_13 : decode cL_ifPassed 13 = .ok (.astore 4, 2) := by decide +kernel
theorem dL_ifPassed_15 : decode cL_ifPassed 15 = .ok (.iconst 1, 1) := by decide +kernel
theorem dL_ifPassed_16 : decode cL_ifPassed 16 = .ok (.ireturn, 1) := by decide +kernel
theorem dL_ifPassed_17 : decode cL_ifPassed 17 = .ok (.iconst 0, 1) := by decide +kernel
theorem dL_ifPassed_18 : decode cL_ifPassed 18 = .ok (.ireturn, 1) := by decide +kernel
theorem dL_bestStone_0 : decode cL_bestStone 0 = .ok (.aload_n 2, 1) := by decide +kernel
theorem dL_bestStone_1 : decode cL_bestStone 1 = .ok (.iconst 0, 1) := by decide +kernel
theorem dL_bestStone_2 : decode cL_bestStone 2 = .ok (.aload_n 0, 1) := by decide +kernel
theorem dL_bestStone_3 : decode cL_bestStone 3 = .ok (.iload_n 1, 1) := by decide +kernel
theorem dL_bestStone_4 : decode cL_bestStone 4 = .ok (.invokevirtual 79, 3) := by decide +kernel
theorem dL_bestStone_7 : decode cL_bestStone 7 = .ok (.i2l, 1) := by decide +kernel
theorem dL_bestStone_8 : decode cL_bestStone 8 = .ok (.lastore, 1) := by decide +kernel
theorem dL_bestStone_9 : decode cL_bestStone 9 = .ok (.goto 6, 3) := by decide +kernel
theorem dL_bestStone_12 : decode cL_bestStone 12 = .ok (.astore_n 3, 1) := by decide +kernel
theorem dL_bestStone_13 : decode cL_bestStone 13 = .ok (.iconst 1, 1) := by decide +kernel
theorem dL_bestStone_14 : decode cL_bestStone 14 = .ok (.ireturn, 1) := by decide +kernel
theorem dL_bestStone_15 : decode cL_bestStone 15 = .ok (.iconst 0, 1) := by decide +kernel
theorem dL_bestStone_16 : decode cL_bestStone 16 = .ok (.ireturn, 1) := by decide +kernel
theorem dL_law_0 : decode cL_law 0 = .ok (.new 8, 3) := by decide +kernel
theorem dL_law_3 : decode cL_law 3 = .ok (.dup, 1) := by decide +kernel
theorem dL_law_4 : decode cL_law 4 = .ok (.invokespecial 82, 3) := by decide +kernel
theorem dL_law_7 : decode cL_law 7 = .ok (.astore_n 1, 1) := by decide +kernel
theorem dL_law_8 : decode cL_law 8 = .ok (.new 83, 3) := by decide +kernel
theorem dL_law_11 : decode cL_law 11 = .ok (.dup, 1) := by decide +kernel
theorem dL_law_12 : decode cL_law 12 = .ok (.invokespecial 85, 3) := by decide +kernel
theorem dL_law_15 : decode cL_law 15 = .ok (.astore_n 2, 1) := by decide +kernel
theorem dL_law_16 : decode cL_law 16 = .ok (.iconst 1, 1) := by decide +kernel
theorem dL_law_17 : decode cL_law 17 = .ok (.newarray .long, 2) := by decide +kernel
theorem dL_law_19 : decode cL_law 19 = .ok (.astore_n 3, 1) := by decide +kernel
theorem dL_law_20 : decode cL_law 20 = .ok (.iconst 0, 1) := by decide +kernel
theorem dL_law_21 : decode cL_law 21 = .ok (.istore 4, 2) := by decide +kernel
theorem dL_law_23 : decode cL_law 23 = .ok (.iload 4, 2) := by decide +kernel
theorem dL_law_25 : decode cL_law 25 = .ok (.aload_n 0, 1) := by decide +kernel
theorem dL_law_26 : decode cL_law 26 = .ok (.arraylength, 1) := by decide +kernel
theorem dL_law_27 : decode cL_law 27 = .ok (.iconst 4, 1) := by decide +kernel
theorem dL_law_28 : decode cL_law 28 = .ok (.isub, 1) := by decide +kernel
theorem dL_law_29 : decode cL_law 29 = .ok (.if_icmp .gt 1581, 3) := by decide +kernel
theorem dL_law_32 : decode cL_law 32 = .ok (.aload_n 0, 1) := by decide +kernel
theorem dL_law_33 : decode cL_law 33 = .ok (.iload 4, 2) := by decide +kernel
theorem dL_law_35 : decode cL_law 35 = .ok (.iaload, 1) := by decide +kernel
theorem dL_law_36 : decode cL_law 36 = .ok (.bipush 31, 2) := by decide +kernel
theorem dL_law_38 : decode cL_law 38 = .ok (.iand, 1) := by decide +kernel
theorem dL_law_39 : decode cL_law 39 = .ok (.tableswitch 1565 0 27 #[125, 205, 285, 365, 433, 489, 569, 637, 693, 749, 762, 775, 819, 863, 876, 920, 988, 1056, 1124, 1180, 1236, 1292, 1348, 1361, 1429, 1454, 1510, 1551], 125) := by decide +kernel
theorem dL_law_164 : decode cL_law 164 = .ok (.aload_n 1, 1) := by decide +kernel
theorem dL_law_165 : decode cL_law 165 = .ok (.aload_n 0, 1) := by decide +kernel
theorem dL_law_166 : decode cL_law 166 = .ok (.iload 4, 2) := by decide +kernel
theorem dL_law_168 : decode cL_law 168 = .ok (.iconst 1, 1) := by decide +kernel
theorem dL_law_169 : decode cL_law 169 = .ok (.iadd, 1) := by decide +kernel
theorem dL_law_170 : decode cL_law 170 = .ok (.iaload, 1) := by decide +kernel
theorem dL_law_171 : decode cL_law 171 = .ok (.aload_n 0, 1) := by decide +kernel
theorem dL_law_172 : decode cL_law 172 = .ok (.iload 4, 2) := by decide +kernel
theorem dL_law_174 : decode cL_law 174 = .ok (.iconst 2, 1) := by decide +kernel
theorem dL_law_175 : decode cL_law 175 = .ok (.iadd, 1) := by decide +kernel
theorem dL_law_176 : decode cL_law 176 = .ok (.iaload, 1) := by decide +kernel
theorem dL_law_177 : decode cL_law 177 = .ok (.aload_n 0, 1) := by decide +kernel
theorem dL_law_178 : decode cL_law 178 = .ok (.iload 4, 2) := by decide +kernel
theorem dL_law_180 : decode cL_law 180 = .ok (.iconst 3, 1) := by decide +kernel
theorem dL_law_181 : decode cL_law 181 = .ok (.iadd, 1) := by decide +kernel
theorem dL_law_182 : decode cL_law 182 = .ok (.iaload, 1) := by decide +kernel
theorem dL_law_183 : decode cL_law 183 = .ok (.aload_n 3, 1) := by decide +kernel
theorem dL_law_184 : decode cL_law 184 = .ok (.invokestatic 86, 3) := by decide +kernel
theorem dL_law_187 : decode cL_law 187 = .ok (.istore 5, 2) := by decide +kernel
theorem dL_law_189 : decode cL_law 189 = .ok (.aload_n 2, 1) := by decide +kernel
theorem dL_law_190 : decode cL_law 190 = .ok (.aload_n 0, 1) := by decide +kernel
theorem dL_law_191 : decode cL_law 191 = .ok (.iload 4, 2) := by decide +kernel
theorem dL_law_193 : decode cL_law 193 = .ok (.iconst 1, 1) := by decide +kernel
theorem dL_law_194 : decode cL_law 194 = .ok (.iadd, 1) := by decide +kernel
theorem dL_law_195 : decode cL_law 195 = .ok (.iaload, 1) := by decide +kernel
theorem dL_law_196 : decode cL_law 196 = .ok (.aload_n 0, 1) := by decide +kernel
theorem dL_law_197 : decode cL_law 197 = .ok (.iload 4, 2) := by decide +kernel
theorem dL_law_199 : decode cL_law 199 = .ok (.iconst 2, 1) := by decide +kernel
theorem dL_law_200 : decode cL_law 200 = .ok (.iadd, 1) := by decide +kernel
theorem dL_law_201 : decode cL_law 201 = .ok (.iaload, 1) := by decide +kernel
theorem dL_law_202 : decode cL_law 202 = .ok (.aload_n 0, 1) := by decide +kernel
theorem dL_law_203 : decode cL_law 203 = .ok (.iload 4, 2) := by decide +kernel
theorem dL_law_205 : decode cL_law 205 = .ok (.iconst 3, 1) := by decide +kernel
theorem dL_law_206 : decode cL_law 206 = .ok (.iadd, 1) := by decide +kernel
theorem dL_law_207 : decode cL_law 207 = .ok (.iaload, 1) := by decide +kernel
theorem dL_law_208 : decode cL_law 208 = .ok (.invokevirtual 91, 3) := by decide +kernel
theorem dL_law_211 : decode cL_law 211 = .ok (.istore 6, 2) := by decide +kernel
theorem dL_law_213 : decode cL_law 213 = .ok (.aload_n 2, 1) := by decide +kernel
theorem dL_law_214 : decode cL_law 214 = .ok (.invokevirtual 92, 3) := by decide +kernel
theorem dL_law_217 : decode cL_law 217 = .ok (.iload 5, 2) := by decide +kernel
theorem dL_law_219 : decode cL_law 219 = .ok (.if_icmp .eq 5, 3) := by decide +kernel
theorem dL_law_222 : decode cL_law 222 = .ok (.iconst 0, 1) := by decide +kernel
theorem dL_law_223 : decode cL_law 223 = .ok (.ireturn, 1) := by decide +kernel
theorem dL_law_224 : decode cL_law 224 = .ok (.iload 5, 2) := by decide +kernel
theorem dL_law_226 : decode cL_law 226 = .ok (.ifCond .ne 15, 3) := by decide +kernel
theorem dL_law_229 : decode cL_law 229 = .ok (.aload_n 3, 1) := by decide +kernel
theorem dL_law_230 : decode cL_law 230 = .ok (.iconst 0, 1) := by decide +kernel
theorem dL_law_231 : decode cL_law 231 = .ok (.laload, 1) := by decide +kernel
theorem dL_law_232 : decode cL_law 232 = .ok (.iload 6, 2) := by decide +kernel
theorem dL_law_234 : decode cL_law 234 = .ok (.i2l, 1) := by decide +kernel
theorem dL_law_235 : decode cL_law 235 = .ok (.lcmp, 1) := by decide +kernel
theorem dL_law_236 : decode cL_law 236 = .ok (.ifCond .eq 5, 3) := by decide +kernel
theorem dL_law_239 : decode cL_law 239 = .ok (.iconst 0, 1) := by decide +kernel
theorem dL_law_240 : decode cL_law 240 = .ok (.ireturn, 1) := by decide +kernel
theorem dL_law_241 : decode cL_law 241 = .ok (.goto 1363, 3) := by decide +kernel
theorem dL_law_244 : decode cL_law 244 = .ok (.aload_n 1, 1) := by decide +kernel
theorem dL_law_245 : decode cL_law 245 = .ok (.aload_n 0, 1) := by decide +kernel
theorem dL_law_246 : decode cL_law 246 = .ok (.iload 4, 2) := by decide +kernel
theorem dL_law_248 : decode cL_law 248 = .ok (.iconst 1, 1) := by decide +kernel
theorem dL_law_249 : decode cL_law 249 = .ok (.iadd, 1) := by decide +kernel
theorem dL_law_250 : decode cL_law 250 = .ok (.iaload, 1) := by decide +kernel
theorem dL_law_251 : decode cL_law 251 = .ok (.aload_n 0, 1) := by decide +kernel
theorem dL_law_252 : decode cL_law 252 = .ok (.iload 4, 2) := by decide +kernel
theorem dL_law_254 : decode cL_law 254 = .ok (.iconst 2, 1) := by decide +kernel
theorem dL_law_255 : decode cL_law 255 = .ok (.iadd, 1) := by decide +kernel
theorem dL_law_256 : decode cL_law 256 = .ok (.iaload, 1) := by decide +kernel
theorem dL_law_257 : decode cL_law 257 = .ok (.aload_n 0, 1) := by decide +kernel
theorem dL_law_258 : decode cL_law 258 = .ok (.iload 4, 2) := by decide +kernel
theorem dL_law_260 : decode cL_law 260 = .ok (.iconst 3, 1) := by decide +kernel
theorem dL_law_261 : decode cL_law 261 = .ok (.iadd, 1) := by decide +kernel
theorem dL_law_262 : decode cL_law 262 = .ok (.iaload, 1) := by decide +kernel
theorem dL_law_263 : decode cL_law 263 = .ok (.aload_n 3, 1) := by decide +kernel
theorem dL_law_264 : decode cL_law 264 = .ok (.invokestatic 95, 3) := by decide +kernel
theorem dL_law_267 : decode cL_law 267 = .ok (.istore 5, 2) := by decide +kernel
theorem dL_law_269 : decode cL_law 269 = .ok (.aload_n 2, 1) := by decide +kernel
theorem dL_law_270 : decode cL_law 270 = .ok (.aload_n 0, 1) := by decide +kernel
theorem dL_law_271 : decode cL_law 271 = .ok (.iload 4, 2) := by decide +kernel
theorem dL_law_273 : decode cL_law 273 = .ok (.iconst 1, 1) := by decide +kernel
theorem dL_law_274 : decode cL_law 274 = .ok (.iadd, 1) := by decide +kernel
theorem dL_law_275 : decode cL_law 275 = .ok (.iaload, 1) := by decide +kernel
theorem dL_law_276 : decode cL_law 276 = .ok (.aload_n 0, 1) := by decide +kernel
theorem dL_law_277 : decode cL_law 277 = .ok (.iload 4, 2) := by decide +kernel
theorem dL_law_279 : decode cL_law 279 = .ok (.iconst 2, 1) := by decide +kernel
theorem dL_law_280 : decode cL_law 280 = .ok (.iadd, 1) := by decide +kernel
theorem dL_law_281 : decode cL_law 281 = .ok (.iaload, 1) := by decide +kernel
theorem dL_law_282 : decode cL_law 282 = .ok (.aload_n 0, 1) := by decide +kernel
theorem dL_law_283 : decode cL_law 283 = .ok (.iload 4, 2) := by decide +kernel
theorem dL_law_285 : decode cL_law 285 = .ok (.iconst 3, 1) := by decide +kernel
theorem dL_law_286 : decode cL_law 286 = .ok (.iadd, 1) := by decide +kernel
theorem dL_law_287 : decode cL_law 287 = .ok (.iaload, 1) := by decide +kernel
theorem dL_law_288 : decode cL_law 288 = .ok (.invokevirtual 97, 3) := by decide +kernel
theorem dL_law_291 : decode cL_law 291 = .ok (.istore 6, 2) := by decide +kernel
theorem dL_law_293 : decode cL_law 293 = .ok (.aload_n 2, 1) := by decide +kernel
theorem dL_law_294 : decode cL_law 294 = .ok (.invokevirtual 92, 3) := by decide +kernel
theorem dL_law_297 : decode cL_law 297 = .ok (.iload 5, 2) := by decide +kernel
theorem dL_law_299 : decode cL_law 299 = .ok (.if_icmp .eq 5, 3) := by decide +kernel
theorem dL_law_302 : decode cL_law 302 = .ok (.iconst 0, 1) := by decide +kernel
theorem dL_law_303 : decode cL_law 303 = .ok (.ireturn, 1) := by decide +kernel
theorem dL_law_304 : decode cL_law 304 = .ok (.iload 5, 2) := by decide +kernel
theorem dL_law_306 : decode cL_law 306 = .ok (.ifCond .ne 15, 3) := by decide +kernel
theorem dL_law_309 : decode cL_law 309 = .ok (.aload_n 3, 1) := by decide +kernel
theorem dL_law_310 : decode cL_law 310 = .ok (.iconst 0, 1) := by decide +kernel
theorem dL_law_311 : decode cL_law 311 = .ok (.laload, 1) := by decide +kernel
theorem dL_law_312 : decode cL_law 312 = .ok (.iload 6, 2) := by decide +kernel
theorem dL_law_314 : decode cL_law 314 = .ok (.i2l, 1) := by decide +kernel
theorem dL_law_315 : decode cL_law 315 = .ok (.lcmp, 1) := by decide +kernel
theorem dL_law_316 : decode cL_law 316 = .ok (.ifCond .eq 5, 3) := by decide +kernel
theorem dL_law_319 : decode cL_law 319 = .ok (.iconst 0, 1) := by decide +kernel
theorem dL_law_320 : decode cL_law 320 = .ok (.ireturn, 1) := by decide +kernel
theorem dL_law_321 : decode cL_law 321 = .ok (.goto 1283, 3) := by decide +kernel
theorem dL_law_324 : decode cL_law 324 = .ok (.aload_n 1, 1) := by decide +kernel
theorem dL_law_325 : decode cL_law 325 = .ok (.aload_n 0, 1) := by decide +kernel
theorem dL_law_326 : decode cL_law 326 = .ok (.iload 4, 2) := by decide +kernel
theorem dL_law_328 : decode cL_law 328 = .ok (.iconst 1, 1) := by decide +kernel
theorem dL_law_329 : decode cL_law 329 = .ok (.iadd, 1) := by decide +kernel
theorem dL_law_330 : decode cL_law 330 = .ok (.iaload, 1) := by decide +kernel
theorem dL_law_331 : decode cL_law 331 = .ok (.aload_n 0, 1) := by decide +kernel
theorem dL_law_332 : decode cL_law 332 = .ok (.iload 4, 2) := by decide +kernel
theorem dL_law_334 : decode cL_law 334 = .ok (.iconst 2, 1) := by decide +kernel
theorem dL_law_335 : decode cL_law 335 = .ok (.iadd, 1) := by decide +kernel
theorem dL_law_336 : decode cL_law 336 = .ok (.iaload, 1) := by decide +kernel
theorem dL_law_337 : decode cL_law 337 = .ok (.aload_n 0, 1) := by decide +kernel
theorem dL_law_338 : decode cL_law 338 = .ok (.iload 4, 2) := by decide +kernel
theorem dL_law_340 : decode cL_law 340 = .ok (.iconst 3, 1) := by decide +kernel
theorem dL_law_341 : decode cL_law 341 = .ok (.iadd, 1) := by decide +kernel
theorem dL_law_342 : decode cL_law 342 = .ok (.iaload, 1) := by decide +kernel
theorem dL_law_343 : decode cL_law 343 = .ok (.aload_n 3, 1) := by decide +kernel
theorem dL_law_344 : decode cL_law 344 = .ok (.invokestatic 98, 3) := by decide +kernel
theorem dL_law_347 : decode cL_law 347 = .ok (.istore 5, 2) := by decide +kernel
theorem dL_law_349 : decode cL_law 349 = .ok (.aload_n 2, 1) := by decide +kernel
theorem dL_law_350 : decode cL_law 350 = .ok (.aload_n 0, 1) := by decide +kernel
theorem dL_law_351 : decode cL_law 351 = .ok (.iload 4, 2) := by decide +kernel
theorem dL_law_353 : decode cL_law 353 = .ok (.iconst 1, 1) := by decide +kernel
theorem dL_law_354 : decode cL_law 354 = .ok (.iadd, 1) := by decide +kernel
theorem dL_law_355 : decode cL_law 355 = .ok (.iaload, 1) := by decide +kernel
theorem dL_law_356 : decode cL_law 356 = .ok (.aload_n 0, 1) := by decide +kernel
theorem dL_law_357 : decode cL_law 357 = .ok (.iload 4, 2) := by decide +kernel
theorem dL_law_359 : decode cL_law 359 = .ok (.iconst 2, 1) := by decide +kernel
theorem dL_law_360 : decode cL_law 360 = .ok (.iadd, 1) := by decide +kernel
theorem dL_law_361 : decode cL_law 361 = .ok (.iaload, 1) := by decide +kernel
theorem dL_law_362 : decode cL_law 362 = .ok (.aload_n 0, 1) := by decide +kernel
theorem dL_law_363 : decode cL_law 363 = .ok (.iload 4, 2) := by decide +kernel
theorem dL_law_365 : decode cL_law 365 = .ok (.iconst 3, 1) := by decide +kernel
theorem dL_law_366 : decode cL_law 366 = .ok (.iadd, 1) := by decide +kernel
theorem dL_law_367 : decode cL_law 367 = .ok (.iaload, 1) := by decide +kernel
theorem dL_law_368 : decode cL_law 368 = .ok (.invokevirtual 100, 3) := by decide +kernel
theorem dL_law_371 : decode cL_law 371 = .ok (.istore 6, 2) := by decide +kernel
theorem dL_law_373 : decode cL_law 373 = .ok (.aload_n 2, 1) := by decide +kernel
theorem dL_law_374 : decode cL_law 374 = .ok (.invokevirtual 92, 3) := by decide +kernel
theorem dL_law_377 : decode cL_law 377 = .ok (.iload 5, 2) := by decide +kernel
theorem dL_law_379 : decode cL_law 379 = .ok (.if_icmp .eq 5, 3) := by decide +kernel
theorem dL_law_382 : decode cL_law 382 = .ok (.iconst 0, 1) := by decide +kernel
theorem dL_law_383 : decode cL_law 383 = .ok (.ireturn, 1) := by decide +kernel
theorem dL_law_384 : decode cL_law 384 = .ok (.iload 5, 2) := by decide +kernel
theorem dL_law_386 : decode cL_law 386 = .ok (.ifCond .ne 15, 3) := by decide +kernel
theorem dL_law_389 : decode cL_law 389 = .ok (.aload_n 3, 1) := by decide +kernel
theorem dL_law_390 : decode cL_law 390 = .ok (.iconst 0, 1) := by decide +kernel
theorem dL_law_391 : decode cL_law 391 = .ok (.laload, 1) := by decide +kernel
theorem dL_law_392 : decode cL_law 392 = .ok (.iload 6, 2) := by decide +kernel
theorem dL_law_394 : decode cL_law 394 = .ok (.i2l, 1) := by decide +kernel
theorem dL_law_395 : decode cL_law 395 = .ok (.lcmp, 1) := by decide +kernel
theorem dL_law_396 : decode cL_law 396 = .ok (.ifCond .eq 5, 3) := by decide +kernel
theorem dL_law_399 : decode cL_law 399 = .ok (.iconst 0, 1) := by decide +kernel
theorem dL_law_400 : decode cL_law 400 = .ok (.ireturn, 1) := by decide +kernel
theorem dL_law_401 : decode cL_law 401 = .ok (.goto 1203, 3) := by decide +kernel
theorem dL_law_404 : decode cL_law 404 = .ok (.aload_n 1, 1) := by decide +kernel
theorem dL_law_405 : decode cL_law 405 = .ok (.aload_n 0, 1) := by decide +kernel
theorem dL_law_406 : decode cL_law 406 = .ok (.iload 4, 2) := by decide +kernel
theorem dL_law_408 : decode cL_law 408 = .ok (.iconst 1, 1) := by decide +kernel
theorem dL_law_409 : decode cL_law 409 = .ok (.iadd, 1) := by decide +kernel
theorem dL_law_410 : decode cL_law 410 = .ok (.iaload, 1) := by decide +kernel
theorem dL_law_411 : decode cL_law 411 = .ok (.aload_n 0, 1) := by decide +kernel
theorem dL_law_412 : decode cL_law 412 = .ok (.iload 4, 2) := by decide +kernel
theorem dL_law_414 : decode cL_law 414 = .ok (.iconst 2, 1) := by decide +kernel
theorem dL_law_415 : decode cL_law 415 = .ok (.iadd, 1) := by decide +kernel
theorem dL_law_416 : decode cL_law 416 = .ok (.iaload, 1) := by decide +kernel
theorem dL_law_417 : decode cL_law 417 = .ok (.aload_n 3, 1) := by decide +kernel
theorem dL_law_418 : decode cL_law 418 = .ok (.invokestatic 101, 3) := by decide +kernel
theorem dL_law_421 : decode cL_law 421 = .ok (.istore 5, 2) := by decide +kernel
theorem dL_law_423 : decode cL_law 423 = .ok (.aload_n 2, 1) := by decide +kernel
theorem dL_law_424 : decode cL_law 424 = .ok (.aload_n 0, 1) := by decide +kernel
theorem dL_law_425 : decode cL_law 425 = .ok (.iload 4, 2) := by decide +kernel
theorem dL_law_427 : decode cL_law 427 = .ok (.iconst 1, 1) := by decide +kernel
theorem dL_law_428 : decode cL_law 428 = .ok (.iadd, 1) := by decide +kernel
theorem dL_law_429 : decode cL_law 429 = .ok (.iaload, 1) := by decide +kernel
theorem dL_law_430 : decode cL_law 430 = .ok (.aload_n 0, 1) := by decide +kernel
theorem dL_law_431 : decode cL_law 431 = .ok (.iload 4, 2) := by decide +kernel
theorem dL_law_433 : decode cL_law 433 = .ok (.iconst 2, 1) := by decide +kernel
theorem dL_law_434 : decode cL_law 434 = .ok (.iadd, 1) := by decide +kernel
theorem dL_law_435 : decode cL_law 435 = .ok (.iaload, 1) := by decide +kernel
theorem dL_law_436 : decode cL_law 436 = .ok (.invokevirtual 104, 3) := by decide +kernel
theorem dL_law_439 : decode cL_law 439 = .ok (.istore 6, 2) := by decide +kernel
theorem dL_law_441 : decode cL_law 441 = .ok (.aload_n 2, 1) := by decide +kernel
theorem dL_law_442 : decode cL_law 442 = .ok (.invokevirtual 92, 3) := by decide +kernel
theorem dL_law_445 : decode cL_law 445 = .ok (.iload 5, 2) := by decide +kernel
theorem dL_law_447 : decode cL_law 447 = .ok (.if_icmp .eq 5, 3) := by decide +kernel
theorem dL_law_450 : decode cL_law 450 = .ok (.iconst 0, 1) := by decide +kernel
theorem dL_law_451 : decode cL_law 451 = .ok (.ireturn, 1) := by decide +kernel
theorem dL_law_452 : decode cL_law 452 = .ok (.iload 5, 2) := by decide +kernel
theorem dL_law_454 : decode cL_law 454 = .ok (.ifCond .ne 15, 3) := by decide +kernel
theorem dL_law_457 : decode cL_law 457 = .ok (.aload_n 3, 1) := by decide +kernel
theorem dL_law_458 : decode cL_law 458 = .ok (.iconst 0, 1) := by decide +kernel
theorem dL_law_459 : decode cL_law 459 = .ok (.laload, 1) := by decide +kernel
theorem dL_law_460 : decode cL_law 460 = .ok (.iload 6, 2) := by decide +kernel
theorem dL_law_462 : decode cL_law 462 = .ok (.i2l, 1) := by decide +kernel
theorem dL_law_463 : decode cL_law 463 = .ok (.lcmp, 1) := by decide +kernel
theorem dL_law_464 : decode cL_law 464 = .ok (.ifCond .eq 5, 3) := by decide +kernel
theorem dL_law_467 : decode cL_law 467 = .ok (.iconst 0, 1) := by decide +kernel
theorem dL_law_468 : decode cL_law 468 = .ok (.ireturn, 1) := by decide +kernel
theorem dL_law_469 : decode cL_law 469 = .ok (.goto 1135, 3) := by decide +kernel
theorem dL_law_472 : decode cL_law 472 = .ok (.aload_n 1, 1) := by decide +kernel
theorem dL_law_473 : decode cL_law 473 = .ok (.aload_n 0, 1) := by decide +kernel
theorem dL_law_474 : decode cL_law 474 = .ok (.iload 4, 2) := by decide +kernel
theorem dL_law_476 : decode cL_law 476 = .ok (.iconst 1, 1) := by decide +kernel
theorem dL_law_477 : decode cL_law 477 = .ok (.iadd, 1) := by decide +kernel
theorem dL_law_478 : decode cL_law 478 = .ok (.iaload, 1) := by decide +kernel
theorem dL_law_479 : decode cL_law 479 = .ok (.aload_n 3, 1) := by decide +kernel
theorem dL_law_480 : decode cL_law 480 = .ok (.invokestatic 105, 3) := by decide +kernel
theorem dL_law_483 : decode cL_law 483 = .ok (.istore 5, 2) := by decide +kernel
theorem dL_law_485 : decode cL_law 485 = .ok (.aload_n 2, 1) := by decide +kernel
theorem dL_law_486 : decode cL_law 486 = .ok (.aload_n 0, 1) := by decide +kernel
theorem dL_law_487 : decode cL_law 487 = .ok (.iload 4, 2) := by decide +kernel
theorem dL_law_489 : decode cL_law 489 = .ok (.iconst 1, 1) := by decide +kernel
theorem dL_law_490 : decode cL_law 490 = .ok (.iadd, 1) := by decide +kernel
theorem dL_law_491 : decode cL_law 491 = .ok (.iaload, 1) := by decide +kernel
theorem dL_law_492 : decode cL_law 492 = .ok (.invokevirtual 108, 3) := by decide +kernel
theorem dL_law_495 : decode cL_law 495 = .ok (.istore 6, 2) := by decide +kernel
theorem dL_law_497 : decode cL_law 497 = .ok (.aload_n 2, 1) := by decide +kernel
theorem dL_law_498 : decode cL_law 498 = .ok (.invokevirtual 92, 3) := by decide +kernel
theorem dL_law_501 : decode cL_law 501 = .ok (.iload 5, 2) := by decide +kernel
theorem dL_law_503 : decode cL_law 503 = .ok (.if_icmp .eq 5, 3) := by decide +kernel
theorem dL_law_506 : decode cL_law 506 = .ok (.iconst 0, 1) := by decide +kernel
theorem dL_law_507 : decode cL_law 507 = .ok (.ireturn, 1) := by decide +kernel
theorem dL_law_508 : decode cL_law 508 = .ok (.iload 5, 2) := by decide +kernel
theorem dL_law_510 : decode cL_law 510 = .ok (.ifCond .ne 15, 3) := by decide +kernel
theorem dL_law_513 : decode cL_law 513 = .ok (.aload_n 3, 1) := by decide +kernel
theorem dL_law_514 : decode cL_law 514 = .ok (.iconst 0, 1) := by decide +kernel
theorem dL_law_515 : decode cL_law 515 = .ok (.laload, 1) := by decide +kernel
theorem dL_law_516 : decode cL_law 516 = .ok (.iload 6, 2) := by decide +kernel
theorem dL_law_518 : decode cL_law 518 = .ok (.i2l, 1) := by decide +kernel
theorem dL_law_519 : decode cL_law 519 = .ok (.lcmp, 1) := by decide +kernel
theorem dL_law_520 : decode cL_law 520 = .ok (.ifCond .eq 5, 3) := by decide +kernel
theorem dL_law_523 : decode cL_law 523 = .ok (.iconst 0, 1) := by decide +kernel
theorem dL_law_524 : decode cL_law 524 = .ok (.ireturn, 1) := by decide +kernel
theorem dL_law_525 : decode cL_law 525 = .ok (.goto 1079, 3) := by decide +kernel
theorem dL_law_528 : decode cL_law 528 = .ok (.aload_n 1, 1) := by decide +kernel
theorem dL_law_529 : decode cL_law 529 = .ok (.aload_n 0, 1) := by decide +kernel
theorem dL_law_530 : decode cL_law 530 = .ok (.iload 4, 2) := by decide +kernel
theorem dL_law_532 : decode cL_law 532 = .ok (.iconst 1, 1) := by decide +kernel
theorem dL_law_533 : decode cL_law 533 = .ok (.iadd, 1) := by decide +kernel
theorem dL_law_534 : decode cL_law 534 = .ok (.iaload, 1) := by decide +kernel
theorem dL_law_535 : decode cL_law 535 = .ok (.aload_n 0, 1) := by decide +kernel
theorem dL_law_536 : decode cL_law 536 = .ok (.iload 4, 2) := by decide +kernel
theorem dL_law_538 : decode cL_law 538 = .ok (.iconst 2, 1) := by decide +kernel
theorem dL_law_539 : decode cL_law 539 = .ok (.iadd, 1) := by decide +kernel
theorem dL_law_540 : decode cL_law 540 = .ok (.iaload, 1) := by decide +kernel
theorem dL_law_541 : decode cL_law 541 = .ok (.aload_n 0, 1) := by decide +kernel
theorem dL_law_542 : decode cL_law 542 = .ok (.iload 4, 2) := by decide +kernel
theorem dL_law_544 : decode cL_law 544 = .ok (.iconst 3, 1) := by decide +kernel
theorem dL_law_545 : decode cL_law 545 = .ok (.iadd, 1) := by decide +kernel
theorem dL_law_546 : decode cL_law 546 = .ok (.iaload, 1) := by decide +kernel
theorem dL_law_547 : decode cL_law 547 = .ok (.aload_n 3, 1) := by decide +kernel
theorem dL_law_548 : decode cL_law 548 = .ok (.invokestatic 109, 3) := by decide +kernel
theorem dL_law_551 : decode cL_law 551 = .ok (.istore 5, 2) := by decide +kernel
theorem dL_law_553 : decode cL_law 553 = .ok (.aload_n 2, 1) := by decide +kernel
theorem dL_law_554 : decode cL_law 554 = .ok (.aload_n 0, 1) := by decide +kernel
theorem dL_law_555 : decode cL_law 555 = .ok (.iload 4, 2) := by decide +kernel
theorem dL_law_557 : decode cL_law 557 = .ok (.iconst 1, 1) := by decide +kernel
theorem dL_law_558 : decode cL_law 558 = .ok (.iadd, 1) := by decide +kernel
theorem dL_law_559 : decode cL_law 559 = .ok (.iaload, 1) := by decide +kernel
theorem dL_law_560 : decode cL_law 560 = .ok (.aload_n 0, 1) := by decide +kernel
theorem dL_law_561 : decode cL_law 561 = .ok (.iload 4, 2) := by decide +kernel
theorem dL_law_563 : decode cL_law 563 = .ok (.iconst 2, 1) := by decide +kernel
theorem dL_law_564 : decode cL_law 564 = .ok (.iadd, 1) := by decide +kernel
theorem dL_law_565 : decode cL_law 565 = .ok (.iaload, 1) := by decide +kernel
theorem dL_law_566 : decode cL_law 566 = .ok (.aload_n 0, 1) := by decide +kernel
theorem dL_law_567 : decode cL_law 567 = .ok (.iload 4, 2) := by decide +kernel
theorem dL_law_569 : decode cL_law 569 = .ok (.iconst 3, 1) := by decide +kernel
theorem dL_law_570 : decode cL_law 570 = .ok (.iadd, 1) := by decide +kernel
theorem dL_law_571 : decode cL_law 571 = .ok (.iaload, 1) := by decide +kernel
theorem dL_law_572 : decode cL_law 572 = .ok (.invokevirtual 111, 3) := by decide +kernel
theorem dL_law_575 : decode cL_law 575 = .ok (.istore 6, 2) := by decide +kernel
theorem dL_law_577 : decode cL_law 577 = .ok (.aload_n 2, 1) := by decide +kernel
theorem dL_law_578 : decode cL_law 578 = .ok (.invokevirtual 92, 3) := by decide +kernel
theorem dL_law_581 : decode cL_law 581 = .ok (.iload 5, 2) := by decide +kernel
theorem dL_law_583 : decode cL_law 583 = .ok (.if_icmp .eq 5, 3) := by decide +kernel
theorem dL_law_586 : decode cL_law 586 = .ok (.iconst 0, 1) := by decide +kernel
theorem dL_law_587 : decode cL_law 587 = .ok (.ireturn, 1) := by decide +kernel
theorem dL_law_588 : decode cL_law 588 = .ok (.iload 5, 2) := by decide +kernel
theorem dL_law_590 : decode cL_law 590 = .ok (.ifCond .ne 15, 3) := by decide +kernel
theorem dL_law_593 : decode cL_law 593 = .ok (.aload_n 3, 1) := by decide +kernel
theorem dL_law_594 : decode cL_law 594 = .ok (.iconst 0, 1) := by decide +kernel
theorem dL_law_595 : decode cL_law 595 = .ok (.laload, 1) := by decide +kernel
theorem dL_law_596 : decode cL_law 596 = .ok (.iload 6, 2) := by decide +kernel
theorem dL_law_598 : decode cL_law 598 = .ok (.i2l, 1) := by decide +kernel
theorem dL_law_599 : decode cL_law 599 = .ok (.lcmp, 1) := by decide +kernel
theorem dL_law_600 : decode cL_law 600 = .ok (.ifCond .eq 5, 3) := by decide +kernel
theorem dL_law_603 : decode cL_law 603 = .ok (.iconst 0, 1) := by decide +kernel
theorem dL_law_604 : decode cL_law 604 = .ok (.ireturn, 1) := by decide +kernel
theorem dL_law_605 : decode cL_law 605 = .ok (.goto 999, 3) := by decide +kernel
theorem dL_law_608 : decode cL_law 608 = .ok (.aload_n 1, 1) := by decide +kernel
theorem dL_law_609 : decode cL_law 609 = .ok (.aload_n 0, 1) := by decide +kernel
theorem dL_law_610 : decode cL_law 610 = .ok (.iload 4, 2) := by decide +kernel
theorem dL_law_612 : decode cL_law 612 = .ok (.iconst 1, 1) := by decide +kernel
theorem dL_law_613 : decode cL_law 613 = .ok (.iadd, 1) := by decide +kernel
theorem dL_law_614 : decode cL_law 614 = .ok (.iaload, 1) := by decide +kernel
theorem dL_law_615 : decode cL_law 615 = .ok (.aload_n 0, 1) := by decide +kernel
theorem dL_law_616 : decode cL_law 616 = .ok (.iload 4, 2) := by decide +kernel
theorem dL_law_618 : decode cL_law 618 = .ok (.iconst 2, 1) := by decide +kernel
theorem dL_law_619 : decode cL_law 619 = .ok (.iadd, 1) := by decide +kernel
theorem dL_law_620 : decode cL_law 620 = .ok (.iaload, 1) := by decide +kernel
theorem dL_law_621 : decode cL_law 621 = .ok (.aload_n 3, 1) := by decide +kernel
theorem dL_law_622 : decode cL_law 622 = .ok (.invokestatic 112, 3) := by decide +kernel
theorem dL_law_625 : decode cL_law 625 = .ok (.istore 5, 2) := by decide +kernel
theorem dL_law_627 : decode cL_law 627 = .ok (.aload_n 2, 1) := by decide +kernel
theorem dL_law_628 : decode cL_law 628 = .ok (.aload_n 0, 1) := by decide +kernel
theorem dL_law_629 : decode cL_law 629 = .ok (.iload 4, 2) := by decide +kernel
theorem dL_law_631 : decode cL_law 631 = .ok (.iconst 1, 1) := by decide +kernel
theorem dL_law_632 : decode cL_law 632 = .ok (.iadd, 1) := by decide +kernel
theorem dL_law_633 : decode cL_law 633 = .ok (.iaload, 1) := by decide +kernel
theorem dL_law_634 : decode cL_law 634 = .ok (.aload_n 0, 1) := by decide +kernel
theorem dL_law_635 : decode cL_law 635 = .ok (.iload 4, 2) := by decide +kernel
theorem dL_law_637 : decode cL_law 637 = .ok (.iconst 2, 1) := by decide +kernel
theorem dL_law_638 : decode cL_law 638 = .ok (.iadd, 1) := by decide +kernel
theorem dL_law_639 : decode cL_law 639 = .ok (.iaload, 1) := by decide +kernel
theorem dL_law_640 : decode cL_law 640 = .ok (.invokevirtual 114, 3) := by decide +kernel
theorem dL_law_643 : decode cL_law 643 = .ok (.istore 6, 2) := by decide +kernel
theorem dL_law_645 : decode cL_law 645 = .ok (.aload_n 2, 1) := by decide +kernel
theorem dL_law_646 : decode cL_law 646 = .ok (.invokevirtual 92, 3) := by decide +kernel
theorem dL_law_649 : decode cL_law 649 = .ok (.iload 5, 2) := by decide +kernel
theorem dL_law_651 : decode cL_law 651 = .ok (.if_icmp .eq 5, 3) := by decide +kernel
theorem dL_law_654 : decode cL_law 654 = .ok (.iconst 0, 1) := by decide +kernel
theorem dL_law_655 : decode cL_law 655 = .ok (.ireturn, 1) := by decide +kernel
theorem dL_law_656 : decode cL_law 656 = .ok (.iload 5, 2) := by decide +kernel
theorem dL_law_658 : decode cL_law 658 = .ok (.ifCond .ne 15, 3) := by decide +kernel
theorem dL_law_661 : decode cL_law 661 = .ok (.aload_n 3, 1) := by decide +kernel
theorem dL_law_662 : decode cL_law 662 = .ok (.iconst 0, 1) := by decide +kernel
theorem dL_law_663 : decode cL_law 663 = .ok (.laload, 1) := by decide +kernel
theorem dL_law_664 : decode cL_law 664 = .ok (.iload 6, 2) := by decide +kernel
theorem dL_law_666 : decode cL_law 666 = .ok (.i2l, 1) := by decide +kernel
theorem dL_law_667 : decode cL_law 667 = .ok (.lcmp, 1) := by decide +kernel
theorem dL_law_668 : decode cL_law 668 = .ok (.ifCond .eq 5, 3) := by decide +kernel
theorem dL_law_671 : decode cL_law 671 = .ok (.iconst 0, 1) := by decide +kernel
theorem dL_law_672 : decode cL_law 672 = .ok (.ireturn, 1) := by decide +kernel
theorem dL_law_673 : decode cL_law 673 = .ok (.goto 931, 3) := by decide +kernel
theorem dL_law_676 : decode cL_law 676 = .ok (.aload_n 1, 1) := by decide +kernel
theorem dL_law_677 : decode cL_law 677 = .ok (.aload_n 0, 1) := by decide +kernel
theorem dL_law_678 : decode cL_law 678 = .ok (.iload 4, 2) := by decide +kernel
theorem dL_law_680 : decode cL_law 680 = .ok (.iconst 1, 1) := by decide +kernel
theorem dL_law_681 : decode cL_law 681 = .ok (.iadd, 1) := by decide +kernel
theorem dL_law_682 : decode cL_law 682 = .ok (.iaload, 1) := by decide +kernel
theorem dL_law_683 : decode cL_law 683 = .ok (.aload_n 3, 1) := by decide +kernel
theorem dL_law_684 : decode cL_law 684 = .ok (.invokestatic 115, 3) := by decide +kernel
theorem dL_law_687 : decode cL_law 687 = .ok (.istore 5, 2) := by decide +kernel
theorem dL_law_689 : decode cL_law 689 = .ok (.aload_n 2, 1) := by decide +kernel
theorem dL_law_690 : decode cL_law 690 = .ok (.aload_n 0, 1) := by decide +kernel
theorem dL_law_691 : decode cL_law 691 = .ok (.iload 4, 2) := by decide +kernel
theorem dL_law_693 : decode cL_law 693 = .ok (.iconst 1, 1) := by decide +kernel
theorem dL_law_694 : decode cL_law 694 = .ok (.iadd, 1) := by decide +kernel
theorem dL_law_695 : decode cL_law 695 = .ok (.iaload, 1) := by decide +kernel
theorem dL_law_696 : decode cL_law 696 = .ok (.invokevirtual 117, 3) := by decide +kernel
theorem dL_law_699 : decode cL_law 699 = .ok (.istore 6, 2) := by decide +kernel
theorem dL_law_701 : decode cL_law 701 = .ok (.aload_n 2, 1) := by decide +kernel
theorem dL_law_702 : decode cL_law 702 = .ok (.invokevirtual 92, 3) := by decide +kernel
theorem dL_law_705 : decode cL_law 705 = .ok (.iload 5, 2) := by decide +kernel
theorem dL_law_707 : decode cL_law 707 = .ok (.if_icmp .eq 5, 3) := by decide +kernel
theorem dL_law_710 : decode cL_law 710 = .ok (.iconst 0, 1) := by decide +kernel
theorem dL_law_711 : decode cL_law 711 = .ok (.ireturn, 1) := by decide +kernel
theorem dL_law_712 : decode cL_law 712 = .ok (.iload 5, 2) := by decide +kernel
theorem dL_law_714 : decode cL_law 714 = .ok (.ifCond .ne 15, 3) := by decide +kernel
theorem dL_law_717 : decode cL_law 717 = .ok (.aload_n 3, 1) := by decide +kernel
theorem dL_law_718 : decode cL_law 718 = .ok (.iconst 0, 1) := by decide +kernel
theorem dL_law_719 : decode cL_law 719 = .ok (.laload, 1) := by decide +kernel
theorem dL_law_720 : decode cL_law 720 = .ok (.iload 6, 2) := by decide +kernel
theorem dL_law_722 : decode cL_law 722 = .ok (.i2l, 1) := by decide +kernel
theorem dL_law_723 : decode cL_law 723 = .ok (.lcmp, 1) := by decide +kernel
theorem dL_law_724 : decode cL_law 724 = .ok (.ifCond .eq 5, 3) := by decide +kernel
theorem dL_law_727 : decode cL_law 727 = .ok (.iconst 0, 1) := by decide +kernel
theorem dL_law_728 : decode cL_law 728 = .ok (.ireturn, 1) := by decide +kernel
theorem dL_law_729 : decode cL_law 729 = .ok (.goto 875, 3) := by decide +kernel
theorem dL_law_732 : decode cL_law 732 = .ok (.aload_n 1, 1) := by decide +kernel
theorem dL_law_733 : decode cL_law 733 = .ok (.aload_n 0, 1) := by decide +kernel
theorem dL_law_734 : decode cL_law 734 = .ok (.iload 4, 2) := by decide +kernel
theorem dL_law_736 : decode cL_law 736 = .ok (.iconst 1, 1) := by decide +kernel
theorem dL_law_737 : decode cL_law 737 = .ok (.iadd, 1) := by decide +kernel
theorem dL_law_738 : decode cL_law 738 = .ok (.iaload, 1) := by decide +kernel
theorem dL_law_739 : decode cL_law 739 = .ok (.aload_n 3, 1) := by decide +kernel
theorem dL_law_740 : decode cL_law 740 = .ok (.invokestatic 118, 3) := by decide +kernel
theorem dL_law_743 : decode cL_law 743 = .ok (.istore 5, 2) := by decide +kernel
theorem dL_law_745 : decode cL_law 745 = .ok (.aload_n 2, 1) := by decide +kernel
theorem dL_law_746 : decode cL_law 746 = .ok (.aload_n 0, 1) := by decide +kernel
theorem dL_law_747 : decode cL_law 747 = .ok (.iload 4, 2) := by decide +kernel
theorem dL_law_749 : decode cL_law 749 = .ok (.iconst 1, 1) := by decide +kernel
theorem dL_law_750 : decode cL_law 750 = .ok (.iadd, 1) := by decide +kernel
theorem dL_law_751 : decode cL_law 751 = .ok (.iaload, 1) := by decide +kernel
theorem dL_law_752 : decode cL_law 752 = .ok (.invokevirtual 120, 3) := by decide +kernel
theorem dL_law_755 : decode cL_law 755 = .ok (.istore 6, 2) := by decide +kernel
theorem dL_law_757 : decode cL_law 757 = .ok (.aload_n 2, 1) := by decide +kernel
theorem dL_law_758 : decode cL_law 758 = .ok (.invokevirtual 92, 3) := by decide +kernel
theorem dL_law_761 : decode cL_law 761 = .ok (.iload 5, 2) := by decide +kernel
theorem dL_law_763 : decode cL_law 763 = .ok (.if_icmp .eq 5, 3) := by decide +kernel
theorem dL_law_766 : decode cL_law 766 = .ok (.iconst 0, 1) := by decide +kernel
theorem dL_law_767 : decode cL_law 767 = .ok (.ireturn, 1) := by decide +kernel
theorem dL_law_768 : decode cL_law 768 = .ok (.iload 5, 2) := by decide +kernel
theorem dL_law_770 : decode cL_law 770 = .ok (.ifCond .ne 15, 3) := by decide +kernel
theorem dL_law_773 : decode cL_law 773 = .ok (.aload_n 3, 1) := by decide +kernel
theorem dL_law_774 : decode cL_law 774 = .ok (.iconst 0, 1) := by decide +kernel
theorem dL_law_775 : decode cL_law 775 = .ok (.laload, 1) := by decide +kernel
theorem dL_law_776 : decode cL_law 776 = .ok (.iload 6, 2) := by decide +kernel
theorem dL_law_778 : decode cL_law 778 = .ok (.i2l, 1) := by decide +kernel
theorem dL_law_779 : decode cL_law 779 = .ok (.lcmp, 1) := by decide +kernel
theorem dL_law_780 : decode cL_law 780 = .ok (.ifCond .eq 5, 3) := by decide +kernel
theorem dL_law_783 : decode cL_law 783 = .ok (.iconst 0, 1) := by decide +kernel
theorem dL_law_784 : decode cL_law 784 = .ok (.ireturn, 1) := by decide +kernel
theorem dL_law_785 : decode cL_law 785 = .ok (.goto 819, 3) := by decide +kernel
theorem dL_law_788 : decode cL_law 788 = .ok (.aload_n 1, 1) := by decide +kernel
theorem dL_law_789 : decode cL_law 789 = .ok (.invokevirtual 121, 3) := by decide +kernel
theorem dL_law_792 : decode cL_law 792 = .ok (.aload_n 2, 1) := by decide +kernel
theorem dL_law_793 : decode cL_law 793 = .ok (.invokevirtual 124, 3) := by decide +kernel
theorem dL_law_796 : decode cL_law 796 = .ok (.if_icmp .eq 808, 3) := by decide +kernel
theorem dL_law_799 : decode cL_law 799 = .ok (.iconst 0, 1) := by decide +kernel
theorem dL_law_800 : decode cL_law 800 = .ok (.ireturn, 1) := by decide +kernel
theorem dL_law_801 : decode cL_law 801 = .ok (.aload_n 1, 1) := by decide +kernel
theorem dL_law_802 : decode cL_law 802 = .ok (.invokevirtual 125, 3) := by decide +kernel
theorem dL_law_805 : decode cL_law 805 = .ok (.aload_n 2, 1) := by decide +kernel
theorem dL_law_806 : decode cL_law 806 = .ok (.invokevirtual 128, 3) := by decide +kernel
theorem dL_law_809 : decode cL_law 809 = .ok (.if_icmp .eq 795, 3) := by decide +kernel
theorem dL_law_812 : decode cL_law 812 = .ok (.iconst 0, 1) := by decide +kernel
theorem dL_law_813 : decode cL_law 813 = .ok (.ireturn, 1) := by decide +kernel
theorem dL_law_814 : decode cL_law 814 = .ok (.aload_n 1, 1) := by decide +kernel
theorem dL_law_815 : decode cL_law 815 = .ok (.aload_n 3, 1) := by decide +kernel
theorem dL_law_816 : decode cL_law 816 = .ok (.invokestatic 129, 3) := by decide +kernel
theorem dL_law_819 : decode cL_law 819 = .ok (.istore 5, 2) := by decide +kernel
theorem dL_law_821 : decode cL_law 821 = .ok (.aload_n 2, 1) := by decide +kernel
theorem dL_law_822 : decode cL_law 822 = .ok (.invokevirtual 132, 3) := by decide +kernel
theorem dL_law_825 : decode cL_law 825 = .ok (.istore 6, 2) := by decide +kernel
theorem dL_law_827 : decode cL_law 827 = .ok (.aload_n 2, 1) := by decide +kernel
theorem dL_law_828 : decode cL_law 828 = .ok (.invokevirtual 92, 3) := by decide +kernel
theorem dL_law_831 : decode cL_law 831 = .ok (.iload 5, 2) := by decide +kernel
theorem dL_law_833 : decode cL_law 833 = .ok (.if_icmp .eq 5, 3) := by decide +kernel
theorem dL_law_836 : decode cL_law 836 = .ok (.iconst 0, 1) := by decide +kernel
theorem dL_law_837 : decode cL_law 837 = .ok (.ireturn, 1) := by decide +kernel
theorem dL_law_838 : decode cL_law 838 = .ok (.iload 5, 2) := by decide +kernel
theorem dL_law_840 : decode cL_law 840 = .ok (.ifCond .ne 15, 3) := by decide +kernel
theorem dL_law_843 : decode cL_law 843 = .ok (.aload_n 3, 1) := by decide +kernel
theorem dL_law_844 : decode cL_law 844 = .ok (.iconst 0, 1) := by decide +kernel
theorem dL_law_845 : decode cL_law 845 = .ok (.laload, 1) := by decide +kernel
theorem dL_law_846 : decode cL_law 846 = .ok (.iload 6, 2) := by decide +kernel
theorem dL_law_848 : decode cL_law 848 = .ok (.i2l, 1) := by decide +kernel
theorem dL_law_849 : decode cL_law 849 = .ok (.lcmp, 1) := by decide +kernel
theorem dL_law_850 : decode cL_law 850 = .ok (.ifCond .eq 5, 3) := by decide +kernel
theorem dL_law_853 : decode cL_law 853 = .ok (.iconst 0, 1) := by decide +kernel
theorem dL_law_854 : decode cL_law 854 = .ok (.ireturn, 1) := by decide +kernel
theorem dL_law_855 : decode cL_law 855 = .ok (.goto 749, 3) := by decide +kernel
theorem dL_law_858 : decode cL_law 858 = .ok (.aload_n 1, 1) := by decide +kernel
theorem dL_law_859 : decode cL_law 859 = .ok (.aload_n 3, 1) := by decide +kernel
theorem dL_law_860 : decode cL_law 860 = .ok (.invokestatic 133, 3) := by decide +kernel
theorem dL_law_863 : decode cL_law 863 = .ok (.istore 5, 2) := by decide +kernel
theorem dL_law_865 : decode cL_law 865 = .ok (.aload_n 2, 1) := by decide +kernel
theorem dL_law_866 : decode cL_law 866 = .ok (.invokevirtual 135, 3) := by decide +kernel
theorem dL_law_869 : decode cL_law 869 = .ok (.istore 6, 2) := by decide +kernel
theorem dL_law_871 : decode cL_law 871 = .ok (.aload_n 2, 1) := by decide +kernel
theorem dL_law_872 : decode cL_law 872 = .ok (.invokevirtual 92, 3) := by decide +kernel
theorem dL_law_875 : decode cL_law 875 = .ok (.iload 5, 2) := by decide +kernel
theorem dL_law_877 : decode cL_law 877 = .ok (.if_icmp .eq 5, 3) := by decide +kernel
theorem dL_law_880 : decode cL_law 880 = .ok (.iconst 0, 1) := by decide +kernel
theorem dL_law_881 : decode cL_law 881 = .ok (.ireturn, 1) := by decide +kernel
theorem dL_law_882 : decode cL_law 882 = .ok (.iload 5, 2) := by decide +kernel
theorem dL_law_884 : decode cL_law 884 = .ok (.ifCond .ne 15, 3) := by decide +kernel
theorem dL_law_887 : decode cL_law 887 = .ok (.aload_n 3, 1) := by decide +kernel
theorem dL_law_888 : decode cL_law 888 = .ok (.iconst 0, 1) := by decide +kernel
theorem dL_law_889 : decode cL_law 889 = .ok (.laload, 1) := by decide +kernel
theorem dL_law_890 : decode cL_law 890 = .ok (.iload 6, 2) := by decide +kernel
theorem dL_law_892 : decode cL_law 892 = .ok (.i2l, 1) := by decide +kernel
theorem dL_law_893 : decode cL_law 893 = .ok (.lcmp, 1) := by decide +kernel
theorem dL_law_894 : decode cL_law 894 = .ok (.ifCond .eq 5, 3) := by decide +kernel
theorem dL_law_897 : decode cL_law 897 = .ok (.iconst 0, 1) := by decide +kernel
theorem dL_law_898 : decode cL_law 898 = .ok (.ireturn, 1) := by decide +kernel
theorem dL_law_899 : decode cL_law 899 = .ok (.goto 705, 3) := by decide +kernel
theorem dL_law_902 : decode cL_law 902 = .ok (.aload_n 1, 1) := by decide +kernel
theorem dL_law_903 : decode cL_law 903 = .ok (.invokevirtual 136, 3) := by decide +kernel
theorem dL_law_906 : decode cL_law 906 = .ok (.aload_n 2, 1) := by decide +kernel
theorem dL_law_907 : decode cL_law 907 = .ok (.invokevirtual 139, 3) := by decide +kernel
theorem dL_law_910 : decode cL_law 910 = .ok (.if_icmp .eq 694, 3) := by decide +kernel
theorem dL_law_913 : decode cL_law 913 = .ok (.iconst 0, 1) := by decide +kernel
theorem dL_law_914 : decode cL_law 914 = .ok (.ireturn, 1) := by decide +kernel
theorem dL_law_915 : decode cL_law 915 = .ok (.aload_n 1, 1) := by decide +kernel
theorem dL_law_916 : decode cL_law 916 = .ok (.aload_n 3, 1) := by decide +kernel
theorem dL_law_917 : decode cL_law 917 = .ok (.invokestatic 140, 3) := by decide +kernel
theorem dL_law_920 : decode cL_law 920 = .ok (.istore 5, 2) := by decide +kernel
theorem dL_law_922 : decode cL_law 922 = .ok (.aload_n 2, 1) := by decide +kernel
theorem dL_law_923 : decode cL_law 923 = .ok (.invokevirtual 142, 3) := by decide +kernel
theorem dL_law_926 : decode cL_law 926 = .ok (.istore 6, 2) := by decide +kernel
theorem dL_law_928 : decode cL_law 928 = .ok (.aload_n 2, 1) := by decide +kernel
theorem dL_law_929 : decode cL_law 929 = .ok (.invokevirtual 92, 3) := by decide +kernel
theorem dL_law_932 : decode cL_law 932 = .ok (.iload 5, 2) := by decide +kernel
theorem dL_law_934 : decode cL_law 934 = .ok (.if_icmp .eq 5, 3) := by decide +kernel
theorem dL_law_937 : decode cL_law 937 = .ok (.iconst 0, 1) := by decide +kernel
theorem dL_law_938 : decode cL_law 938 = .ok (.ireturn, 1) := by decide +kernel
theorem dL_law_939 : decode cL_law 939 = .ok (.iload 5, 2) := by decide +kernel
theorem dL_law_941 : decode cL_law 941 = .ok (.ifCond .ne 15, 3) := by decide +kernel
theorem dL_law_944 : decode cL_law 944 = .ok (.aload_n 3, 1) := by decide +kernel
theorem dL_law_945 : decode cL_law 945 = .ok (.iconst 0, 1) := by decide +kernel
theorem dL_law_946 : decode cL_law 946 = .ok (.laload, 1) := by decide +kernel
theorem dL_law_947 : decode cL_law 947 = .ok (.iload 6, 2) := by decide +kernel
theorem dL_law_949 : decode cL_law 949 = .ok (.i2l, 1) := by decide +kernel
theorem dL_law_950 : decode cL_law 950 = .ok (.lcmp, 1) := by decide +kernel
theorem dL_law_951 : decode cL_law 951 = .ok (.ifCond .eq 5, 3) := by decide +kernel
theorem dL_law_954 : decode cL_law 954 = .ok (.iconst 0, 1) := by decide +kernel
theorem dL_law_955 : decode cL_law 955 = .ok (.ireturn, 1) := by decide +kernel
theorem dL_law_956 : decode cL_law 956 = .ok (.goto 648, 3) := by decide +kernel
theorem dL_law_959 : decode cL_law 959 = .ok (.aload_n 1, 1) := by decide +kernel
theorem dL_law_960 : decode cL_law 960 = .ok (.aload_n 0, 1) := by decide +kernel
theorem dL_law_961 : decode cL_law 961 = .ok (.iload 4, 2) := by decide +kernel
theorem dL_law_963 : decode cL_law 963 = .ok (.iconst 1, 1) := by decide +kernel
theorem dL_law_964 : decode cL_law 964 = .ok (.iadd, 1) := by decide +kernel
theorem dL_law_965 : decode cL_law 965 = .ok (.iaload, 1) := by decide +kernel
theorem dL_law_966 : decode cL_law 966 = .ok (.aload_n 0, 1) := by decide +kernel
theorem dL_law_967 : decode cL_law 967 = .ok (.iload 4, 2) := by decide +kernel
theorem dL_law_969 : decode cL_law 969 = .ok (.iconst 2, 1) := by decide +kernel
theorem dL_law_970 : decode cL_law 970 = .ok (.iadd, 1) := by decide +kernel
theorem dL_law_971 : decode cL_law 971 = .ok (.iaload, 1) := by decide +kernel
theorem dL_law_972 : decode cL_law 972 = .ok (.aload_n 3, 1) := by decide +kernel
theorem dL_law_973 : decode cL_law 973 = .ok (.invokestatic 143, 3) := by decide +kernel
theorem dL_law_976 : decode cL_law 976 = .ok (.istore 5, 2) := by decide +kernel
theorem dL_law_978 : decode cL_law 978 = .ok (.aload_n 2, 1) := by decide +kernel
theorem dL_law_979 : decode cL_law 979 = .ok (.aload_n 0, 1) := by decide +kernel
theorem dL_law_980 : decode cL_law 980 = .ok (.iload 4, 2) := by decide +kernel
theorem dL_law_982 : decode cL_law 982 = .ok (.iconst 1, 1) := by decide +kernel
theorem dL_law_983 : decode cL_law 983 = .ok (.iadd, 1) := by decide +kernel
theorem dL_law_984 : decode cL_law 984 = .ok (.iaload, 1) := by decide +kernel
theorem dL_law_985 : decode cL_law 985 = .ok (.aload_n 0, 1) := by decide +kernel
theorem dL_law_986 : decode cL_law 986 = .ok (.iload 4, 2) := by decide +kernel
theorem dL_law_988 : decode cL_law 988 = .ok (.iconst 2, 1) := by decide +kernel
theorem dL_law_989 : decode cL_law 989 = .ok (.iadd, 1) := by decide +kernel
theorem dL_law_990 : decode cL_law 990 = .ok (.iaload, 1) := by decide +kernel
theorem dL_law_991 : decode cL_law 991 = .ok (.invokevirtual 145, 3) := by decide +kernel
theorem dL_law_994 : decode cL_law 994 = .ok (.istore 6, 2) := by decide +kernel
theorem dL_law_996 : decode cL_law 996 = .ok (.aload_n 2, 1) := by decide +kernel
theorem dL_law_997 : decode cL_law 997 = .ok (.invokevirtual 92, 3) := by decide +kernel
theorem dL_law_1000 : decode cL_law 1000 = .ok (.iload 5, 2) := by decide +kernel
theorem dL_law_1002 : decode cL_law 1002 = .ok (.if_icmp .eq 5, 3) := by decide +kernel
theorem dL_law_1005 : decode cL_law 1005 = .ok (.iconst 0, 1) := by decide +kernel
theorem dL_law_1006 : decode cL_law 1006 = .ok (.ireturn, 1) := by decide +kernel
theorem dL_law_1007 : decode cL_law 1007 = .ok (.iload 5, 2) := by decide +kernel
theorem dL_law_1009 : decode cL_law 1009 = .ok (.ifCond .ne 15, 3) := by decide +kernel
theorem dL_law_1012 : decode cL_law 1012 = .ok (.aload_n 3, 1) := by decide +kernel
theorem dL_law_1013 : decode cL_law 1013 = .ok (.iconst 0, 1) := by decide +kernel
theorem dL_law_1014 : decode cL_law 1014 = .ok (.laload, 1) := by decide +kernel
theorem dL_law_1015 : decode cL_law 1015 = .ok (.iload 6, 2) := by decide +kernel
theorem dL_law_1017 : decode cL_law 1017 = .ok (.i2l, 1) := by decide +kernel
theorem dL_law_1018 : decode cL_law 1018 = .ok (.lcmp, 1) := by decide +kernel
theorem dL_law_1019 : decode cL_law 1019 = .ok (.ifCond .eq 5, 3) := by decide +kernel
theorem dL_law_1022 : decode cL_law 1022 = .ok (.iconst 0, 1) := by decide +kernel
theorem dL_law_1023 : decode cL_law 1023 = .ok (.ireturn, 1) := by decide +kernel
theorem dL_law_1024 : decode cL_law 1024 = .ok (.goto 580, 3) := by decide +kernel
theorem dL_law_1027 : decode cL_law 1027 = .ok (.aload_n 1, 1) := by decide +kernel
theorem dL_law_1028 : decode cL_law 1028 = .ok (.aload_n 0, 1) := by decide +kernel
theorem dL_law_1029 : decode cL_law 1029 = .ok (.iload 4, 2) := by decide +kernel
theorem dL_law_1031 : decode cL_law 1031 = .ok (.iconst 1, 1) := by decide +kernel
theorem dL_law_1032 : decode cL_law 1032 = .ok (.iadd, 1) := by decide +kernel
theorem dL_law_1033 : decode cL_law 1033 = .ok (.iaload, 1) := by decide +kernel
theorem dL_law_1034 : decode cL_law 1034 = .ok (.aload_n 0, 1) := by decide +kernel
theorem dL_law_1035 : decode cL_law 1035 = .ok (.iload 4, 2) := by decide +kernel
theorem dL_law_1037 : decode cL_law 1037 = .ok (.iconst 2, 1) := by decide +kernel
theorem dL_law_1038 : decode cL_law 1038 = .ok (.iadd, 1) := by decide +kernel
theorem dL_law_1039 : decode cL_law 1039 = .ok (.iaload, 1) := by decide +kernel
theorem dL_law_1040 : decode cL_law 1040 = .ok (.aload_n 3, 1) := by decide +kernel
theorem dL_law_1041 : decode cL_law 1041 = .ok (.invokestatic 146, 3) := by decide +kernel
theorem dL_law_1044 : decode cL_law 1044 = .ok (.istore 5, 2) := by decide +kernel
theorem dL_law_1046 : decode cL_law 1046 = .ok (.aload_n 2, 1) := by decide +kernel
theorem dL_law_1047 : decode cL_law 1047 = .ok (.aload_n 0, 1) := by decide +kernel
theorem dL_law_1048 : decode cL_law 1048 = .ok (.iload 4, 2) := by decide +kernel
theorem dL_law_1050 : decode cL_law 1050 = .ok (.iconst 1, 1) := by decide +kernel
theorem dL_law_1051 : decode cL_law 1051 = .ok (.iadd, 1) := by decide +kernel
theorem dL_law_1052 : decode cL_law 1052 = .ok (.iaload, 1) := by decide +kernel
theorem dL_law_1053 : decode cL_law 1053 = .ok (.aload_n 0, 1) := by decide +kernel
theorem dL_law_1054 : decode cL_law 1054 = .ok (.iload 4, 2) := by decide +kernel
theorem dL_law_1056 : decode cL_law 1056 = .ok (.iconst 2, 1) := by decide +kernel
theorem dL_law_1057 : decode cL_law 1057 = .ok (.iadd, 1) := by decide +kernel
theorem dL_law_1058 : decode cL_law 1058 = .ok (.iaload, 1) := by decide +kernel
theorem dL_law_1059 : decode cL_law 1059 = .ok (.invokevirtual 148, 3) := by decide +kernel
theorem dL_law_1062 : decode cL_law 1062 = .ok (.istore 6, 2) := by decide +kernel
theorem dL_law_1064 : decode cL_law 1064 = .ok (.aload_n 2, 1) := by decide +kernel
theorem dL_law_1065 : decode cL_law 1065 = .ok (.invokevirtual 92, 3) := by decide +kernel
theorem dL_law_1068 : decode cL_law 1068 = .ok (.iload 5, 2) := by decide +kernel
theorem dL_law_1070 : decode cL_law 1070 = .ok (.if_icmp .eq 5, 3) := by decide +kernel
theorem dL_law_1073 : decode cL_law 1073 = .ok (.iconst 0, 1) := by decide +kernel
theorem dL_law_1074 : decode cL_law 1074 = .ok (.ireturn, 1) := by decide +kernel
theorem dL_law_1075 : decode cL_law 1075 = .ok (.iload 5, 2) := by decide +kernel
theorem dL_law_1077 : decode cL_law 1077 = .ok (.ifCond .ne 15, 3) := by decide +kernel
theorem dL_law_1080 : decode cL_law 1080 = .ok (.aload_n 3, 1) := by decide +kernel
theorem dL_law_1081 : decode cL_law 1081 = .ok (.iconst 0, 1) := by decide +kernel
theorem dL_law_1082 : decode cL_law 1082 = .ok (.laload, 1) := by decide +kernel
theorem dL_law_1083 : decode cL_law 1083 = .ok (.iload 6, 2) := by decide +kernel
theorem dL_law_1085 : decode cL_law 1085 = .ok (.i2l, 1) := by decide +kernel
theorem dL_law_1086 : decode cL_law 1086 = .ok (.lcmp, 1) := by decide +kernel
theorem dL_law_1087 : decode cL_law 1087 = .ok (.ifCond .eq 5, 3) := by decide +kernel
theorem dL_law_1090 : decode cL_law 1090 = .ok (.iconst 0, 1) := by decide +kernel
theorem dL_law_1091 : decode cL_law 1091 = .ok (.ireturn, 1) := by decide +kernel
theorem dL_law_1092 : decode cL_law 1092 = .ok (.goto 512, 3) := by decide +kernel
theorem dL_law_1095 : decode cL_law 1095 = .ok (.aload_n 1, 1) := by decide +kernel
theorem dL_law_1096 : decode cL_law 1096 = .ok (.aload_n 0, 1) := by decide +kernel
theorem dL_law_1097 : decode cL_law 1097 = .ok (.iload 4, 2) := by decide +kernel
theorem dL_law_1099 : decode cL_law 1099 = .ok (.iconst 1, 1) := by decide +kernel
theorem dL_law_1100 : decode cL_law 1100 = .ok (.iadd, 1) := by decide +kernel
theorem dL_law_1101 : decode cL_law 1101 = .ok (.iaload, 1) := by decide +kernel
theorem dL_law_1102 : decode cL_law 1102 = .ok (.aload_n 0, 1) := by decide +kernel
theorem dL_law_1103 : decode cL_law 1103 = .ok (.iload 4, 2) := by decide +kernel
theorem dL_law_1105 : decode cL_law 1105 = .ok (.iconst 2, 1) := by decide +kernel
theorem dL_law_1106 : decode cL_law 1106 = .ok (.iadd, 1) := by decide +kernel
theorem dL_law_1107 : decode cL_law 1107 = .ok (.iaload, 1) := by decide +kernel
theorem dL_law_1108 : decode cL_law 1108 = .ok (.aload_n 3, 1) := by decide +kernel
theorem dL_law_1109 : decode cL_law 1109 = .ok (.invokestatic 149, 3) := by decide +kernel
theorem dL_law_1112 : decode cL_law 1112 = .ok (.istore 5, 2) := by decide +kernel
theorem dL_law_1114 : decode cL_law 1114 = .ok (.aload_n 2, 1) := by decide +kernel
theorem dL_law_1115 : decode cL_law 1115 = .ok (.aload_n 0, 1) := by decide +kernel
theorem dL_law_1116 : decode cL_law 1116 = .ok (.iload 4, 2) := by decide +kernel
theorem dL_law_1118 : decode cL_law 1118 = .ok (.iconst 1, 1) := by decide +kernel
theorem dL_law_1119 : decode cL_law 1119 = .ok (.iadd, 1) := by decide +kernel
theorem dL_law_1120 : decode cL_law 1120 = .ok (.iaload, 1) := by decide +kernel
theorem dL_law_1121 : decode cL_law 1121 = .ok (.aload_n 0, 1) := by decide +kernel
theorem dL_law_1122 : decode cL_law 1122 = .ok (.iload 4, 2) := by decide +kernel
theorem dL_law_1124 : decode cL_law 1124 = .ok (.iconst 2, 1) := by decide +kernel
theorem dL_law_1125 : decode cL_law 1125 = .ok (.iadd, 1) := by decide +kernel
theorem dL_law_1126 : decode cL_law 1126 = .ok (.iaload, 1) := by decide +kernel
theorem dL_law_1127 : decode cL_law 1127 = .ok (.invokevirtual 151, 3) := by decide +kernel
theorem dL_law_1130 : decode cL_law 1130 = .ok (.istore 6, 2) := by decide +kernel
theorem dL_law_1132 : decode cL_law 1132 = .ok (.aload_n 2, 1) := by decide +kernel
theorem dL_law_1133 : decode cL_law 1133 = .ok (.invokevirtual 92, 3) := by decide +kernel
theorem dL_law_1136 : decode cL_law 1136 = .ok (.iload 5, 2) := by decide +kernel
theorem dL_law_1138 : decode cL_law 1138 = .ok (.if_icmp .eq 5, 3) := by decide +kernel
theorem dL_law_1141 : decode cL_law 1141 = .ok (.iconst 0, 1) := by decide +kernel
theorem dL_law_1142 : decode cL_law 1142 = .ok (.ireturn, 1) := by decide +kernel
theorem dL_law_1143 : decode cL_law 1143 = .ok (.iload 5, 2) := by decide +kernel
theorem dL_law_1145 : decode cL_law 1145 = .ok (.ifCond .ne 15, 3) := by decide +kernel
theorem dL_law_1148 : decode cL_law 1148 = .ok (.aload_n 3, 1) := by decide +kernel
theorem dL_law_1149 : decode cL_law 1149 = .ok (.iconst 0, 1) := by decide +kernel
theorem dL_law_1150 : decode cL_law 1150 = .ok (.laload, 1) := by decide +kernel
theorem dL_law_1151 : decode cL_law 1151 = .ok (.iload 6, 2) := by decide +kernel
theorem dL_law_1153 : decode cL_law 1153 = .ok (.i2l, 1) := by decide +kernel
theorem dL_law_1154 : decode cL_law 1154 = .ok (.lcmp, 1) := by decide +kernel
theorem dL_law_1155 : decode cL_law 1155 = .ok (.ifCond .eq 5, 3) := by decide +kernel
theorem dL_law_1158 : decode cL_law 1158 = .ok (.iconst 0, 1) := by decide +kernel
theorem dL_law_1159 : decode cL_law 1159 = .ok (.ireturn, 1) := by decide +kernel
theorem dL_law_1160 : decode cL_law 1160 = .ok (.goto 444, 3) := by decide +kernel
theorem dL_law_1163 : decode cL_law 1163 = .ok (.aload_n 1, 1) := by decide +kernel
theorem dL_law_1164 : decode cL_law 1164 = .ok (.aload_n 0, 1) := by decide +kernel
theorem dL_law_1165 : decode cL_law 1165 = .ok (.iload 4, 2) := by decide +kernel
theorem dL_law_1167 : decode cL_law 1167 = .ok (.iconst 1, 1) := by decide +kernel
theorem dL_law_1168 : decode cL_law 1168 = .ok (.iadd, 1) := by decide +kernel
theorem dL_law_1169 : decode cL_law 1169 = .ok (.iaload, 1) := by decide +kernel
theorem dL_law_1170 : decode cL_law 1170 = .ok (.aload_n 3, 1) := by decide +kernel
theorem dL_law_1171 : decode cL_law 1171 = .ok (.invokestatic 152, 3) := by decide +kernel
theorem dL_law_1174 : decode cL_law 1174 = .ok (.istore 5, 2) := by decide +kernel
theorem dL_law_1176 : decode cL_law 1176 = .ok (.aload_n 2, 1) := by decide +kernel
theorem dL_law_1177 : decode cL_law 1177 = .ok (.aload_n 0, 1) := by decide +kernel
theorem dL_law_1178 : decode cL_law 1178 = .ok (.iload 4, 2) := by decide +kernel
theorem dL_law_1180 : decode cL_law 1180 = .ok (.iconst 1, 1) := by decide +kernel
theorem dL_law_1181 : decode cL_law 1181 = .ok (.iadd, 1) := by decide +kernel
theorem dL_law_1182 : decode cL_law 1182 = .ok (.iaload, 1) := by decide +kernel
theorem dL_law_1183 : decode cL_law 1183 = .ok (.invokevirtual 154, 3) := by decide +kernel
theorem dL_law_1186 : decode cL_law 1186 = .ok (.istore 6, 2) := by decide +kernel
theorem dL_law_1188 : decode cL_law 1188 = .ok (.aload_n 2, 1) := by decide +kernel
theorem dL_law_1189 : decode cL_law 1189 = .ok (.invokevirtual 92, 3) := by decide +kernel
theorem dL_law_1192 : decode cL_law 1192 = .ok (.iload 5, 2) := by decide +kernel
theorem dL_law_1194 : decode cL_law 1194 = .ok (.if_icmp .eq 5, 3) := by decide +kernel
theorem dL_law_1197 : decode cL_law 1197 = .ok (.iconst 0, 1) := by decide +kernel
theorem dL_law_1198 : decode cL_law 1198 = .ok (.ireturn, 1) := by decide +kernel
theorem dL_law_1199 : decode cL_law 1199 = .ok (.iload 5, 2) := by decide +kernel
theorem dL_law_1201 : decode cL_law 1201 = .ok (.ifCond .ne 15, 3) := by decide +kernel
theorem dL_law_1204 : decode cL_law 1204 = .ok (.aload_n 3, 1) := by decide +kernel
theorem dL_law_1205 : decode cL_law 1205 = .ok (.iconst 0, 1) := by decide +kernel
theorem dL_law_1206 : decode cL_law 1206 = .ok (.laload, 1) := by decide +kernel
theorem dL_law_1207 : decode cL_law 1207 = .ok (.iload 6, 2) := by decide +kernel
theorem dL_law_1209 : decode cL_law 1209 = .ok (.i2l, 1) := by decide +kernel
theorem dL_law_1210 : decode cL_law 1210 = .ok (.lcmp, 1) := by decide +kernel
theorem dL_law_1211 : decode cL_law 1211 = .ok (.ifCond .eq 5, 3) := by decide +kernel
theorem dL_law_1214 : decode cL_law 1214 = .ok (.iconst 0, 1) := by decide +kernel
theorem dL_law_1215 : decode cL_law 1215 = .ok (.ireturn, 1) := by decide +kernel
theorem dL_law_1216 : decode cL_law 1216 = .ok (.goto 388, 3) := by decide +kernel
theorem dL_law_1219 : decode cL_law 1219 = .ok (.aload_n 1, 1) := by decide +kernel
theorem dL_law_1220 : decode cL_law 1220 = .ok (.aload_n 0, 1) := by decide +kernel
theorem dL_law_1221 : decode cL_law 1221 = .ok (.iload 4, 2) := by decide +kernel
theorem dL_law_1223 : decode cL_law 1223 = .ok (.iconst 1, 1) := by decide +kernel
theorem dL_law_1224 : decode cL_law 1224 = .ok (.iadd, 1) := by decide +kernel
theorem dL_law_1225 : decode cL_law 1225 = .ok (.iaload, 1) := by decide +kernel
theorem dL_law_1226 : decode cL_law 1226 = .ok (.aload_n 3, 1) := by decide +kernel
theorem dL_law_1227 : decode cL_law 1227 = .ok (.invokestatic 155, 3) := by decide +kernel
theorem dL_law_1230 : decode cL_law 1230 = .ok (.istore 5, 2) := by decide +kernel
theorem dL_law_1232 : decode cL_law 1232 = .ok (.aload_n 2, 1) := by decide +kernel
theorem dL_law_1233 : decode cL_law 1233 = .ok (.aload_n 0, 1) := by decide +kernel
theorem dL_law_1234 : decode cL_law 1234 = .ok (.iload 4, 2) := by decide +kernel
theorem dL_law_1236 : decode cL_law 1236 = .ok (.iconst 1, 1) := by decide +kernel
theorem dL_law_1237 : decode cL_law 1237 = .ok (.iadd, 1) := by decide +kernel
theorem dL_law_1238 : decode cL_law 1238 = .ok (.iaload, 1) := by decide +kernel
theorem dL_law_1239 : decode cL_law 1239 = .ok (.invokevirtual 157, 3) := by decide +kernel
theorem dL_law_1242 : decode cL_law 1242 = .ok (.istore 6, 2) := by decide +kernel
theorem dL_law_1244 : decode cL_law 1244 = .ok (.aload_n 2, 1) := by decide +kernel
theorem dL_law_1245 : decode cL_law 1245 = .ok (.invokevirtual 92, 3) := by decide +kernel
theorem dL_law_1248 : decode cL_law 1248 = .ok (.iload 5, 2) := by decide +kernel
theorem dL_law_1250 : decode cL_law 1250 = .ok (.if_icmp .eq 5, 3) := by decide +kernel
theorem dL_law_1253 : decode cL_law 1253 = .ok (.iconst 0, 1) := by decide +kernel
theorem dL_law_1254 : decode cL_law 1254 = .ok (.ireturn, 1) := by decide +kernel
theorem dL_law_1255 : decode cL_law 1255 = .ok (.iload 5, 2) := by decide +kernel
theorem dL_law_1257 : decode cL_law 1257 = .ok (.ifCond .ne 15, 3) := by decide +kernel
theorem dL_law_1260 : decode cL_law 1260 = .ok (.aload_n 3, 1) := by decide +kernel
theorem dL_law_1261 : decode cL_law 1261 = .ok (.iconst 0, 1) := by decide +kernel
theorem dL_law_1262 : decode cL_law 1262 = .ok (.laload, 1) := by decide +kernel
theorem dL_law_1263 : decode cL_law 1263 = .ok (.iload 6, 2) := by decide +kernel
theorem dL_law_1265 : decode cL_law 1265 = .ok (.i2l, 1) := by decide +kernel
theorem dL_law_1266 : decode cL_law 1266 = .ok (.lcmp, 1) := by decide +kernel
theorem dL_law_1267 : decode cL_law 1267 = .ok (.ifCond .eq 5, 3) := by decide +kernel
theorem dL_law_1270 : decode cL_law 1270 = .ok (.iconst 0, 1) := by decide +kernel
theorem dL_law_1271 : decode cL_law 1271 = .ok (.ireturn, 1) := by decide +kernel
theorem dL_law_1272 : decode cL_law 1272 = .ok (.goto 332, 3) := by decide +kernel
theorem dL_law_1275 : decode cL_law 1275 = .ok (.aload_n 1, 1) := by decide +kernel
theorem dL_law_1276 : decode cL_law 1276 = .ok (.aload_n 0, 1) := by decide +kernel
theorem dL_law_1277 : decode cL_law 1277 = .ok (.iload 4, 2) := by decide +kernel
theorem dL_law_1279 : decode cL_law 1279 = .ok (.iconst 1, 1) := by decide +kernel
theorem dL_law_1280 : decode cL_law 1280 = .ok (.iadd, 1) := by decide +kernel
theorem dL_law_1281 : decode cL_law 1281 = .ok (.iaload, 1) := by decide +kernel
theorem dL_law_1282 : decode cL_law 1282 = .ok (.aload_n 3, 1) := by decide +kernel
theorem dL_law_1283 : decode cL_law 1283 = .ok (.invokestatic 158, 3) := by decide +kernel
theorem dL_law_1286 : decode cL_law 1286 = .ok (.istore 5, 2) := by decide +kernel
theorem dL_law_1288 : decode cL_law 1288 = .ok (.aload_n 2, 1) := by decide +kernel
theorem dL_law_1289 : decode cL_law 1289 = .ok (.aload_n 0, 1) := by decide +kernel
theorem dL_law_1290 : decode cL_law 1290 = .ok (.iload 4, 2) := by decide +kernel
theorem dL_law_1292 : decode cL_law 1292 = .ok (.iconst 1, 1) := by decide +kernel
theorem dL_law_1293 : decode cL_law 1293 = .ok (.iadd, 1) := by decide +kernel
theorem dL_law_1294 : decode cL_law 1294 = .ok (.iaload, 1) := by decide +kernel
theorem dL_law_1295 : decode cL_law 1295 = .ok (.invokevirtual 160, 3) := by decide +kernel
theorem dL_law_1298 : decode cL_law 1298 = .ok (.istore 6, 2) := by decide +kernel
theorem dL_law_1300 : decode cL_law 1300 = .ok (.aload_n 2, 1) := by decide +kernel
theorem dL_law_1301 : decode cL_law 1301 = .ok (.invokevirtual 92, 3) := by decide +kernel
theorem dL_law_1304 : decode cL_law 1304 = .ok (.iload 5, 2) := by decide +kernel
theorem dL_law_1306 : decode cL_law 1306 = .ok (.if_icmp .eq 5, 3) := by decide +kernel
theorem dL_law_1309 : decode cL_law 1309 = .ok (.iconst 0, 1) := by decide +kernel
theorem dL_law_1310 : decode cL_law 1310 = .ok (.ireturn, 1) := by decide +kernel
theorem dL_law_1311 : decode cL_law 1311 = .ok (.iload 5, 2) := by decide +kernel
theorem dL_law_1313 : decode cL_law 1313 = .ok (.ifCond .ne 15, 3) := by decide +kernel
theorem dL_law_1316 : decode cL_law 1316 = .ok (.aload_n 3, 1) := by decide +kernel
theorem dL_law_1317 : decode cL_law 1317 = .ok (.iconst 0, 1) := by decide +kernel
theorem dL_law_1318 : decode cL_law 1318 = .ok (.laload, 1) := by decide +kernel
theorem dL_law_1319 : decode cL_law 1319 = .ok (.iload 6, 2) := by decide +kernel
theorem dL_law_1321 : decode cL_law 1321 = .ok (.i2l, 1) := by decide +kernel
theorem dL_law_1322 : decode cL_law 1322 = .ok (.lcmp, 1) := by decide +kernel
theorem dL_law_1323 : decode cL_law 1323 = .ok (.ifCond .eq 5, 3) := by decide +kernel
theorem dL_law_1326 : decode cL_law 1326 = .ok (.iconst 0, 1) := by decide +kernel
theorem dL_law_1327 : decode cL_law 1327 = .ok (.ireturn, 1) := by decide +kernel
theorem dL_law_1328 : decode cL_law 1328 = .ok (.goto 276, 3) := by decide +kernel
theorem dL_law_1331 : decode cL_law 1331 = .ok (.aload_n 1, 1) := by decide +kernel
theorem dL_law_1332 : decode cL_law 1332 = .ok (.aload_n 0, 1) := by decide +kernel
theorem dL_law_1333 : decode cL_law 1333 = .ok (.iload 4, 2) := by decide +kernel
theorem dL_law_1335 : decode cL_law 1335 = .ok (.iconst 1, 1) := by decide +kernel
theorem dL_law_1336 : decode cL_law 1336 = .ok (.iadd, 1) := by decide +kernel
theorem dL_law_1337 : decode cL_law 1337 = .ok (.iaload, 1) := by decide +kernel
theorem dL_law_1338 : decode cL_law 1338 = .ok (.aload_n 3, 1) := by decide +kernel
theorem dL_law_1339 : decode cL_law 1339 = .ok (.invokestatic 161, 3) := by decide +kernel
theorem dL_law_1342 : decode cL_law 1342 = .ok (.istore 5, 2) := by decide +kernel
theorem dL_law_1344 : decode cL_law 1344 = .ok (.aload_n 2, 1) := by decide +kernel
theorem dL_law_1345 : decode cL_law 1345 = .ok (.aload_n 0, 1) := by decide +kernel
theorem dL_law_1346 : decode cL_law 1346 = .ok (.iload 4, 2) := by decide +kernel
theorem dL_law_1348 : decode cL_law 1348 = .ok (.iconst 1, 1) := by decide +kernel
theorem dL_law_1349 : decode cL_law 1349 = .ok (.iadd, 1) := by decide +kernel
theorem dL_law_1350 : decode cL_law 1350 = .ok (.iaload, 1) := by decide +kernel
theorem dL_law_1351 : decode cL_law 1351 = .ok (.invokevirtual 163, 3) := by decide +kernel
theorem dL_law_1354 : decode cL_law 1354 = .ok (.istore 6, 2) := by decide +kernel
theorem dL_law_1356 : decode cL_law 1356 = .ok (.aload_n 2, 1) := by decide +kernel
theorem dL_law_1357 : decode cL_law 1357 = .ok (.invokevirtual 92, 3) := by decide +kernel
theorem dL_law_1360 : decode cL_law 1360 = .ok (.iload 5, 2) := by decide +kernel
theorem dL_law_1362 : decode cL_law 1362 = .ok (.if_icmp .eq 5, 3) := by decide +kernel
theorem dL_law_1365 : decode cL_law 1365 = .ok (.iconst 0, 1) := by decide +kernel
theorem dL_law_1366 : decode cL_law 1366 = .ok (.ireturn, 1) := by decide +kernel
theorem dL_law_1367 : decode cL_law 1367 = .ok (.iload 5, 2) := by decide +kernel
theorem dL_law_1369 : decode cL_law 1369 = .ok (.ifCond .ne 15, 3) := by decide +kernel
theorem dL_law_1372 : decode cL_law 1372 = .ok (.aload_n 3, 1) := by decide +kernel
theorem dL_law_1373 : decode cL_law 1373 = .ok (.iconst 0, 1) := by decide +kernel
theorem dL_law_1374 : decode cL_law 1374 = .ok (.laload, 1) := by decide +kernel
theorem dL_law_1375 : decode cL_law 1375 = .ok (.iload 6, 2) := by decide +kernel
theorem dL_law_1377 : decode cL_law 1377 = .ok (.i2l, 1) := by decide +kernel
theorem dL_law_1378 : decode cL_law 1378 = .ok (.lcmp, 1) := by decide +kernel
theorem dL_law_1379 : decode cL_law 1379 = .ok (.ifCond .eq 5, 3) := by decide +kernel
theorem dL_law_1382 : decode cL_law 1382 = .ok (.iconst 0, 1) := by decide +kernel
theorem dL_law_1383 : decode cL_law 1383 = .ok (.ireturn, 1) := by decide +kernel
theorem dL_law_1384 : decode cL_law 1384 = .ok (.goto 220, 3) := by decide +kernel
theorem dL_law_1387 : decode cL_law 1387 = .ok (.aload_n 1, 1) := by decide +kernel
theorem dL_law_1388 : decode cL_law 1388 = .ok (.invokevirtual 164, 3) := by decide +kernel
theorem dL_law_1391 : decode cL_law 1391 = .ok (.aload_n 2, 1) := by decide +kernel
theorem dL_law_1392 : decode cL_law 1392 = .ok (.invokevirtual 167, 3) := by decide +kernel
theorem dL_law_1395 : decode cL_law 1395 = .ok (.if_icmp .eq 209, 3) := by decide +kernel
theorem dL_law_1398 : decode cL_law 1398 = .ok (.iconst 0, 1) := by decide +kernel
theorem dL_law_1399 : decode cL_law 1399 = .ok (.ireturn, 1) := by decide +kernel
theorem dL_law_1400 : decode cL_law 1400 = .ok (.aload_n 1, 1) := by decide +kernel
theorem dL_law_1401 : decode cL_law 1401 = .ok (.aload_n 0, 1) := by decide +kernel
theorem dL_law_1402 : decode cL_law 1402 = .ok (.iload 4, 2) := by decide +kernel
theorem dL_law_1404 : decode cL_law 1404 = .ok (.iconst 1, 1) := by decide +kernel
theorem dL_law_1405 : decode cL_law 1405 = .ok (.iadd, 1) := by decide +kernel
theorem dL_law_1406 : decode cL_law 1406 = .ok (.iaload, 1) := by decide +kernel
theorem dL_law_1407 : decode cL_law 1407 = .ok (.aload_n 0, 1) := by decide +kernel
theorem dL_law_1408 : decode cL_law 1408 = .ok (.iload 4, 2) := by decide +kernel
theorem dL_law_1410 : decode cL_law 1410 = .ok (.iconst 2, 1) := by decide +kernel
theorem dL_law_1411 : decode cL_law 1411 = .ok (.iadd, 1) := by decide +kernel
theorem dL_law_1412 : decode cL_law 1412 = .ok (.iaload, 1) := by decide +kernel
theorem dL_law_1413 : decode cL_law 1413 = .ok (.aload_n 3, 1) := by decide +kernel
theorem dL_law_1414 : decode cL_law 1414 = .ok (.invokestatic 168, 3) := by decide +kernel
theorem dL_law_1417 : decode cL_law 1417 = .ok (.istore 5, 2) := by decide +kernel
theorem dL_law_1419 : decode cL_law 1419 = .ok (.aload_n 2, 1) := by decide +kernel
theorem dL_law_1420 : decode cL_law 1420 = .ok (.aload_n 0, 1) := by decide +kernel
theorem dL_law_1421 : decode cL_law 1421 = .ok (.iload 4, 2) := by decide +kernel
theorem dL_law_1423 : decode cL_law 1423 = .ok (.iconst 1, 1) := by decide +kernel
theorem dL_law_1424 : decode cL_law 1424 = .ok (.iadd, 1) := by decide +kernel
theorem dL_law_1425 : decode cL_law 1425 = .ok (.iaload, 1) := by decide +kernel
theorem dL_law_1426 : decode cL_law 1426 = .ok (.aload_n 0, 1) := by decide +kernel
theorem dL_law_1427 : decode cL_law 1427 = .ok (.iload 4, 2) := by decide +kernel
theorem dL_law_1429 : decode cL_law 1429 = .ok (.iconst 2, 1) := by decide +kernel
theorem dL_law_1430 : decode cL_law 1430 = .ok (.iadd, 1) := by decide +kernel
theorem dL_law_1431 : decode cL_law 1431 = .ok (.iaload, 1) := by decide +kernel
theorem dL_law_1432 : decode cL_law 1432 = .ok (.invokevirtual 170, 3) := by decide +kernel
theorem dL_law_1435 : decode cL_law 1435 = .ok (.istore 6, 2) := by decide +kernel
theorem dL_law_1437 : decode cL_law 1437 = .ok (.aload_n 2, 1) := by decide +kernel
theorem dL_law_1438 : decode cL_law 1438 = .ok (.invokevirtual 92, 3) := by decide +kernel
theorem dL_law_1441 : decode cL_law 1441 = .ok (.iload 5, 2) := by decide +kernel
theorem dL_law_1443 : decode cL_law 1443 = .ok (.if_icmp .eq 5, 3) := by decide +kernel
theorem dL_law_1446 : decode cL_law 1446 = .ok (.iconst 0, 1) := by decide +kernel
theorem dL_law_1447 : decode cL_law 1447 = .ok (.ireturn, 1) := by decide +kernel
theorem dL_law_1448 : decode cL_law 1448 = .ok (.iload 5, 2) := by decide +kernel
theorem dL_law_1450 : decode cL_law 1450 = .ok (.ifCond .ne 15, 3) := by decide +kernel
theorem dL_law_1453 : decode cL_law 1453 = .ok (.aload_n 3, 1) := by decide +kernel
theorem dL_law_1454 : decode cL_law 1454 = .ok (.iconst 0, 1) := by decide +kernel
theorem dL_law_1455 : decode cL_law 1455 = .ok (.laload, 1) := by decide +kernel
theorem dL_law_1456 : decode cL_law 1456 = .ok (.iload 6, 2) := by decide +kernel
theorem dL_law_1458 : decode cL_law 1458 = .ok (.i2l, 1) := by decide +kernel
theorem dL_law_1459 : decode cL_law 1459 = .ok (.lcmp, 1) := by decide +kernel
theorem dL_law_1460 : decode cL_law 1460 = .ok (.ifCond .eq 5, 3) := by decide +kernel
theorem dL_law_1463 : decode cL_law 1463 = .ok (.iconst 0, 1) := by decide +kernel
theorem dL_law_1464 : decode cL_law 1464 = .ok (.ireturn, 1) := by decide +kernel
theorem dL_law_1465 : decode cL_law 1465 = .ok (.goto 139, 3) := by decide +kernel
theorem dL_law_1468 : decode cL_law 1468 = .ok (.aload_n 1, 1) := by decide +kernel
theorem dL_law_1469 : decode cL_law 1469 = .ok (.aload_n 0, 1) := by decide +kernel
theorem dL_law_1470 : decode cL_law 1470 = .ok (.iload 4, 2) := by decide +kernel
theorem dL_law_1472 : decode cL_law 1472 = .ok (.iconst 1, 1) := by decide +kernel
theorem dL_law_1473 : decode cL_law 1473 = .ok (.iadd, 1) := by decide +kernel
theorem dL_law_1474 : decode cL_law 1474 = .ok (.iaload, 1) := by decide +kernel
theorem dL_law_1475 : decode cL_law 1475 = .ok (.invokevirtual 171, 3) := by decide +kernel
theorem dL_law_1478 : decode cL_law 1478 = .ok (.aload_n 2, 1) := by decide +kernel
theorem dL_law_1479 : decode cL_law 1479 = .ok (.aload_n 0, 1) := by decide +kernel
theorem dL_law_1480 : decode cL_law 1480 = .ok (.iload 4, 2) := by decide +kernel
theorem dL_law_1482 : decode cL_law 1482 = .ok (.iconst 1, 1) := by decide +kernel
theorem dL_law_1483 : decode cL_law 1483 = .ok (.iadd, 1) := by decide +kernel
theorem dL_law_1484 : decode cL_law 1484 = .ok (.iaload, 1) := by decide +kernel
theorem dL_law_1485 : decode cL_law 1485 = .ok (.invokevirtual 174, 3) := by decide +kernel
theorem dL_law_1488 : decode cL_law 1488 = .ok (.if_icmp .eq 116, 3) := by decide +kernel
theorem dL_law_1491 : decode cL_law 1491 = .ok (.iconst 0, 1) := by decide +kernel
theorem dL_law_1492 : decode cL_law 1492 = .ok (.ireturn, 1) := by decide +kernel
theorem dL_law_1493 : decode cL_law 1493 = .ok (.aload_n 1, 1) := by decide +kernel
theorem dL_law_1494 : decode cL_law 1494 = .ok (.aload_n 0, 1) := by decide +kernel
theorem dL_law_1495 : decode cL_law 1495 = .ok (.iload 4, 2) := by decide +kernel
theorem dL_law_1497 : decode cL_law 1497 = .ok (.iconst 1, 1) := by decide +kernel
theorem dL_law_1498 : decode cL_law 1498 = .ok (.iadd, 1) := by decide +kernel
theorem dL_law_1499 : decode cL_law 1499 = .ok (.iaload, 1) := by decide +kernel
theorem dL_law_1500 : decode cL_law 1500 = .ok (.aload_n 3, 1) := by decide +kernel
theorem dL_law_1501 : decode cL_law 1501 = .ok (.invokestatic 175, 3) := by decide +kernel
theorem dL_law_1504 : decode cL_law 1504 = .ok (.istore 5, 2) := by decide +kernel
theorem dL_law_1506 : decode cL_law 1506 = .ok (.aload_n 2, 1) := by decide +kernel
theorem dL_law_1507 : decode cL_law 1507 = .ok (.aload_n 0, 1) := by decide +kernel
theorem dL_law_1508 : decode cL_law 1508 = .ok (.iload 4, 2) := by decide +kernel
theorem dL_law_1510 : decode cL_law 1510 = .ok (.iconst 1, 1) := by decide +kernel
theorem dL_law_1511 : decode cL_law 1511 = .ok (.iadd, 1) := by decide +kernel
theorem dL_law_1512 : decode cL_law 1512 = .ok (.iaload, 1) := by decide +kernel
theorem dL_law_1513 : decode cL_law 1513 = .ok (.invokevirtual 177, 3) := by decide +kernel
theorem dL_law_1516 : decode cL_law 1516 = .ok (.istore 6, 2) := by decide +kernel
theorem dL_law_1518 : decode cL_law 1518 = .ok (.aload_n 2, 1) := by decide +kernel
theorem dL_law_1519 : decode cL_law 1519 = .ok (.invokevirtual 92, 3) := by decide +kernel
theorem dL_law_1522 : decode cL_law 1522 = .ok (.iload 5, 2) := by decide +kernel
theorem dL_law_1524 : decode cL_law 1524 = .ok (.if_icmp .eq 5, 3) := by decide +kernel
theorem dL_law_1527 : decode cL_law 1527 = .ok (.iconst 0, 1) := by decide +kernel
theorem dL_law_1528 : decode cL_law 1528 = .ok (.ireturn, 1) := by decide +kernel
theorem dL_law_1529 : decode cL_law 1529 = .ok (.iload 5, 2) := by decide +kernel
theorem dL_law_1531 : decode cL_law 1531 = .ok (.ifCond .ne 15, 3) := by decide +kernel
theorem dL_law_1534 : decode cL_law 1534 = .ok (.aload_n 3, 1) := by decide +kernel
theorem dL_law_1535 : decode cL_law 1535 = .ok (.iconst 0, 1) := by decide +kernel
theorem dL_law_1536 : decode cL_law 1536 = .ok (.laload, 1) := by decide +kernel
theorem dL_law_1537 : decode cL_law 1537 = .ok (.iload 6, 2) := by decide +kernel
theorem dL_law_1539 : decode cL_law 1539 = .ok (.i2l, 1) := by decide +kernel
theorem dL_law_1540 : decode cL_law 1540 = .ok (.lcmp, 1) := by decide +kernel
theorem dL_law_1541 : decode cL_law 1541 = .ok (.ifCond .eq 5, 3) := by decide +kernel
theorem dL_law_1544 : decode cL_law 1544 = .ok (.iconst 0, 1) := by decide +kernel
theorem dL_law_1545 : decode cL_law 1545 = .ok (.ireturn, 1) := by decide +kernel
theorem dL_law_1546 : decode cL_law 1546 = .ok (.goto 58, 3) := by decide +kernel
theorem dL_law_1549 : decode cL_law 1549 = .ok (.aload_n 1, 1) := by decide +kernel
theorem dL_law_1550 : decode cL_law 1550 = .ok (.invokevirtual 178, 3) := by decide +kernel
theorem dL_law_1553 : decode cL_law 1553 = .ok (.dstore 5, 2) := by decide +kernel
theorem dL_law_1555 : decode cL_law 1555 = .ok (.aload_n 2, 1) := by decide +kernel
theorem dL_law_1556 : decode cL_law 1556 = .ok (.invokevirtual 182, 3) := by decide +kernel
theorem dL_law_1559 : decode cL_law 1559 = .ok (.dstore 7, 2) := by decide +kernel
theorem dL_law_1561 : decode cL_law 1561 = .ok (.dload 5, 2) := by decide +kernel
theorem dL_law_1563 : decode cL_law 1563 = .ok (.dload 7, 2) := by decide +kernel
theorem dL_law_1565 : decode cL_law 1565 = .ok (.dcmp .l, 1) := by decide +kernel
theorem dL_law_1566 : decode cL_law 1566 = .ok (.ifCond .eq 21, 3) := by decide +kernel
theorem dL_law_1569 : decode cL_law 1569 = .ok (.dload 5, 2) := by decide +kernel
theorem dL_law_1571 : decode cL_law 1571 = .ok (.dload 5, 2) := by decide +kernel
theorem dL_law_1573 : decode cL_law 1573 = .ok (.dcmp .l, 1) := by decide +kernel
theorem dL_law_1574 : decode cL_law 1574 = .ok (.ifCond .eq 11, 3) := by decide +kernel
theorem dL_law_1577 : decode cL_law 1577 = .ok (.dload 7, 2) := by decide +kernel
theorem dL_law_1579 : decode cL_law 1579 = .ok (.dload 7, 2) := by decide +kernel
theorem dL_law_1581 : decode cL_law 1581 = .ok (.dcmp .l, 1) := by decide +kernel
theorem dL_law_1582 : decode cL_law 1582 = .ok (.ifCond .ne 5, 3) := by decide +kernel
theorem dL_law_1585 : decode cL_law 1585 = .ok (.iconst 0, 1) := by decide +kernel
theorem dL_law_1586 : decode cL_law 1586 = .ok (.ireturn, 1) := by decide +kernel
theorem dL_law_1587 : decode cL_law 1587 = .ok (.goto 17, 3) := by decide +kernel
theorem dL_law_1590 : decode cL_law 1590 = .ok (.aload_n 1, 1) := by decide +kernel
theorem dL_law_1591 : decode cL_law 1591 = .ok (.invokevirtual 183, 3) := by decide +kernel
theorem dL_law_1594 : decode cL_law 1594 = .ok (.aload_n 2, 1) := by decide +kernel
theorem dL_law_1595 : decode cL_law 1595 = .ok (.invokevirtual 187, 3) := by decide +kernel
theorem dL_law_1598 : decode cL_law 1598 = .ok (.lcmp, 1) := by decide +kernel
theorem dL_law_1599 : decode cL_law 1599 = .ok (.ifCond .eq 5, 3) := by decide +kernel
theorem dL_law_1602 : decode cL_law 1602 = .ok (.iconst 0, 1) := by decide +kernel
theorem dL_law_1603 : decode cL_law 1603 = .ok (.ireturn, 1) := by decide +kernel
theorem dL_law_1604 : decode cL_law 1604 = .ok (.iinc 4 4, 3) := by decide +kernel
theorem dL_law_1607 : decode cL_law 1607 = .ok (.goto (-1584), 3) := by decide +kernel
theorem dL_law_1610 : decode cL_law 1610 = .ok (.iconst 1, 1) := by decide +kernel
theorem dL_law_1611 : decode cL_law 1611 = .ok (.ireturn, 1) := by decide +kernel
