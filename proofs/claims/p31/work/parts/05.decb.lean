theorem dX4_numberOrNone_0 : decode cX4_numberOrNone 0 = .ok (.aload_n 0, 1) := by decide +kernel
theorem dX4_numberOrNone_1 : decode cX4_numberOrNone 1 = .ok (.ifnonnull 7, 3) := by decide +kernel
theorem dX4_numberOrNone_4 : decode cX4_numberOrNone 4 = .ok (.iconst (-1), 1) := by decide +kernel
theorem dX4_numberOrNone_5 : decode cX4_numberOrNone 5 = .ok (.goto 7, 3) := by decide +kernel
theorem dX4_numberOrNone_8 : decode cX4_numberOrNone 8 = .ok (.aload_n 0, 1) := by decide +kernel
theorem dX4_numberOrNone_9 : decode cX4_numberOrNone 9 = .ok (.getfield 269, 3) := by decide +kernel
theorem dX4_numberOrNone_12 : decode cX4_numberOrNone 12 = .ok (.ireturn, 1) := by decide +kernel
theorem dX4_numberOfMill_0 : decode cX4_numberOfMill 0 = .ok (.iload_n 2, 1) := by decide +kernel
theorem dX4_numberOfMill_1 : decode cX4_numberOfMill 1 = .ok (.tableswitch 123 0 9 #[55, 60, 65, 70, 75, 80, 85, 90, 95, 118], 55) := by decide +kernel
theorem dX4_numberOfMill_56 : decode cX4_numberOfMill 56 = .ok (.aload_n 1, 1) := by decide +kernel
theorem dX4_numberOfMill_57 : decode cX4_numberOfMill 57 = .ok (.getfield 69, 3) := by decide +kernel
theorem dX4_numberOfMill_60 : decode cX4_numberOfMill 60 = .ok (.ireturn, 1) := by decide +kernel
theorem dX4_numberOfMill_61 : decode cX4_numberOfMill 61 = .ok (.aload_n 1, 1) := by decide +kernel
theorem dX4_numberOfMill_62 : decode cX4_numberOfMill 62 = .ok (.getfield 56, 3) := by decide +kernel
theorem dX4_numberOfMill_65 : decode cX4_numberOfMill 65 = .ok (.ireturn, 1) := by decide +kernel
theorem dX4_numberOfMill_66 : decode cX4_numberOfMill 66 = .ok (.aload_n 1, 1) := by decide +kernel
theorem dX4_numberOfMill_67 : decode cX4_numberOfMill 67 = .ok (.getfield 72, 3) := by decide +kernel
theorem dX4_numberOfMill_70 : decode cX4_numberOfMill 70 = .ok (.ireturn, 1) := by decide +kernel
theorem dX4_numberOfMill_71 : decode cX4_numberOfMill 71 = .ok (.aload_n 1, 1) := by decide +kernel
theorem dX4_numberOfMill_72 : decode cX4_numberOfMill 72 = .ok (.getfield 78, 3) := by decide +kernel
theorem dX4_numberOfMill_75 : decode cX4_numberOfMill 75 = .ok (.ireturn, 1) := by decide +kernel
theorem dX4_numberOfMill_76 : decode cX4_numberOfMill 76 = .ok (.aload_n 1, 1) := by decide +kernel
theorem dX4_numberOfMill_77 : decode cX4_numberOfMill 77 = .ok (.getfield 75, 3) := by decide +kernel
theorem dX4_numberOfMill_80 : decode cX4_numberOfMill 80 = .ok (.ireturn, 1) := by decide +kernel
theorem dX4_numberOfMill_81 : decode cX4_numberOfMill 81 = .ok (.aload_n 1, 1) := by decide +kernel
theorem dX4_numberOfMill_82 : decode cX4_numberOfMill 82 = .ok (.getfield 81, 3) := by decide +kernel
theorem dX4_numberOfMill_85 : decode cX4_numberOfMill 85 = .ok (.ireturn, 1) := by decide +kernel
theorem dX4_numberOfMill_86 : decode cX4_numberOfMill 86 = .ok (.aload_n 1, 1) := by decide +kernel
theorem dX4_numberOfMill_87 : decode cX4_numberOfMill 87 = .ok (.getfield 84, 3) := by decide +kernel
theorem dX4_numberOfMill_90 : decode cX4_numberOfMill 90 = .ok (.ireturn, 1) := by decide +kernel
theorem dX4_numberOfMill_91 : decode cX4_numberOfMill 91 = .ok (.aload_n 1, 1) := by decide +kernel
theorem dX4_numberOfMill_92 : decode cX4_numberOfMill 92 = .ok (.getfield 129, 3) := by decide +kernel
theorem dX4_numberOfMill_95 : decode cX4_numberOfMill 95 = .ok (.ireturn, 1) := by decide +kernel
theorem dX4_numberOfMill_96 : decode cX4_numberOfMill 96 = .ok (.aload_n 1, 1) := by decide +kernel
theorem dX4_numberOfMill_97 : decode cX4_numberOfMill 97 = .ok (.aload_n 0, 1) := by decide +kernel
theorem dX4_numberOfMill_98 : decode cX4_numberOfMill 98 = .ok (.getfield 10, 3) := by decide +kernel
theorem dX4_numberOfMill_101 : decode cX4_numberOfMill 101 = .ok (.aload_n 0, 1) := by decide +kernel
theorem dX4_numberOfMill_102 : decode cX4_numberOfMill 102 = .ok (.getfield 10, 3) := by decide +kernel
theorem dX4_numberOfMill_105 : decode cX4_numberOfMill 105 = .ok (.getfield 184, 3) := by decide +kernel
theorem dX4_numberOfMill_108 : decode cX4_numberOfMill 108 = .ok (.invokevirtual 207, 3) := by decide +kernel
theorem dX4_numberOfMill_111 : decode cX4_numberOfMill 111 = .ok (.invokevirtual 286, 3) := by decide +kernel
theorem dX4_numberOfMill_114 : decode cX4_numberOfMill 114 = .ok (.sipush 1000, 3) := by decide +kernel
theorem dX4_numberOfMill_117 : decode cX4_numberOfMill 117 = .ok (.iadd, 1) := by decide +kernel
theorem dX4_numberOfMill_118 : decode cX4_numberOfMill 118 = .ok (.ireturn, 1) := by decide +kernel
theorem dX4_numberOfMill_119 : decode cX4_numberOfMill 119 = .ok (.aload_n 1, 1) := by decide +kernel
theorem dX4_numberOfMill_120 : decode cX4_numberOfMill 120 = .ok (.getfield 289, 3) := by decide +kernel
theorem dX4_numberOfMill_123 : decode cX4_numberOfMill 123 = .ok (.ireturn, 1) := by decide +kernel
theorem dX4_numberOfMill_124 : decode cX4_numberOfMill 124 = .ok (.aload_n 1, 1) := by decide +kernel
theorem dX4_numberOfMill_125 : decode cX4_numberOfMill 125 = .ok (.getfield 292, 3) := by decide +kernel
theorem dX4_numberOfMill_128 : decode cX4_numberOfMill 128 = .ok (.ireturn, 1) := by decide +kernel
theorem dX4_numberOfSack_0 : decode cX4_numberOfSack 0 = .ok (.iload_n 2, 1) := by decide +kernel
theorem dX4_numberOfSack_1 : decode cX4_numberOfSack 1 = .ok (.tableswitch 54 0 3 #[31, 36, 42, 48], 31) := by decide +kernel
theorem dX4_numberOfSack_32 : decode cX4_numberOfSack 32 = .ok (.aload_n 0, 1) := by decide +kernel
theorem dX4_numberOfSack_33 : decode cX4_numberOfSack 33 = .ok (.getfield 269, 3) := by decide +kernel
theorem dX4_numberOfSack_36 : decode cX4_numberOfSack 36 = .ok (.ireturn, 1) := by decide +kernel
theorem dX4_numberOfSack_37 : decode cX4_numberOfSack 37 = .ok (.aload_n 0, 1) := by decide +kernel
theorem dX4_numberOfSack_38 : decode cX4_numberOfSack 38 = .ok (.iload_n 1, 1) := by decide +kernel
theorem dX4_numberOfSack_39 : decode cX4_numberOfSack 39 = .ok (.invokevirtual 135, 3) := by decide +kernel
theorem dX4_numberOfSack_42 : decode cX4_numberOfSack 42 = .ok (.ireturn, 1) := by decide +kernel
theorem dX4_numberOfSack_43 : decode cX4_numberOfSack 43 = .ok (.aload_n 0, 1) := by decide +kernel
theorem dX4_numberOfSack_44 : decode cX4_numberOfSack 44 = .ok (.iload_n 1, 1) := by decide +kernel
theorem dX4_numberOfSack_45 : decode cX4_numberOfSack 45 = .ok (.invokevirtual 138, 3) := by decide +kernel
theorem dX4_numberOfSack_48 : decode cX4_numberOfSack 48 = .ok (.ireturn, 1) := by decide +kernel
theorem dX4_numberOfSack_49 : decode cX4_numberOfSack 49 = .ok (.aload_n 0, 1) := by decide +kernel
theorem dX4_numberOfSack_50 : decode cX4_numberOfSack 50 = .ok (.iload_n 1, 1) := by decide +kernel
theorem dX4_numberOfSack_51 : decode cX4_numberOfSack 51 = .ok (.invokevirtual 141, 3) := by decide +kernel
theorem dX4_numberOfSack_54 : decode cX4_numberOfSack 54 = .ok (.ireturn, 1) := by decide +kernel
theorem dX4_numberOfSack_55 : decode cX4_numberOfSack 55 = .ok (.iload_n 1, 1) := by decide +kernel
theorem dX4_numberOfSack_56 : decode cX4_numberOfSack 56 = .ok (.ireturn, 1) := by decide +kernel
theorem dX4_numberOfAll_0 : decode cX4_numberOfAll 0 = .ok (.iload_n 1, 1) := by decide +kernel
theorem dX4_numberOfAll_1 : decode cX4_numberOfAll 1 = .ok (.tableswitch 171 0 14 #[75, 83, 91, 99, 107, 115, 123, 131, 139, 147, 155, 171, 171, 171, 163], 75) := by decide +kernel
theorem dX4_numberOfAll_76 : decode cX4_numberOfAll 76 = .ok (.aload_n 0, 1) := by decide +kernel
theorem dX4_numberOfAll_77 : decode cX4_numberOfAll 77 = .ok (.getfield 10, 3) := by decide +kernel
theorem dX4_numberOfAll_80 : decode cX4_numberOfAll 80 = .ok (.getfield 184, 3) := by decide +kernel
theorem dX4_numberOfAll_83 : decode cX4_numberOfAll 83 = .ok (.ireturn, 1) := by decide +kernel
theorem dX4_numberOfAll_84 : decode cX4_numberOfAll 84 = .ok (.aload_n 0, 1) := by decide +kernel
theorem dX4_numberOfAll_85 : decode cX4_numberOfAll 85 = .ok (.getfield 10, 3) := by decide +kernel
theorem dX4_numberOfAll_88 : decode cX4_numberOfAll 88 = .ok (.getfield 293, 3) := by decide +kernel
theorem dX4_numberOfAll_91 : decode cX4_numberOfAll 91 = .ok (.ireturn, 1) := by decide +kernel
theorem dX4_numberOfAll_92 : decode cX4_numberOfAll 92 = .ok (.aload_n 0, 1) := by decide +kernel
theorem dX4_numberOfAll_93 : decode cX4_numberOfAll 93 = .ok (.getfield 10, 3) := by decide +kernel
theorem dX4_numberOfAll_96 : decode cX4_numberOfAll 96 = .ok (.getfield 296, 3) := by decide +kernel
theorem dX4_numberOfAll_99 : decode cX4_numberOfAll 99 = .ok (.ireturn, 1) := by decide +kernel
theorem dX4_numberOfAll_100 : decode cX4_numberOfAll 100 = .ok (.aload_n 0, 1) := by decide +kernel
theorem dX4_numberOfAll_101 : decode cX4_numberOfAll 101 = .ok (.getfield 10, 3) := by decide +kernel
theorem dX4_numberOfAll_104 : decode cX4_numberOfAll 104 = .ok (.getfield 299, 3) := by decide +kernel
theorem dX4_numberOfAll_107 : decode cX4_numberOfAll 107 = .ok (.ireturn, 1) := by decide +kernel
theorem dX4_numberOfAll_108 : decode cX4_numberOfAll 108 = .ok (.aload_n 0, 1) := by decide +kernel
theorem dX4_numberOfAll_109 : decode cX4_numberOfAll 109 = .ok (.getfield 10, 3) := by decide +kernel
theorem dX4_numberOfAll_112 : decode cX4_numberOfAll 112 = .ok (.getfield 302, 3) := by decide +kernel
theorem dX4_numberOfAll_115 : decode cX4_numberOfAll 115 = .ok (.ireturn, 1) := by decide +kernel
theorem dX4_numberOfAll_116 : decode cX4_numberOfAll 116 = .ok (.aload_n 0, 1) := by decide +kernel
theorem dX4_numberOfAll_117 : decode cX4_numberOfAll 117 = .ok (.getfield 10, 3) := by decide +kernel
theorem dX4_numberOfAll_120 : decode cX4_numberOfAll 120 = .ok (.invokevirtual 305, 3) := by decide +kernel
theorem dX4_numberOfAll_123 : decode cX4_numberOfAll 123 = .ok (.ireturn, 1) := by decide +kernel
theorem dX4_numberOfAll_124 : decode cX4_numberOfAll 124 = .ok (.aload_n 0, 1) := by decide +kernel
theorem dX4_numberOfAll_125 : decode cX4_numberOfAll 125 = .ok (.getfield 10, 3) := by decide +kernel
theorem dX4_numberOfAll_128 : decode cX4_numberOfAll 128 = .ok (.getfield 308, 3) := by decide +kernel
theorem dX4_numberOfAll_131 : decode cX4_numberOfAll 131 = .ok (.ireturn, 1) := by decide +kernel
theorem dX4_numberOfAll_132 : decode cX4_numberOfAll 132 = .ok (.aload_n 0, 1) := by decide +kernel
theorem dX4_numberOfAll_133 : decode cX4_numberOfAll 133 = .ok (.getfield 10, 3) := by decide +kernel
theorem dX4_numberOfAll_136 : decode cX4_numberOfAll 136 = .ok (.invokevirtual 311, 3) := by decide +kernel
theorem dX4_numberOfAll_139 : decode cX4_numberOfAll 139 = .ok (.ireturn, 1) := by decide +kernel
theorem dX4_numberOfAll_140 : decode cX4_numberOfAll 140 = .ok (.aload_n 0, 1) := by decide +kernel
theorem dX4_numberOfAll_141 : decode cX4_numberOfAll 141 = .ok (.getfield 10, 3) := by decide +kernel
theorem dX4_numberOfAll_144 : decode cX4_numberOfAll 144 = .ok (.getfield 111, 3) := by decide +kernel
theorem dX4_numberOfAll_147 : decode cX4_numberOfAll 147 = .ok (.ireturn, 1) := by decide +kernel
theorem dX4_numberOfAll_148 : decode cX4_numberOfAll 148 = .ok (.aload_n 0, 1) := by decide +kernel
theorem dX4_numberOfAll_149 : decode cX4_numberOfAll 149 = .ok (.getfield 10, 3) := by decide +kernel
theorem dX4_numberOfAll_152 : decode cX4_numberOfAll 152 = .ok (.getfield 314, 3) := by decide +kernel
theorem dX4_numberOfAll_155 : decode cX4_numberOfAll 155 = .ok (.ireturn, 1) := by decide +kernel
theorem dX4_numberOfAll_156 : decode cX4_numberOfAll 156 = .ok (.aload_n 0, 1) := by decide +kernel
theorem dX4_numberOfAll_157 : decode cX4_numberOfAll 157 = .ok (.getfield 10, 3) := by decide +kernel
theorem dX4_numberOfAll_160 : decode cX4_numberOfAll 160 = .ok (.getfield 151, 3) := by decide +kernel
theorem dX4_numberOfAll_163 : decode cX4_numberOfAll 163 = .ok (.ireturn, 1) := by decide +kernel
theorem dX4_numberOfAll_164 : decode cX4_numberOfAll 164 = .ok (.aload_n 0, 1) := by decide +kernel
theorem dX4_numberOfAll_165 : decode cX4_numberOfAll 165 = .ok (.getfield 29, 3) := by decide +kernel
theorem dX4_numberOfAll_168 : decode cX4_numberOfAll 168 = .ok (.getfield 175, 3) := by decide +kernel
theorem dX4_numberOfAll_171 : decode cX4_numberOfAll 171 = .ok (.ireturn, 1) := by decide +kernel
theorem dX4_numberOfAll_172 : decode cX4_numberOfAll 172 = .ok (.aload_n 0, 1) := by decide +kernel
theorem dX4_numberOfAll_173 : decode cX4_numberOfAll 173 = .ok (.getfield 10, 3) := by decide +kernel
theorem dX4_numberOfAll_176 : decode cX4_numberOfAll 176 = .ok (.iload_n 1, 1) := by decide +kernel
theorem dX4_numberOfAll_177 : decode cX4_numberOfAll 177 = .ok (.bipush 11, 2) := by decide +kernel
theorem dX4_numberOfAll_179 : decode cX4_numberOfAll 179 = .ok (.isub, 1) := by decide +kernel
theorem dX4_numberOfAll_180 : decode cX4_numberOfAll 180 = .ok (.invokevirtual 104, 3) := by decide +kernel
theorem dX4_numberOfAll_183 : decode cX4_numberOfAll 183 = .ok (.ireturn, 1) := by decide +kernel
theorem dX4_millOfRank_0 : decode cX4_millOfRank 0 = .ok (.iload_n 1, 1) := by decide +kernel
theorem dX4_millOfRank_1 : decode cX4_millOfRank 1 = .ok (.iconst 5, 1) := by decide +kernel
theorem dX4_millOfRank_2 : decode cX4_millOfRank 2 = .ok (.if_icmp .lt 5, 3) := by decide +kernel
theorem dX4_millOfRank_5 : decode cX4_millOfRank 5 = .ok (.iconst (-1), 1) := by decide +kernel
theorem dX4_millOfRank_6 : decode cX4_millOfRank 6 = .ok (.ireturn, 1) := by decide +kernel
theorem dX4_millOfRank_7 : decode cX4_millOfRank 7 = .ok (.aload_n 0, 1) := by decide +kernel
theorem dX4_millOfRank_8 : decode cX4_millOfRank 8 = .ok (.getfield 10, 3) := by decide +kernel
theorem dX4_millOfRank_11 : decode cX4_millOfRank 11 = .ok (.aconst_null, 1) := by decide +kernel
theorem dX4_millOfRank_12 : decode cX4_millOfRank 12 = .ok (.invokevirtual 317, 3) := by decide +kernel
theorem dX4_millOfRank_15 : decode cX4_millOfRank 15 = .ok (.astore_n 2, 1) := by decide +kernel
theorem dX4_millOfRank_16 : decode cX4_millOfRank 16 = .ok (.iconst 0, 1) := by decide +kernel
theorem dX4_millOfRank_17 : decode cX4_millOfRank 17 = .ok (.istore_n 3, 1) := by decide +kernel
theorem dX4_millOfRank_18 : decode cX4_millOfRank 18 = .ok (.iload_n 3, 1) := by decide +kernel
theorem dX4_millOfRank_19 : decode cX4_millOfRank 19 = .ok (.iload_n 1, 1) := by decide +kernel
theorem dX4_millOfRank_20 : decode cX4_millOfRank 20 = .ok (.if_icmp .ge 22, 3) := by decide +kernel
theorem dX4_millOfRank_23 : decode cX4_millOfRank 23 = .ok (.aload_n 2, 1) := by decide +kernel
theorem dX4_millOfRank_24 : decode cX4_millOfRank 24 = .ok (.ifnull 18, 3) := by decide +kernel
theorem dX4_millOfRank_27 : decode cX4_millOfRank 27 = .ok (.aload_n 0, 1) := by decide +kernel
theorem dX4_millOfRank_28 : decode cX4_millOfRank 28 = .ok (.getfield 10, 3) := by decide +kernel
theorem dX4_millOfRank_31 : decode cX4_millOfRank 31 = .ok (.aload_n 2, 1) := by decide +kernel
theorem dX4_millOfRank_32 : decode cX4_millOfRank 32 = .ok (.invokevirtual 317, 3) := by decide +kernel
theorem dX4_millOfRank_35 : decode cX4_millOfRank 35 = .ok (.astore_n 2, 1) := by decide +kernel
theorem dX4_millOfRank_36 : decode cX4_millOfRank 36 = .ok (.iinc 3 1, 3) := by decide +kernel
theorem dX4_millOfRank_39 : decode cX4_millOfRank 39 = .ok (.goto (-21), 3) := by decide +kernel
theorem dX4_millOfRank_42 : decode cX4_millOfRank 42 = .ok (.aload_n 2, 1) := by decide +kernel
theorem dX4_millOfRank_43 : decode cX4_millOfRank 43 = .ok (.invokestatic 220, 3) := by decide +kernel
theorem dX4_millOfRank_46 : decode cX4_millOfRank 46 = .ok (.ireturn, 1) := by decide +kernel
theorem dX4_foreseen_0 : decode cX4_foreseen 0 = .ok (.aload_n 0, 1) := by decide +kernel
theorem dX4_foreseen_1 : decode cX4_foreseen 1 = .ok (.getfield 16, 3) := by decide +kernel
theorem dX4_foreseen_4 : decode cX4_foreseen 4 = .ok (.aload_n 0, 1) := by decide +kernel
theorem dX4_foreseen_5 : decode cX4_foreseen 5 = .ok (.getfield 10, 3) := by decide +kernel
theorem dX4_foreseen_8 : decode cX4_foreseen 8 = .ok (.invokevirtual 181, 3) := by decide +kernel
theorem dX4_foreseen_11 : decode cX4_foreseen 11 = .ok (.aload_n 0, 1) := by decide +kernel
theorem dX4_foreseen_12 : decode cX4_foreseen 12 = .ok (.getfield 16, 3) := by decide +kernel
theorem dX4_foreseen_15 : decode cX4_foreseen 15 = .ok (.iload_n 1, 1) := by decide +kernel
theorem dX4_foreseen_16 : decode cX4_foreseen 16 = .ok (.invokevirtual 114, 3) := by decide +kernel
theorem dX4_foreseen_19 : decode cX4_foreseen 19 = .ok (.iload_n 2, 1) := by decide +kernel
theorem dX4_foreseen_20 : decode cX4_foreseen 20 = .ok (.tableswitch 76 0 2 #[28, 44, 60], 28) := by decide +kernel
theorem dX4_foreseen_48 : decode cX4_foreseen 48 = .ok (.aload_n 0, 1) := by decide +kernel
theorem dX4_foreseen_49 : decode cX4_foreseen 49 = .ok (.getfield 16, 3) := by decide +kernel
theorem dX4_foreseen_52 : decode cX4_foreseen 52 = .ok (.getfield 111, 3) := by decide +kernel
theorem dX4_foreseen_55 : decode cX4_foreseen 55 = .ok (.aload_n 0, 1) := by decide +kernel
theorem dX4_foreseen_56 : decode cX4_foreseen 56 = .ok (.getfield 10, 3) := by decide +kernel
theorem dX4_foreseen_59 : decode cX4_foreseen 59 = .ok (.getfield 111, 3) := by decide +kernel
theorem dX4_foreseen_62 : decode cX4_foreseen 62 = .ok (.isub, 1) := by decide +kernel
theorem dX4_foreseen_63 : decode cX4_foreseen 63 = .ok (.ireturn, 1) := by decide +kernel
theorem dX4_foreseen_64 : decode cX4_foreseen 64 = .ok (.aload_n 0, 1) := by decide +kernel
theorem dX4_foreseen_65 : decode cX4_foreseen 65 = .ok (.getfield 16, 3) := by decide +kernel
theorem dX4_foreseen_68 : decode cX4_foreseen 68 = .ok (.getfield 314, 3) := by decide +kernel
theorem dX4_foreseen_71 : decode cX4_foreseen 71 = .ok (.aload_n 0, 1) := by decide +kernel
theorem dX4_foreseen_72 : decode cX4_foreseen 72 = .ok (.getfield 10, 3) := by decide +kernel
theorem dX4_foreseen_75 : decode cX4_foreseen 75 = .ok (.getfield 314, 3) := by decide +kernel
theorem dX4_foreseen_78 : decode cX4_foreseen 78 = .ok (.isub, 1) := by decide +kernel
theorem dX4_foreseen_79 : decode cX4_foreseen 79 = .ok (.ireturn, 1) := by decide +kernel
theorem dX4_foreseen_80 : decode cX4_foreseen 80 = .ok (.aload_n 0, 1) := by decide +kernel
theorem dX4_foreseen_81 : decode cX4_foreseen 81 = .ok (.getfield 16, 3) := by decide +kernel
theorem dX4_foreseen_84 : decode cX4_foreseen 84 = .ok (.getfield 296, 3) := by decide +kernel
theorem dX4_foreseen_87 : decode cX4_foreseen 87 = .ok (.aload_n 0, 1) := by decide +kernel
theorem dX4_foreseen_88 : decode cX4_foreseen 88 = .ok (.getfield 10, 3) := by decide +kernel
theorem dX4_foreseen_91 : decode cX4_foreseen 91 = .ok (.getfield 296, 3) := by decide +kernel
theorem dX4_foreseen_94 : decode cX4_foreseen 94 = .ok (.isub, 1) := by decide +kernel
theorem dX4_foreseen_95 : decode cX4_foreseen 95 = .ok (.ireturn, 1) := by decide +kernel
theorem dX4_foreseen_96 : decode cX4_foreseen 96 = .ok (.aload_n 0, 1) := by decide +kernel
theorem dX4_foreseen_97 : decode cX4_foreseen 97 = .ok (.getfield 16, 3) := by decide +kernel
theorem dX4_foreseen_100 : decode cX4_foreseen 100 = .ok (.getfield 302, 3) := by decide +kernel
theorem dX4_foreseen_103 : decode cX4_foreseen 103 = .ok (.aload_n 0, 1) := by decide +kernel
theorem dX4_foreseen_104 : decode cX4_foreseen 104 = .ok (.getfield 10, 3) := by decide +kernel
theorem dX4_foreseen_107 : decode cX4_foreseen 107 = .ok (.getfield 302, 3) := by decide +kernel
theorem dX4_foreseen_110 : decode cX4_foreseen 110 = .ok (.isub, 1) := by decide +kernel
theorem dX4_foreseen_111 : decode cX4_foreseen 111 = .ok (.ireturn, 1) := by decide +kernel
theorem dX4_hoursToGround_0 : decode cX4_hoursToGround 0 = .ok (.aload_n 0, 1) := by decide +kernel
theorem dX4_hoursToGround_1 : decode cX4_hoursToGround 1 = .ok (.getfield 16, 3) := by decide +kernel
theorem dX4_hoursToGround_4 : decode cX4_hoursToGround 4 = .ok (.aload_n 0, 1) := by decide +kernel
theorem dX4_hoursToGround_5 : decode cX4_hoursToGround 5 = .ok (.getfield 10, 3) := by decide +kernel
theorem dX4_hoursToGround_8 : decode cX4_hoursToGround 8 = .ok (.invokevirtual 181, 3) := by decide +kernel
theorem dX4_hoursToGround_11 : decode cX4_hoursToGround 11 = .ok (.aload_n 0, 1) := by decide +kernel
theorem dX4_hoursToGround_12 : decode cX4_hoursToGround 12 = .ok (.getfield 16, 3) := by decide +kernel
theorem dX4_hoursToGround_15 : decode cX4_hoursToGround 15 = .ok (.iload_n 1, 1) := by decide +kernel
theorem dX4_hoursToGround_16 : decode cX4_hoursToGround 16 = .ok (.invokevirtual 197, 3) := by decide +kernel
theorem dX4_hoursToGround_19 : decode cX4_hoursToGround 19 = .ok (.astore_n 2, 1) := by decide +kernel
theorem dX4_hoursToGround_20 : decode cX4_hoursToGround 20 = .ok (.aload_n 2, 1) := by decide +kernel
theorem dX4_hoursToGround_21 : decode cX4_hoursToGround 21 = .ok (.ifnonnull 5, 3) := by decide +kernel
theorem dX4_hoursToGround_24 : decode cX4_hoursToGround 24 = .ok (.iconst (-1), 1) := by decide +kernel
theorem dX4_hoursToGround_25 : decode cX4_hoursToGround 25 = .ok (.ireturn, 1) := by decide +kernel
theorem dX4_hoursToGround_26 : decode cX4_hoursToGround 26 = .ok (.iconst 1, 1) := by decide +kernel
theorem dX4_hoursToGround_27 : decode cX4_hoursToGround 27 = .ok (.istore_n 3, 1) := by decide +kernel
theorem dX4_hoursToGround_28 : decode cX4_hoursToGround 28 = .ok (.iload_n 3, 1) := by decide +kernel
theorem dX4_hoursToGround_29 : decode cX4_hoursToGround 29 = .ok (.sipush 200, 3) := by decide +kernel
theorem dX4_hoursToGround_32 : decode cX4_hoursToGround 32 = .ok (.if_icmp .gt 28, 3) := by decide +kernel
theorem dX4_hoursToGround_35 : decode cX4_hoursToGround 35 = .ok (.aload_n 0, 1) := by decide +kernel
theorem dX4_hoursToGround_36 : decode cX4_hoursToGround 36 = .ok (.getfield 16, 3) := by decide +kernel
theorem dX4_hoursToGround_39 : decode cX4_hoursToGround 39 = .ok (.iconst 1, 1) := by decide +kernel
theorem dX4_hoursToGround_40 : decode cX4_hoursToGround 40 = .ok (.invokevirtual 114, 3) := by decide +kernel
theorem dX4_hoursToGround_43 : decode cX4_hoursToGround 43 = .ok (.aload_n 2, 1) := by decide +kernel
theorem dX4_hoursToGround_44 : decode cX4_hoursToGround 44 = .ok (.iload_n 1, 1) := by decide +kernel
theorem dX4_hoursToGround_45 : decode cX4_hoursToGround 45 = .ok (.invokevirtual 132, 3) := by decide +kernel
theorem dX4_hoursToGround_48 : decode cX4_hoursToGround 48 = .ok (.iconst (-1), 1) := by decide +kernel
theorem dX4_hoursToGround_49 : decode cX4_hoursToGround 49 = .ok (.if_icmp .ne 5, 3) := by decide +kernel
theorem dX4_hoursToGround_52 : decode cX4_hoursToGround 52 = .ok (.iload_n 3, 1) := by decide +kernel
theorem dX4_hoursToGround_53 : decode cX4_hoursToGround 53 = .ok (.ireturn, 1) := by decide +kernel
theorem dX4_hoursToGround_54 : decode cX4_hoursToGround 54 = .ok (.iinc 3 1, 3) := by decide +kernel
theorem dX4_hoursToGround_57 : decode cX4_hoursToGround 57 = .ok (.goto (-29), 3) := by decide +kernel
theorem dX4_hoursToGround_60 : decode cX4_hoursToGround 60 = .ok (.iconst (-1), 1) := by decide +kernel
theorem dX4_hoursToGround_61 : decode cX4_hoursToGround 61 = .ok (.ireturn, 1) := by decide +kernel
theorem dX4_stoneThatGrindsMost_0 : decode cX4_stoneThatGrindsMost 0 = .ok (.aload_n 1, 1) := by decide +kernel
theorem dX4_stoneThatGrindsMost_1 : decode cX4_stoneThatGrindsMost 1 = .ok (.getfield 129, 3) := by decide +kernel
theorem dX4_stoneThatGrindsMost_4 : decode cX4_stoneThatGrindsMost 4 = .ok (.ifCond .ne 6, 3) := by decide +kernel
theorem dX4_stoneThatGrindsMost_7 : decode cX4_stoneThatGrindsMost 7 = .ok (.bipush 60, 2) := by decide +kernel
theorem dX4_stoneThatGrindsMost_9 : decode cX4_stoneThatGrindsMost 9 = .ok (.ireturn, 1) := by decide +kernel
theorem dX4_stoneThatGrindsMost_10 : decode cX4_stoneThatGrindsMost 10 = .ok (.bipush 60, 2) := by decide +kernel
theorem dX4_stoneThatGrindsMost_12 : decode cX4_stoneThatGrindsMost 12 = .ok (.istore_n 2, 1) := by decide +kernel
theorem dX4_stoneThatGrindsMost_13 : decode cX4_stoneThatGrindsMost 13 = .ok (.iconst (-1), 1) := by decide +kernel
theorem dX4_stoneThatGrindsMost_14 : decode cX4_stoneThatGrindsMost 14 = .ok (.istore_n 3, 1) := by decide +kernel
theorem dX4_stoneThatGrindsMost_15 : decode cX4_stoneThatGrindsMost 15 = .ok (.aload_n 0, 1) := by decide +kernel
theorem dX4_stoneThatGrindsMost_16 : decode cX4_stoneThatGrindsMost 16 = .ok (.getfield 10, 3) := by decide +kernel
theorem dX4_stoneThatGrindsMost_19 : decode cX4_stoneThatGrindsMost 19 = .ok (.invokevirtual 321, 3) := by decide +kernel
theorem dX4_stoneThatGrindsMost_22 : decode cX4_stoneThatGrindsMost 22 = .ok (.istore 4, 2) := by decide +kernel
theorem dX4_stoneThatGrindsMost_24 : decode cX4_stoneThatGrindsMost 24 = .ok (.bipush 60, 2) := by decide +kernel
theorem dX4_stoneThatGrindsMost_26 : decode cX4_stoneThatGrindsMost 26 = .ok (.istore 5, 2) := by decide +kernel
theorem dX4_stoneThatGrindsMost_28 : decode cX4_stoneThatGrindsMost 28 = .ok (.iload 5, 2) := by decide +kernel
theorem dX4_stoneThatGrindsMost_30 : decode cX4_stoneThatGrindsMost 30 = .ok (.bipush 8, 2) := by decide +kernel
theorem dX4_stoneThatGrindsMost_32 : decode cX4_stoneThatGrindsMost 32 = .ok (.if_icmp .lt 66, 3) := by decide +kernel
theorem dX4_stoneThatGrindsMost_35 : decode cX4_stoneThatGrindsMost 35 = .ok (.aload_n 0, 1) := by decide +kernel
theorem dX4_stoneThatGrindsMost_36 : decode cX4_stoneThatGrindsMost 36 = .ok (.getfield 16, 3) := by decide +kernel
theorem dX4_stoneThatGrindsMost_39 : decode cX4_stoneThatGrindsMost 39 = .ok (.aload_n 0, 1) := by decide +kernel
theorem dX4_stoneThatGrindsMost_40 : decode cX4_stoneThatGrindsMost 40 = .ok (.getfield 10, 3) := by decide +kernel
theorem dX4_stoneThatGrindsMost_43 : decode cX4_stoneThatGrindsMost 43 = .ok (.invokevirtual 181, 3) := by decide +kernel
theorem dX4_stoneThatGrindsMost_46 : decode cX4_stoneThatGrindsMost 46 = .ok (.aload_n 0, 1) := by decide +kernel
theorem dX4_stoneThatGrindsMost_47 : decode cX4_stoneThatGrindsMost 47 = .ok (.getfield 16, 3) := by decide +kernel
theorem dX4_stoneThatGrindsMost_50 : decode cX4_stoneThatGrindsMost 50 = .ok (.aload_n 1, 1) := by decide +kernel
theorem dX4_stoneThatGrindsMost_51 : decode cX4_stoneThatGrindsMost 51 = .ok (.getfield 269, 3) := by decide +kernel
theorem dX4_stoneThatGrindsMost_54 : decode cX4_stoneThatGrindsMost 54 = .ok (.iload 5, 2) := by decide +kernel
theorem dX4_stoneThatGrindsMost_56 : decode cX4_stoneThatGrindsMost 56 = .ok (.invokevirtual 324, 3) := by decide +kernel
theorem dX4_stoneThatGrindsMost_59 : decode cX4_stoneThatGrindsMost 59 = .ok (.aload_n 0, 1) := by decide +kernel
theorem dX4_stoneThatGrindsMost_60 : decode cX4_stoneThatGrindsMost 60 = .ok (.getfield 16, 3) := by decide +kernel
theorem dX4_stoneThatGrindsMost_63 : decode cX4_stoneThatGrindsMost 63 = .ok (.bipush 24, 2) := by decide +kernel
theorem dX4_stoneThatGrindsMost_65 : decode cX4_stoneThatGrindsMost 65 = .ok (.invokevirtual 114, 3) := by decide +kernel
theorem dX4_stoneThatGrindsMost_68 : decode cX4_stoneThatGrindsMost 68 = .ok (.iload 4, 2) := by decide +kernel
theorem dX4_stoneThatGrindsMost_70 : decode cX4_stoneThatGrindsMost 70 = .ok (.aload_n 0, 1) := by decide +kernel
theorem dX4_stoneThatGrindsMost_71 : decode cX4_stoneThatGrindsMost 71 = .ok (.getfield 16, 3) := by decide +kernel
theorem dX4_stoneThatGrindsMost_74 : decode cX4_stoneThatGrindsMost 74 = .ok (.invokevirtual 321, 3) := by decide +kernel
theorem dX4_stoneThatGrindsMost_77 : decode cX4_stoneThatGrindsMost 77 = .ok (.isub, 1) := by decide +kernel
theorem dX4_stoneThatGrindsMost_78 : decode cX4_stoneThatGrindsMost 78 = .ok (.istore 6, 2) := by decide +kernel
theorem dX4_stoneThatGrindsMost_80 : decode cX4_stoneThatGrindsMost 80 = .ok (.iload 6, 2) := by decide +kernel
theorem dX4_stoneThatGrindsMost_82 : decode cX4_stoneThatGrindsMost 82 = .ok (.iload_n 3, 1) := by decide +kernel
theorem dX4_stoneThatGrindsMost_83 : decode cX4_stoneThatGrindsMost 83 = .ok (.if_icmp .le 9, 3) := by decide +kernel
theorem dX4_stoneThatGrindsMost_86 : decode cX4_stoneThatGrindsMost 86 = .ok (.iload 6, 2) := by decide +kernel
theorem dX4_stoneThatGrindsMost_88 : decode cX4_stoneThatGrindsMost 88 = .ok (.istore_n 3, 1) := by decide +kernel
theorem dX4_stoneThatGrindsMost_89 : decode cX4_stoneThatGrindsMost 89 = .ok (.iload 5, 2) := by decide +kernel
theorem dX4_stoneThatGrindsMost_91 : decode cX4_stoneThatGrindsMost 91 = .ok (.istore_n 2, 1) := by decide +kernel
theorem dX4_stoneThatGrindsMost_92 : decode cX4_stoneThatGrindsMost 92 = .ok (.iinc 5 (-4), 3) := by decide +kernel
theorem dX4_stoneThatGrindsMost_95 : decode cX4_stoneThatGrindsMost 95 = .ok (.goto (-67), 3) := by decide +kernel
theorem dX4_stoneThatGrindsMost_98 : decode cX4_stoneThatGrindsMost 98 = .ok (.iload_n 2, 1) := by decide +kernel
theorem dX4_stoneThatGrindsMost_99 : decode cX4_stoneThatGrindsMost 99 = .ok (.ireturn, 1) := by decide +kernel
theorem dX4_shareInTime_0 : decode cX4_shareInTime 0 = .ok (.aload_n 0, 1) := by decide +kernel
theorem dX4_shareInTime_1 : decode cX4_shareInTime 1 = .ok (.getfield 10, 3) := by decide +kernel
theorem dX4_shareInTime_4 : decode cX4_shareInTime 4 = .ok (.getfield 111, 3) := by decide +kernel
theorem dX4_shareInTime_7 : decode cX4_shareInTime 7 = .ok (.istore_n 1, 1) := by decide +kernel
theorem dX4_shareInTime_8 : decode cX4_shareInTime 8 = .ok (.iload_n 1, 1) := by decide +kernel
theorem dX4_shareInTime_9 : decode cX4_shareInTime 9 = .ok (.ifCond .gt 5, 3) := by decide +kernel
theorem dX4_shareInTime_12 : decode cX4_shareInTime 12 = .ok (.dconst 1, 1) := by decide +kernel
theorem dX4_shareInTime_13 : decode cX4_shareInTime 13 = .ok (.dreturn, 1) := by decide +kernel
theorem dX4_shareInTime_14 : decode cX4_shareInTime 14 = .ok (.iload_n 1, 1) := by decide +kernel
theorem dX4_shareInTime_15 : decode cX4_shareInTime 15 = .ok (.aload_n 0, 1) := by decide +kernel
theorem dX4_shareInTime_16 : decode cX4_shareInTime 16 = .ok (.getfield 10, 3) := by decide +kernel
theorem dX4_shareInTime_19 : decode cX4_shareInTime 19 = .ok (.getfield 314, 3) := by decide +kernel
theorem dX4_shareInTime_22 : decode cX4_shareInTime 22 = .ok (.isub, 1) := by decide +kernel
theorem dX4_shareInTime_23 : decode cX4_shareInTime 23 = .ok (.i2d, 1) := by decide +kernel
theorem dX4_shareInTime_24 : decode cX4_shareInTime 24 = .ok (.iload_n 1, 1) := by decide +kernel
theorem dX4_shareInTime_25 : decode cX4_shareInTime 25 = .ok (.i2d, 1) := by decide +kernel
theorem dX4_shareInTime_26 : decode cX4_shareInTime 26 = .ok (.ddiv, 1) := by decide +kernel
theorem dX4_shareInTime_27 : decode cX4_shareInTime 27 = .ok (.dreturn, 1) := by decide +kernel
theorem dJ9_min_7cf53_0 : decode cJ9_min_7cf53 0 = .ok (.iload_n 0, 1) := by decide +kernel
theorem dJ9_min_7cf53_1 : decode cJ9_min_7cf53 1 = .ok (.iload_n 1, 1) := by decide +kernel
theorem dJ9_min_7cf53_2 : decode cJ9_min_7cf53 2 = .ok (.if_icmp .gt 7, 3) := by decide +kernel
theorem dJ9_min_7cf53_5 : decode cJ9_min_7cf53 5 = .ok (.iload_n 0, 1) := by decide +kernel
theorem dJ9_min_7cf53_6 : decode cJ9_min_7cf53 6 = .ok (.goto 4, 3) := by decide +kernel
theorem dJ9_min_7cf53_9 : decode cJ9_min_7cf53 9 = .ok (.iload_n 1, 1) := by decide +kernel
theorem dJ9_min_7cf53_10 : decode cJ9_min_7cf53 10 = .ok (.ireturn, 1) := by decide +kernel
theorem dL_cell_0 : decode cL_cell 0 = .ok (.iload_n 1, 1) := by decide +kernel
theorem dL_cell_1 : decode cL_cell 1 = .ok (.aload_n 0, 1) := by decide +kernel
theorem dL_cell_2 : decode cL_cell 2 = .ok (.arraylength, 1) := by decide +kernel
theorem dL_cell_3 : decode cL_cell 3 = .ok (.if_icmp .ge 9, 3) := by decide +kernel
theorem dL_cell_6 : decode cL_cell 6 = .ok (.aload_n 0, 1) := by decide +kernel
theorem dL_cell_7 : decode cL_cell 7 = .ok (.iload_n 1, 1) := by decide +kernel
theorem dL_cell_8 : decode cL_cell 8 = .ok (.iaload, 1) := by decide +kernel
theorem dL_cell_9 : decode cL_cell 9 = .ok (.goto 12, 3) := by decide +kernel
theorem dL_cell_12 : decode cL_cell 12 = .ok (.ldc 7, 2) := by decide +kernel
theorem dL_cell_14 : decode cL_cell 14 = .ok (.iload_n 1, 1) := by decide +kernel
theorem dL_cell_15 : decode cL_cell 15 = .ok (.iconst 5, 1) := by decide +kernel
theorem dL_cell_16 : decode cL_cell 16 = .ok (.iadd, 1) := by decide +kernel
theorem dL_cell_17 : decode cL_cell 17 = .ok (.imul, 1) := by decide +kernel
theorem dL_cell_18 : decode cL_cell 18 = .ok (.ldc 8, 2) := by decide +kernel
theorem dL_cell_20 : decode cL_cell 20 = .ok (.iadd, 1) := by decide +kernel
theorem dL_cell_21 : decode cL_cell 21 = .ok (.ireturn, 1) := by decide +kernel
theorem dL_low_0 : decode cL_low 0 = .ok (.iload_n 0, 1) := by decide +kernel
theorem dL_low_1 : decode cL_low 1 = .ok (.ldc 9, 2) := by decide +kernel
theorem dL_low_3 : decode cL_low 3 = .ok (.iand, 1) := by decide +kernel
theorem dL_low_4 : decode cL_low 4 = .ok (.iload_n 1, 1) := by decide +kernel
theorem dL_low_5 : decode cL_low 5 = .ok (.irem, 1) := by decide +kernel
theorem dL_low_6 : decode cL_low 6 = .ok (.ireturn, 1) := by decide +kernel
theorem dL_areSacks_0 : decode cL_areSacks 0 = .ok (.aload_n 0, 1) := by decide +kernel
theorem dL_areSacks_1 : decode cL_areSacks 1 = .ok (.iload_n 1, 1) := by decide +kernel
theorem dL_areSacks_2 : decode cL_areSacks 2 = .ok (.bipush 7, 2) := by decide +kernel
theorem dL_areSacks_4 : decode cL_areSacks 4 = .ok (.invokevirtual 10, 3) := by decide +kernel
theorem dL_areSacks_7 : decode cL_areSacks 7 = .ok (.istore_n 2, 1) := by decide +kernel
theorem dL_areSacks_8 : decode cL_areSacks 8 = .ok (.iconst 0, 1) := by decide +kernel
theorem dL_areSacks_9 : decode cL_areSacks 9 = .ok (.istore_n 3, 1) := by decide +kernel
theorem dL_areSacks_10 : decode cL_areSacks 10 = .ok (.iload_n 3, 1) := by decide +kernel
theorem dL_areSacks_11 : decode cL_areSacks 11 = .ok (.iload_n 2, 1) := by decide +kernel
theorem dL_areSacks_12 : decode cL_areSacks 12 = .ok (.if_icmp .ge 164, 3) := by decide +kernel
theorem dL_areSacks_15 : decode cL_areSacks 15 = .ok (.aload_n 0, 1) := by decide +kernel
theorem dL_areSacks_16 : decode cL_areSacks 16 = .ok (.iload_n 1, 1) := by decide +kernel
theorem dL_areSacks_17 : decode cL_areSacks 17 = .ok (.iload_n 3, 1) := by decide +kernel
theorem dL_areSacks_18 : decode cL_areSacks 18 = .ok (.invokevirtual 16, 3) := by decide +kernel
theorem dL_areSacks_21 : decode cL_areSacks 21 = .ok (.istore 4, 2) := by decide +kernel
theorem dL_areSacks_23 : decode cL_areSacks 23 = .ok (.iload 4, 2) := by decide +kernel
theorem dL_areSacks_25 : decode cL_areSacks 25 = .ok (.ifCond .lt 68, 3) := by decide +kernel
theorem dL_areSacks_28 : decode cL_areSacks 28 = .ok (.iload 4, 2) := by decide +kernel
theorem dL_areSacks_30 : decode cL_areSacks 30 = .ok (.aload_n 0, 1) := by decide +kernel
theorem dL_areSacks_31 : decode cL_areSacks 31 = .ok (.bipush 6, 2) := by decide +kernel
theorem dL_areSacks_33 : decode cL_areSacks 33 = .ok (.invokevirtual 19, 3) := by decide +kernel
theorem dL_areSacks_36 : decode cL_areSacks 36 = .ok (.if_icmp .ge 57, 3) := by decide +kernel
theorem dL_areSacks_39 : decode cL_areSacks 39 = .ok (.aload_n 0, 1) := by decide +kernel
theorem dL_areSacks_40 : decode cL_areSacks 40 = .ok (.iload 4, 2) := by decide +kernel
theorem dL_areSacks_42 : decode cL_areSacks 42 = .ok (.iconst 0, 1) := by decide +kernel
theorem dL_areSacks_43 : decode cL_areSacks 43 = .ok (.invokevirtual 23, 3) := by decide +kernel
theorem dL_areSacks_46 : decode cL_areSacks 46 = .ok (.iload_n 1, 1) := by decide +kernel
theorem dL_areSacks_47 : decode cL_areSacks 47 = .ok (.if_icmp .ne 46, 3) := by decide +kernel
theorem dL_areSacks_50 : decode cL_areSacks 50 = .ok (.aload_n 0, 1) := by decide +kernel
theorem dL_areSacks_51 : decode cL_areSacks 51 = .ok (.iload 4, 2) := by decide +kernel
theorem dL_areSacks_53 : decode cL_areSacks 53 = .ok (.iconst 4, 1) := by decide +kernel
theorem dL_areSacks_54 : decode cL_areSacks 54 = .ok (.invokevirtual 23, 3) := by decide +kernel
theorem dL_areSacks_57 : decode cL_areSacks 57 = .ok (.iload_n 3, 1) := by decide +kernel
theorem dL_areSacks_58 : decode cL_areSacks 58 = .ok (.if_icmp .ne 35, 3) := by decide +kernel
theorem dL_areSacks_61 : decode cL_areSacks 61 = .ok (.aload_n 0, 1) := by decide +kernel
theorem dL_areSacks_62 : decode cL_areSacks 62 = .ok (.iload 4, 2) := by decide +kernel
theorem dL_areSacks_64 : decode cL_areSacks 64 = .ok (.iconst 2, 1) := by decide +kernel
theorem dL_areSacks_65 : decode cL_areSacks 65 = .ok (.invokevirtual 23, 3) := by decide +kernel
theorem dL_areSacks_68 : decode cL_areSacks 68 = .ok (.iconst 1, 1) := by decide +kernel
theorem dL_areSacks_69 : decode cL_areSacks 69 = .ok (.if_icmp .lt 24, 3) := by decide +kernel
theorem dL_areSacks_72 : decode cL_areSacks 72 = .ok (.aload_n 0, 1) := by decide +kernel
theorem dL_areSacks_73 : decode cL_areSacks 73 = .ok (.iload 4, 2) := by decide +kernel
theorem dL_areSacks_75 : decode cL_areSacks 75 = .ok (.iconst 2, 1) := by decide +kernel
theorem dL_areSacks_76 : decode cL_areSacks 76 = .ok (.invokevirtual 23, 3) := by decide +kernel
theorem dL_areSacks_79 : decode cL_areSacks 79 = .ok (.aload_n 0, 1) := by decide +kernel
theorem dL_areSacks_80 : decode cL_areSacks 80 = .ok (.iload 4, 2) := by decide +kernel
theorem dL_areSacks_82 : decode cL_areSacks 82 = .ok (.iconst 1, 1) := by decide +kernel
theorem dL_areSacks_83 : decode cL_areSacks 83 = .ok (.invokevirtual 23, 3) := by decide +kernel
theorem dL_areSacks_86 : decode cL_areSacks 86 = .ok (.if_icmp .gt 7, 3) := by decide +kernel
theorem dL_areSacks_89 : decode cL_areSacks 89 = .ok (.iconst 1, 1) := by decide +kernel
theorem dL_areSacks_90 : decode cL_areSacks 90 = .ok (.goto 4, 3) := by decide +kernel
theorem dL_areSacks_93 : decode cL_areSacks 93 = .ok (.iconst 0, 1) := by decide +kernel
theorem dL_areSacks_94 : decode cL_areSacks 94 = .ok (.istore 5, 2) := by decide +kernel
theorem dL_areSacks_96 : decode cL_areSacks 96 = .ok (.iload 5, 2) := by decide +kernel
theorem dL_areSacks_98 : decode cL_areSacks 98 = .ok (.ifCond .eq 65, 3) := by decide +kernel
theorem dL_areSacks_101 : decode cL_areSacks 101 = .ok (.iload_n 3, 1) := by decide +kernel
theorem dL_areSacks_102 : decode cL_areSacks 102 = .ok (.ifCond .le 61, 3) := by decide +kernel
theorem dL_areSacks_105 : decode cL_areSacks 105 = .ok (.aload_n 0, 1) := by decide +kernel
theorem dL_areSacks_106 : decode cL_areSacks 106 = .ok (.iload_n 1, 1) := by decide +kernel
theorem dL_areSacks_107 : decode cL_areSacks 107 = .ok (.iload_n 3, 1) := by decide +kernel
theorem dL_areSacks_108 : decode cL_areSacks 108 = .ok (.iconst 1, 1) := by decide +kernel
theorem dL_areSacks_109 : decode cL_areSacks 109 = .ok (.isub, 1) := by decide +kernel
theorem dL_areSacks_110 : decode cL_areSacks 110 = .ok (.invokevirtual 16, 3) := by decide +kernel
theorem dL_areSacks_113 : decode cL_areSacks 113 = .ok (.istore 6, 2) := by decide +kernel
theorem dL_areSacks_115 : decode cL_areSacks 115 = .ok (.aload_n 0, 1) := by decide +kernel
theorem dL_areSacks_116 : decode cL_areSacks 116 = .ok (.iload 6, 2) := by decide +kernel
theorem dL_areSacks_118 : decode cL_areSacks 118 = .ok (.iconst 3, 1) := by decide +kernel
theorem dL_areSacks_119 : decode cL_areSacks 119 = .ok (.invokevirtual 23, 3) := by decide +kernel
theorem dL_areSacks_122 : decode cL_areSacks 122 = .ok (.aload_n 0, 1) := by decide +kernel
theorem dL_areSacks_123 : decode cL_areSacks 123 = .ok (.iload 4, 2) := by decide +kernel
theorem dL_areSacks_125 : decode cL_areSacks 125 = .ok (.iconst 3, 1) := by decide +kernel
theorem dL_areSacks_126 : decode cL_areSacks 126 = .ok (.invokevirtual 23, 3) := by decide +kernel
theorem dL_areSacks_129 : decode cL_areSacks 129 = .ok (.if_icmp .lt 27, 3) := by decide +kernel
theorem dL_areSacks_132 : decode cL_areSacks 132 = .ok (.aload_n 0, 1) := by decide +kernel
theorem dL_areSacks_133 : decode cL_areSacks 133 = .ok (.iload 6, 2) := by decide +kernel
theorem dL_areSacks_135 : decode cL_areSacks 135 = .ok (.iconst 3, 1) := by decide +kernel
theorem dL_areSacks_136 : decode cL_areSacks 136 = .ok (.invokevirtual 23, 3) := by decide +kernel
theorem dL_areSacks_139 : decode cL_areSacks 139 = .ok (.aload_n 0, 1) := by decide +kernel
theorem dL_areSacks_140 : decode cL_areSacks 140 = .ok (.iload 4, 2) := by decide +kernel
theorem dL_areSacks_142 : decode cL_areSacks 142 = .ok (.iconst 3, 1) := by decide +kernel
theorem dL_areSacks_143 : decode cL_areSacks 143 = .ok (.invokevirtual 23, 3) := by decide +kernel
theorem dL_areSacks_146 : decode cL_areSacks 146 = .ok (.if_icmp .ne 14, 3) := by decide +kernel
theorem dL_areSacks_149 : decode cL_areSacks 149 = .ok (.iload 6, 2) := by decide +kernel
theorem dL_areSacks_151 : decode cL_areSacks 151 = .ok (.iload 4, 2) := by decide +kernel
theorem dL_areSacks_153 : decode cL_areSacks 153 = .ok (.if_icmp .ge 7, 3) := by decide +kernel
theorem dL_areSacks_156 : decode cL_areSacks 156 = .ok (.iconst 1, 1) := by decide +kernel
theorem dL_areSacks_157 : decode cL_areSacks 157 = .ok (.goto 4, 3) := by decide +kernel
theorem dL_areSacks_160 : decode cL_areSacks 160 = .ok (.iconst 0, 1) := by decide +kernel
theorem dL_areSacks_161 : decode cL_areSacks 161 = .ok (.istore 5, 2) := by decide +kernel
theorem dL_areSacks_163 : decode cL_areSacks 163 = .ok (.iload 5, 2) := by decide +kernel
theorem dL_areSacks_165 : decode cL_areSacks 165 = .ok (.ifCond .ne 5, 3) := by decide +kernel
theorem dL_areSacks_168 : decode cL_areSacks 168 = .ok (.iconst 0, 1) := by decide +kernel
theorem dL_areSacks_169 : decode cL_areSacks 169 = .ok (.ireturn, 1) := by decide +kernel
theorem dL_areSacks_170 : decode cL_areSacks 170 = .ok (.iinc 3 1, 3) := by decide +kernel
theorem dL_areSacks_173 : decode cL_areSacks 173 = .ok (.goto (-163), 3) := by decide +kernel
theorem dL_areSacks_176 : decode cL_areSacks 176 = .ok (.iload_n 2, 1) := by decide +kernel
theorem dL_areSacks_177 : decode cL_areSacks 177 = .ok (.ifCond .lt 23, 3) := by decide +kernel
theorem dL_areSacks_180 : decode cL_areSacks 180 = .ok (.iload_n 2, 1) := by decide +kernel
theorem dL_areSacks_181 : decode cL_areSacks 181 = .ok (.bipush 6, 2) := by decide +kernel
theorem dL_areSacks_183 : decode cL_areSacks 183 = .ok (.if_icmp .gt 17, 3) := by decide +kernel
theorem dL_areSacks_186 : decode cL_areSacks 186 = .ok (.aload_n 0, 1) := by decide +kernel
theorem dL_areSacks_187 : decode cL_areSacks 187 = .ok (.iload_n 1, 1) := by decide +kernel
theorem dL_areSacks_188 : decode cL_areSacks 188 = .ok (.iload_n 2, 1) := by decide +kernel
theorem dL_areSacks_189 : decode cL_areSacks 189 = .ok (.invokevirtual 16, 3) := by decide +kernel
theorem dL_areSacks_192 : decode cL_areSacks 192 = .ok (.iconst (-1), 1) := by decide +kernel
theorem dL_areSacks_193 : decode cL_areSacks 193 = .ok (.if_icmp .ne 7, 3) := by decide +kernel
theorem dL_areSacks_196 : decode cL_areSacks 196 = .ok (.iconst 1, 1) := by decide +kernel
theorem dL_areSacks_197 : decode cL_areSacks 197 = .ok (.goto 4, 3) := by decide +kernel
theorem dL_areSacks_200 : decode cL_areSacks 200 = .ok (.iconst 0, 1) := by decide +kernel
theorem dL_areSacks_201 : decode cL_areSacks 201 = .ok (.ireturn, 1) := by decide +kernel
theorem dL_isMill_0 : decode cL_isMill 0 = .ok (.aload_n 0, 1) := by decide +kernel
theorem dL_isMill_1 : decode cL_isMill 1 = .ok (.iload_n 1, 1) := by decide +kernel
theorem dL_isMill_2 : decode cL_isMill 2 = .ok (.iconst 1, 1) := by decide +kernel
theorem dL_isMill_3 : decode cL_isMill 3 = .ok (.invokevirtual 10, 3) := by decide +kernel
theorem dL_isMill_6 : decode cL_isMill 6 = .ok (.bipush 100, 2) := by decide +kernel
theorem dL_isMill_8 : decode cL_isMill 8 = .ok (.imul, 1) := by decide +kernel
theorem dL_isMill_9 : decode cL_isMill 9 = .ok (.aload_n 0, 1) := by decide +kernel
theorem dL_isMill_10 : decode cL_isMill 10 = .ok (.iload_n 1, 1) := by decide +kernel
theorem dL_isMill_11 : decode cL_isMill 11 = .ok (.iconst 0, 1) := by decide +kernel
theorem dL_isMill_12 : decode cL_isMill 12 = .ok (.invokevirtual 10, 3) := by decide +kernel
theorem dL_isMill_15 : decode cL_isMill 15 = .ok (.idiv, 1) := by decide +kernel
theorem dL_isMill_16 : decode cL_isMill 16 = .ok (.aload_n 0, 1) := by decide +kernel
theorem dL_isMill_17 : decode cL_isMill 17 = .ok (.aload_n 0, 1) := by decide +kernel
theorem dL_isMill_18 : decode cL_isMill 18 = .ok (.iconst 0, 1) := by decide +kernel
theorem dL_isMill_19 : decode cL_isMill 19 = .ok (.invokevirtual 19, 3) := by decide +kernel
theorem dL_isMill_22 : decode cL_isMill 22 = .ok (.invokevirtual 26, 3) := by decide +kernel
theorem dL_isMill_25 : decode cL_isMill 25 = .ok (.isub, 1) := by decide +kernel
theorem dL_isMill_26 : decode cL_isMill 26 = .ok (.istore_n 2, 1) := by decide +kernel
theorem dL_isMill_27 : decode cL_isMill 27 = .ok (.aload_n 0, 1) := by decide +kernel
theorem dL_isMill_28 : decode cL_isMill 28 = .ok (.iload_n 1, 1) := by decide +kernel
theorem dL_isMill_29 : decode cL_isMill 29 = .ok (.bipush 7, 2) := by decide +kernel
theorem dL_isMill_31 : decode cL_isMill 31 = .ok (.invokevirtual 10, 3) := by decide +kernel
theorem dL_isMill_34 : decode cL_isMill 34 = .ok (.ifCond .ne 7, 3) := by decide +kernel
theorem dL_isMill_37 : decode cL_isMill 37 = .ok (.iconst 1, 1) := by decide +kernel
theorem dL_isMill_38 : decode cL_isMill 38 = .ok (.goto 37, 3) := by decide +kernel
theorem dL_isMill_41 : decode cL_isMill 41 = .ok (.iload_n 2, 1) := by decide +kernel
theorem dL_isMill_42 : decode cL_isMill 42 = .ok (.aload_n 0, 1) := by decide +kernel
theorem dL_isMill_43 : decode cL_isMill 43 = .ok (.bipush 12, 2) := by decide +kernel
theorem dL_isMill_45 : decode cL_isMill 45 = .ok (.invokevirtual 19, 3) := by decide +kernel
theorem dL_isMill_48 : decode cL_isMill 48 = .ok (.if_icmp .ge 7, 3) := by decide +kernel
theorem dL_isMill_51 : decode cL_isMill 51 = .ok (.iconst 2, 1) := by decide +kernel
theorem dL_isMill_52 : decode cL_isMill 52 = .ok (.goto 23, 3) := by decide +kernel
theorem dL_isMill_55 : decode cL_isMill 55 = .ok (.aload_n 0, 1) := by decide +kernel
theorem dL_isMill_56 : decode cL_isMill 56 = .ok (.iload_n 1, 1) := by decide +kernel
theorem dL_isMill_57 : decode cL_isMill 57 = .ok (.iconst 1, 1) := by decide +kernel
theorem dL_isMill_58 : decode cL_isMill 58 = .ok (.invokevirtual 10, 3) := by decide +kernel
theorem dL_isMill_61 : decode cL_isMill 61 = .ok (.aload_n 0, 1) := by decide +kernel
theorem dL_isMill_62 : decode cL_isMill 62 = .ok (.bipush 13, 2) := by decide +kernel
theorem dL_isMill_64 : decode cL_isMill 64 = .ok (.invokevirtual 19, 3) := by decide +kernel
theorem dL_isMill_67 : decode cL_isMill 67 = .ok (.if_icmp .ge 7, 3) := by decide +kernel
theorem dL_isMill_70 : decode cL_isMill 70 = .ok (.iconst 3, 1) := by decide +kernel
theorem dL_isMill_71 : decode cL_isMill 71 = .ok (.goto 4, 3) := by decide +kernel
theorem dL_isMill_74 : decode cL_isMill 74 = .ok (.iconst 0, 1) := by decide +kernel
theorem dL_isMill_75 : decode cL_isMill 75 = .ok (.istore_n 3, 1) := by decide +kernel
theorem dL_isMill_76 : decode cL_isMill 76 = .ok (.aload_n 0, 1) := by decide +kernel
theorem dL_isMill_77 : decode cL_isMill 77 = .ok (.iload_n 1, 1) := by decide +kernel
theorem dL_isMill_78 : decode cL_isMill 78 = .ok (.iconst 1, 1) := by decide +kernel
theorem dL_isMill_79 : decode cL_isMill 79 = .ok (.invokevirtual 10, 3) := by decide +kernel
theorem dL_isMill_82 : decode cL_isMill 82 = .ok (.ifCond .lt 54, 3) := by decide +kernel
theorem dL_isMill_85 : decode cL_isMill 85 = .ok (.aload_n 0, 1) := by decide +kernel
theorem dL_isMill_86 : decode cL_isMill 86 = .ok (.iload_n 1, 1) := by decide +kernel
theorem dL_isMill_87 : decode cL_isMill 87 = .ok (.iconst 1, 1) := by decide +kernel
theorem dL_isMill_88 : decode cL_isMill 88 = .ok (.invokevirtual 10, 3) := by decide +kernel
theorem dL_isMill_91 : decode cL_isMill 91 = .ok (.aload_n 0, 1) := by decide +kernel
theorem dL_isMill_92 : decode cL_isMill 92 = .ok (.iload_n 1, 1) := by decide +kernel
theorem dL_isMill_93 : decode cL_isMill 93 = .ok (.iconst 0, 1) := by decide +kernel
theorem dL_isMill_94 : decode cL_isMill 94 = .ok (.invokevirtual 10, 3) := by decide +kernel
theorem dL_isMill_97 : decode cL_isMill 97 = .ok (.if_icmp .gt 39, 3) := by decide +kernel
theorem dL_isMill_100 : decode cL_isMill 100 = .ok (.aload_n 0, 1) := by decide +kernel
theorem dL_isMill_101 : decode cL_isMill 101 = .ok (.iload_n 1, 1) := by decide +kernel
theorem dL_isMill_102 : decode cL_isMill 102 = .ok (.bipush 8, 2) := by decide +kernel
theorem dL_isMill_104 : decode cL_isMill 104 = .ok (.invokevirtual 10, 3) := by decide +kernel
theorem dL_isMill_107 : decode cL_isMill 107 = .ok (.iload_n 2, 1) := by decide +kernel
theorem dL_isMill_108 : decode cL_isMill 108 = .ok (.sipush 1000, 3) := by decide +kernel
theorem dL_isMill_111 : decode cL_isMill 111 = .ok (.iadd, 1) := by decide +kernel
theorem dL_isMill_112 : decode cL_isMill 112 = .ok (.if_icmp .ne 24, 3) := by decide +kernel
theorem dL_isMill_115 : decode cL_isMill 115 = .ok (.aload_n 0, 1) := by decide +kernel
theorem dL_isMill_116 : decode cL_isMill 116 = .ok (.iload_n 1, 1) := by decide +kernel
theorem dL_isMill_117 : decode cL_isMill 117 = .ok (.invokevirtual 29, 3) := by decide +kernel
theorem dL_isMill_120 : decode cL_isMill 120 = .ok (.iload_n 3, 1) := by decide +kernel
theorem dL_isMill_121 : decode cL_isMill 121 = .ok (.if_icmp .ne 15, 3) := by decide +kernel
theorem dL_isMill_124 : decode cL_isMill 124 = .ok (.aload_n 0, 1) := by decide +kernel
theorem dL_isMill_125 : decode cL_isMill 125 = .ok (.iload_n 1, 1) := by decide +kernel
theorem dL_isMill_126 : decode cL_isMill 126 = .ok (.invokestatic 32, 3) := by decide +kernel
theorem dL_isMill_129 : decode cL_isMill 129 = .ok (.ifCond .eq 7, 3) := by decide +kernel
theorem dL_isMill_132 : decode cL_isMill 132 = .ok (.iconst 1, 1) := by decide +kernel
theorem dL_isMill_133 : decode cL_isMill 133 = .ok (.goto 4, 3) := by decide +kernel
theorem dL_isMill_136 : decode cL_isMill 136 = .ok (.iconst 0, 1) := by decide +kernel
theorem dL_isMill_137 : decode cL_isMill 137 = .ok (.ireturn, 1) := by decide +kernel
theorem dL_areNext_0 : decode cL_areNext 0 = .ok (.iconst 0, 1) := by decide +kernel
theorem dL_areNext_1 : decode cL_areNext 1 = .ok (.istore_n 1, 1) := by decide +kernel
theorem dL_areNext_2 : decode cL_areNext 2 = .ok (.iconst 0, 1) := by decide +kernel
theorem dL_areNext_3 : decode cL_areNext 3 = .ok (.istore_n 2, 1) := by decide +kernel
theorem dL_areNext_4 : decode cL_areNext 4 = .ok (.iconst 0, 1) := by decide +kernel
theorem dL_areNext_5 : decode cL_areNext 5 = .ok (.istore_n 3, 1) := by decide +kernel
theorem dL_areNext_6 : decode cL_areNext 6 = .ok (.iload_n 3, 1) := by decide +kernel
theorem dL_areNext_7 : decode cL_areNext 7 = .ok (.iconst 5, 1) := by decide +kernel
theorem dL_areNext_8 : decode cL_areNext 8 = .ok (.if_icmp .ge 25, 3) := by decide +kernel
theorem dL_areNext_11 : decode cL_areNext 11 = .ok (.iload_n 1, 1) := by decide +kernel
theorem dL_areNext_12 : decode cL_areNext 12 = .ok (.aload_n 0, 1) := by decide +kernel
theorem dL_areNext_13 : decode cL_areNext 13 = .ok (.iload_n 3, 1) := by decide +kernel
theorem dL_areNext_14 : decode cL_areNext 14 = .ok (.invokevirtual 29, 3) := by decide +kernel
theorem dL_areNext_17 : decode cL_areNext 17 = .ok (.ifCond .ne 7, 3) := by decide +kernel
theorem dL_areNext_20 : decode cL_areNext 20 = .ok (.iconst 1, 1) := by decide +kernel
theorem dL_areNext_21 : decode cL_areNext 21 = .ok (.goto 4, 3) := by decide +kernel
theorem dL_areNext_24 : decode cL_areNext 24 = .ok (.iconst 0, 1) := by decide +kernel
theorem dL_areNext_25 : decode cL_areNext 25 = .ok (.iadd, 1) := by decide +kernel
theorem dL_areNext_26 : decode cL_areNext 26 = .ok (.istore_n 1, 1) := by decide +kernel
theorem dL_areNext_27 : decode cL_areNext 27 = .ok (.iinc 3 1, 3) := by decide +kernel
theorem dL_areNext_30 : decode cL_areNext 30 = .ok (.goto (-24), 3) := by decide +kernel
theorem dL_areNext_33 : decode cL_areNext 33 = .ok (.iconst 0, 1) := by decide +kernel
theorem dL_areNext_34 : decode cL_areNext 34 = .ok (.istore_n 3, 1) := by decide +kernel
theorem dL_areNext_35 : decode cL_areNext 35 = .ok (.iload_n 3, 1) := by decide +kernel
theorem dL_areNext_36 : decode cL_areNext 36 = .ok (.bipush 7, 2) := by decide +kernel
theorem dL_areNext_38 : decode cL_areNext 38 = .ok (.if_icmp .ge 200, 3) := by decide +kernel
theorem dL_areNext_41 : decode cL_areNext 41 = .ok (.aload_n 0, 1) := by decide +kernel
theorem dL_areNext_42 : decode cL_areNext 42 = .ok (.iload_n 3, 1) := by decide +kernel
theorem dL_areNext_43 : decode cL_areNext 43 = .ok (.invokevirtual 38, 3) := by decide +kernel
theorem dL_areNext_46 : decode cL_areNext 46 = .ok (.istore 4, 2) := by decide +kernel
theorem dL_areNext_48 : decode cL_areNext 48 = .ok (.iload 4, 2) := by decide +kernel
theorem dL_areNext_50 : decode cL_areNext 50 = .ok (.ifCond .ge 7, 3) := by decide +kernel
theorem dL_areNext_53 : decode cL_areNext 53 = .ok (.iconst 1, 1) := by decide +kernel
theorem dL_areNext_54 : decode cL_areNext 54 = .ok (.goto 4, 3) := by decide +kernel
theorem dL_areNext_57 : decode cL_areNext 57 = .ok (.iconst 0, 1) := by decide +kernel
theorem dL_areNext_58 : decode cL_areNext 58 = .ok (.iload_n 3, 1) := by decide +kernel
theorem dL_areNext_59 : decode cL_areNext 59 = .ok (.iload_n 1, 1) := by decide +kernel
theorem dL_areNext_60 : decode cL_areNext 60 = .ok (.if_icmp .lt 7, 3) := by decide +kernel
theorem dL_areNext_63 : decode cL_areNext 63 = .ok (.iconst 1, 1) := by decide +kernel
theorem dL_areNext_64 : decode cL_areNext 64 = .ok (.goto 4, 3) := by decide +kernel
theorem dL_areNext_67 : decode cL_areNext 67 = .ok (.iconst 0, 1) := by decide +kernel
theorem dL_areNext_68 : decode cL_areNext 68 = .ok (.if_icmp .ne 27, 3) := by decide +kernel
theorem dL_areNext_71 : decode cL_areNext 71 = .ok (.iload 4, 2) := by decide +kernel
theorem dL_areNext_73 : decode cL_areNext 73 = .ok (.ifCond .lt 24, 3) := by decide +kernel
theorem dL_areNext_76 : decode cL_areNext 76 = .ok (.iload_n 2, 1) := by decide +kernel
theorem dL_areNext_77 : decode cL_areNext 77 = .ok (.iload 4, 2) := by decide +kernel
theorem dL_areNext_79 : decode cL_areNext 79 = .ok (.ishr, 1) := by decide +kernel
theorem dL_areNext_80 : decode cL_areNext 80 = .ok (.iconst 1, 1) := by decide +kernel
theorem dL_areNext_81 : decode cL_areNext 81 = .ok (.iand, 1) := by decide +kernel
theorem dL_areNext_82 : decode cL_areNext 82 = .ok (.iconst 1, 1) := by decide +kernel
theorem dL_areNext_83 : decode cL_areNext 83 = .ok (.if_icmp .eq 12, 3) := by decide +kernel
theorem dL_areNext_86 : decode cL_areNext 86 = .ok (.aload_n 0, 1) := by decide +kernel
theorem dL_areNext_87 : decode cL_areNext 87 = .ok (.iload 4, 2) := by decide +kernel
theorem dL_areNext_89 : decode cL_areNext 89 = .ok (.invokevirtual 29, 3) := by decide +kernel
theorem dL_areNext_92 : decode cL_areNext 92 = .ok (.ifCond .eq 5, 3) := by decide +kernel
theorem dL_areNext_95 : decode cL_areNext 95 = .ok (.iconst 0, 1) := by decide +kernel
theorem dL_areNext_96 : decode cL_areNext 96 = .ok (.ireturn, 1) := by decide +kernel
theorem dL_areNext_97 : decode cL_areNext 97 = .ok (.iload 4, 2) := by decide +kernel
theorem dL_areNext_99 : decode cL_areNext 99 = .ok (.ifCond .lt 117, 3) := by decide +kernel
theorem dL_areNext_102 : decode cL_areNext 102 = .ok (.iload_n 3, 1) := by decide +kernel
theorem dL_areNext_103 : decode cL_areNext 103 = .ok (.ifCond .le 113, 3) := by decide +kernel
theorem dL_areNext_106 : decode cL_areNext 106 = .ok (.aload_n 0, 1) := by decide +kernel
theorem dL_areNext_107 : decode cL_areNext 107 = .ok (.iload_n 3, 1) := by decide +kernel
theorem dL_areNext_108 : decode cL_areNext 108 = .ok (.iconst 1, 1) := by decide +kernel
theorem dL_areNext_109 : decode cL_areNext 109 = .ok (.isub, 1) := by decide +kernel
theorem dL_areNext_110 : decode cL_areNext 110 = .ok (.invokevirtual 38, 3) := by decide +kernel
theorem dL_areNext_113 : decode cL_areNext 113 = .ok (.istore 5, 2) := by decide +kernel
theorem dL_areNext_115 : decode cL_areNext 115 = .ok (.aload_n 0, 1) := by decide +kernel
theorem dL_areNext_116 : decode cL_areNext 116 = .ok (.aload_n 0, 1) := by decide +kernel
theorem dL_areNext_117 : decode cL_areNext 117 = .ok (.iload 5, 2) := by decide +kernel
theorem dL_areNext_119 : decode cL_areNext 119 = .ok (.iconst 0, 1) := by decide +kernel
theorem dL_areNext_120 : decode cL_areNext 120 = .ok (.invokevirtual 16, 3) := by decide +kernel
theorem dL_areNext_123 : decode cL_areNext 123 = .ok (.iconst 3, 1) := by decide +kernel
theorem dL_areNext_124 : decode cL_areNext 124 = .ok (.invokevirtual 23, 3) := by decide +kernel
theorem dL_areNext_127 : decode cL_areNext 127 = .ok (.istore 6, 2) := by decide +kernel
theorem dL_areNext_129 : decode cL_areNext 129 = .ok (.aload_n 0, 1) := by decide +kernel
theorem dL_areNext_130 : decode cL_areNext 130 = .ok (.aload_n 0, 1) := by decide +kernel
theorem dL_areNext_131 : decode cL_areNext 131 = .ok (.iload 4, 2) := by decide +kernel
theorem dL_areNext_133 : decode cL_areNext 133 = .ok (.iconst 0, 1) := by decide +kernel
theorem dL_areNext_134 : decode cL_areNext 134 = .ok (.invokevirtual 16, 3) := by decide +kernel
theorem dL_areNext_137 : decode cL_areNext 137 = .ok (.iconst 3, 1) := by decide +kernel
theorem dL_areNext_138 : decode cL_areNext 138 = .ok (.invokevirtual 23, 3) := by decide +kernel
theorem dL_areNext_141 : decode cL_areNext 141 = .ok (.istore 7, 2) := by decide +kernel
theorem dL_areNext_143 : decode cL_areNext 143 = .ok (.iload 6, 2) := by decide +kernel
theorem dL_areNext_145 : decode cL_areNext 145 = .ok (.iload 7, 2) := by decide +kernel
theorem dL_areNext_147 : decode cL_areNext 147 = .ok (.if_icmp .lt 55, 3) := by decide +kernel
theorem dL_areNext_150 : decode cL_areNext 150 = .ok (.iload 6, 2) := by decide +kernel
theorem dL_areNext_152 : decode cL_areNext 152 = .ok (.iload 7, 2) := by decide +kernel
theorem dL_areNext_154 : decode cL_areNext 154 = .ok (.if_icmp .ne 52, 3) := by decide +kernel
theorem dL_areNext_157 : decode cL_areNext 157 = .ok (.aload_n 0, 1) := by decide +kernel
theorem dL_areNext_158 : decode cL_areNext 158 = .ok (.iload 5, 2) := by decide +kernel
theorem dL_areNext_160 : decode cL_areNext 160 = .ok (.bipush 8, 2) := by decide +kernel
theorem dL_areNext_162 : decode cL_areNext 162 = .ok (.invokevirtual 10, 3) := by decide +kernel
theorem dL_areNext_165 : decode cL_areNext 165 = .ok (.aload_n 0, 1) := by decide +kernel
theorem dL_areNext_166 : decode cL_areNext 166 = .ok (.iload 4, 2) := by decide +kernel
theorem dL_areNext_168 : decode cL_areNext 168 = .ok (.bipush 8, 2) := by decide +kernel
theorem dL_areNext_170 : decode cL_areNext 170 = .ok (.invokevirtual 10, 3) := by decide +kernel
theorem dL_areNext_173 : decode cL_areNext 173 = .ok (.if_icmp .gt 29, 3) := by decide +kernel
theorem dL_areNext_176 : decode cL_areNext 176 = .ok (.aload_n 0, 1) := by decide +kernel
theorem dL_areNext_177 : decode cL_areNext 177 = .ok (.iload 5, 2) := by decide +kernel
theorem dL_areNext_179 : decode cL_areNext 179 = .ok (.bipush 8, 2) := by decide +kernel
theorem dL_areNext_181 : decode cL_areNext 181 = .ok (.invokevirtual 10, 3) := by decide +kernel
theorem dL_areNext_184 : decode cL_areNext 184 = .ok (.aload_n 0, 1) := by decide +kernel
theorem dL_areNext_185 : decode cL_areNext 185 = .ok (.iload 4, 2) := by decide +kernel
theorem dL_areNext_187 : decode cL_areNext 187 = .ok (.bipush 8, 2) := by decide +kernel
theorem dL_areNext_189 : decode cL_areNext 189 = .ok (.invokevirtual 10, 3) := by decide +kernel
theorem dL_areNext_192 : decode cL_areNext 192 = .ok (.if_icmp .ne 14, 3) := by decide +kernel
theorem dL_areNext_195 : decode cL_areNext 195 = .ok (.iload 5, 2) := by decide +kernel
theorem dL_areNext_197 : decode cL_areNext 197 = .ok (.iload 4, 2) := by decide +kernel
theorem dL_areNext_199 : decode cL_areNext 199 = .ok (.if_icmp .ge 7, 3) := by decide +kernel
theorem dL_areNext_202 : decode cL_areNext 202 = .ok (.iconst 1, 1) := by decide +kernel
theorem dL_areNext_203 : decode cL_areNext 203 = .ok (.goto 4, 3) := by decide +kernel
theorem dL_areNext_206 : decode cL_areNext 206 = .ok (.iconst 0, 1) := by decide +kernel
theorem dL_areNext_207 : decode cL_areNext 207 = .ok (.istore 8, 2) := by decide +kernel
theorem dL_areNext_209 : decode cL_areNext 209 = .ok (.iload 8, 2) := by decide +kernel
theorem dL_areNext_211 : decode cL_areNext 211 = .ok (.ifCond .ne 5, 3) := by decide +kernel
theorem dL_areNext_214 : decode cL_areNext 214 = .ok (.iconst 0, 1) := by decide +kernel
theorem dL_areNext_215 : decode cL_areNext 215 = .ok (.ireturn, 1) := by decide +kernel
theorem dL_areNext_216 : decode cL_areNext 216 = .ok (.iload_n 2, 1) := by decide +kernel
theorem dL_areNext_217 : decode cL_areNext 217 = .ok (.iload 4, 2) := by decide +kernel
theorem dL_areNext_219 : decode cL_areNext 219 = .ok (.ifCond .ge 7, 3) := by decide +kernel
theorem dL_areNext_222 : decode cL_areNext 222 = .ok (.iconst 0, 1) := by decide +kernel
theorem dL_areNext_223 : decode cL_areNext 223 = .ok (.goto 7, 3) := by decide +kernel
theorem dL_areNext_226 : decode cL_areNext 226 = .ok (.iconst 1, 1) := by decide +kernel
theorem dL_areNext_227 : decode cL_areNext 227 = .ok (.iload 4, 2) := by decide +kernel
theorem dL_areNext_229 : decode cL_areNext 229 = .ok (.ishl, 1) := by decide +kernel
theorem dL_areNext_230 : decode cL_areNext 230 = .ok (.ior, 1) := by decide +kernel
theorem dL_areNext_231 : decode cL_areNext 231 = .ok (.istore_n 2, 1) := by decide +kernel
theorem dL_areNext_232 : decode cL_areNext 232 = .ok (.iinc 3 1, 3) := by decide +kernel
theorem dL_areNext_235 : decode cL_areNext 235 = .ok (.goto (-200), 3) := by decide +kernel
theorem dL_areNext_238 : decode cL_areNext 238 = .ok (.aload_n 0, 1) := by decide +kernel
theorem dL_areNext_239 : decode cL_areNext 239 = .ok (.invokevirtual 41, 3) := by decide +kernel
theorem dL_areNext_242 : decode cL_areNext 242 = .ok (.aload_n 0, 1) := by decide +kernel
theorem dL_areNext_243 : decode cL_areNext 243 = .ok (.iconst 0, 1) := by decide +kernel
theorem dL_areNext_244 : decode cL_areNext 244 = .ok (.invokevirtual 38, 3) := by decide +kernel
theorem dL_areNext_247 : decode cL_areNext 247 = .ok (.if_icmp .ne 7, 3) := by decide +kernel
theorem dL_areNext_250 : decode cL_areNext 250 = .ok (.iconst 1, 1) := by decide +kernel
theorem dL_areNext_251 : decode cL_areNext 251 = .ok (.goto 4, 3) := by decide +kernel
theorem dL_areNext_254 : decode cL_areNext 254 = .ok (.iconst 0, 1) := by decide +kernel
theorem dL_areNext_255 : decode cL_areNext 255 = .ok (.ireturn, 1) := by decide +kernel
theorem dL_holds_0 : decode cL_holds 0 = .ok (.iconst 0, 1) := by decide +kernel
theorem dL_holds_1 : decode cL_holds 1 = .ok (.istore_n 1, 1) := by decide +kernel
theorem dL_holds_2 : decode cL_holds 2 = .ok (.iconst 0, 1) := by decide +kernel
theorem dL_holds_3 : decode cL_holds 3 = .ok (.istore_n 2, 1) := by decide +kernel
theorem dL_holds_4 : decode cL_holds 4 = .ok (.iconst 0, 1) := by decide +kernel
theorem dL_holds_5 : decode cL_holds 5 = .ok (.istore_n 3, 1) := by decide +kernel
theorem dL_holds_6 : decode cL_holds 6 = .ok (.iconst 0, 1) := by decide +kernel
theorem dL_holds_7 : decode cL_holds 7 = .ok (.istore 4, 2) := by decide +kernel
theorem dL_holds_9 : decode cL_holds 9 = .ok (.iconst 0, 1) := by decide +kernel
theorem dL_holds_10 : decode cL_holds 10 = .ok (.istore 5, 2) := by decide +kernel
theorem dL_holds_12 : decode cL_holds 12 = .ok (.iload 5, 2) := by decide +kernel
theorem dL_holds_14 : decode cL_holds 14 = .ok (.iconst 5, 1) := by decide +kernel
theorem dL_holds_15 : decode cL_holds 15 = .ok (.if_icmp .ge 65, 3) := by decide +kernel
theorem dL_holds_18 : decode cL_holds 18 = .ok (.iload_n 1, 1) := by decide +kernel
theorem dL_holds_19 : decode cL_holds 19 = .ok (.aload_n 0, 1) := by decide +kernel
theorem dL_holds_20 : decode cL_holds 20 = .ok (.iload 5, 2) := by decide +kernel
theorem dL_holds_22 : decode cL_holds 22 = .ok (.bipush 9, 2) := by decide +kernel
theorem dL_holds_24 : decode cL_holds 24 = .ok (.invokevirtual 10, 3) := by decide +kernel
theorem dL_holds_27 : decode cL_holds 27 = .ok (.iadd, 1) := by decide +kernel
theorem dL_holds_28 : decode cL_holds 28 = .ok (.istore_n 1, 1) := by decide +kernel
theorem dL_holds_29 : decode cL_holds 29 = .ok (.iload_n 2, 1) := by decide +kernel
theorem dL_holds_30 : decode cL_holds 30 = .ok (.aload_n 0, 1) := by decide +kernel
theorem dL_holds_31 : decode cL_holds 31 = .ok (.iload 5, 2) := by decide +kernel
theorem dL_holds_33 : decode cL_holds 33 = .ok (.iconst 1, 1) := by decide +kernel
theorem dL_holds_34 : decode cL_holds 34 = .ok (.invokevirtual 10, 3) := by decide +kernel
theorem dL_holds_37 : decode cL_holds 37 = .ok (.iadd, 1) := by decide +kernel
theorem dL_holds_38 : decode cL_holds 38 = .ok (.istore_n 2, 1) := by decide +kernel
theorem dL_holds_39 : decode cL_holds 39 = .ok (.iload_n 3, 1) := by decide +kernel
theorem dL_holds_40 : decode cL_holds 40 = .ok (.aload_n 0, 1) := by decide +kernel
theorem dL_holds_41 : decode cL_holds 41 = .ok (.iload 5, 2) := by decide +kernel
theorem dL_holds_43 : decode cL_holds 43 = .ok (.bipush 7, 2) := by decide +kernel
theorem dL_holds_45 : decode cL_holds 45 = .ok (.invokevirtual 10, 3) := by decide +kernel
theorem dL_holds_48 : decode cL_holds 48 = .ok (.iadd, 1) := by decide +kernel
theorem dL_holds_49 : decode cL_holds 49 = .ok (.istore_n 3, 1) := by decide +kernel
theorem dL_holds_50 : decode cL_holds 50 = .ok (.iload 4, 2) := by decide +kernel
theorem dL_holds_52 : decode cL_holds 52 = .ok (.aload_n 0, 1) := by decide +kernel
theorem dL_holds_53 : decode cL_holds 53 = .ok (.iload 5, 2) := by decide +kernel
theorem dL_holds_55 : decode cL_holds 55 = .ok (.bipush 10, 2) := by decide +kernel
theorem dL_holds_57 : decode cL_holds 57 = .ok (.invokevirtual 10, 3) := by decide +kernel
theorem dL_holds_60 : decode cL_holds 60 = .ok (.iadd, 1) := by decide +kernel
theorem dL_holds_61 : decode cL_holds 61 = .ok (.istore 4, 2) := by decide +kernel
theorem dL_holds_63 : decode cL_holds 63 = .ok (.aload_n 0, 1) := by decide +kernel
theorem dL_holds_64 : decode cL_holds 64 = .ok (.iload 5, 2) := by decide +kernel
theorem dL_holds_66 : decode cL_holds 66 = .ok (.invokestatic 45, 3) := by decide +kernel
theorem dL_holds_69 : decode cL_holds 69 = .ok (.ifCond .ne 5, 3) := by decide +kernel
theorem dL_holds_72 : decode cL_holds 72 = .ok (.iconst 0, 1) := by decide +kernel
theorem dL_holds_73 : decode cL_holds 73 = .ok (.ireturn, 1) := by decide +kernel
theorem dL_holds_74 : decode cL_holds 74 = .ok (.iinc 5 1, 3) := by decide +kernel
theorem dL_holds_77 : decode cL_holds 77 = .ok (.goto (-65), 3) := by decide +kernel
theorem dL_holds_80 : decode cL_holds 80 = .ok (.iconst 0, 1) := by decide +kernel
theorem dL_holds_81 : decode cL_holds 81 = .ok (.istore 5, 2) := by decide +kernel
theorem dL_holds_83 : decode cL_holds 83 = .ok (.iload 5, 2) := by decide +kernel
theorem dL_holds_85 : decode cL_holds 85 = .ok (.bipush 12, 2) := by decide +kernel
theorem dL_holds_87 : decode cL_holds 87 = .ok (.if_icmp .ge 65, 3) := by decide +kernel
theorem dL_holds_90 : decode cL_holds 90 = .ok (.aload_n 0, 1) := by decide +kernel
theorem dL_holds_91 : decode cL_holds 91 = .ok (.iload 5, 2) := by decide +kernel
theorem dL_holds_93 : decode cL_holds 93 = .ok (.invokevirtual 26, 3) := by decide +kernel
theorem dL_holds_96 : decode cL_holds 96 = .ok (.aload_n 0, 1) := by decide +kernel
theorem dL_holds_97 : decode cL_holds 97 = .ok (.iload 5, 2) := by decide +kernel
theorem dL_holds_99 : decode cL_holds 99 = .ok (.bipush 12, 2) := by decide +kernel
theorem dL_holds_101 : decode cL_holds 101 = .ok (.iadd, 1) := by decide +kernel
theorem dL_holds_102 : decode cL_holds 102 = .ok (.invokevirtual 26, 3) := by decide +kernel
theorem dL_holds_105 : decode cL_holds 105 = .ok (.if_icmp .ne 39, 3) := by decide +kernel
theorem dL_holds_108 : decode cL_holds 108 = .ok (.aload_n 0, 1) := by decide +kernel
theorem dL_holds_109 : decode cL_holds 109 = .ok (.iload 5, 2) := by decide +kernel
theorem dL_holds_111 : decode cL_holds 111 = .ok (.invokevirtual 26, 3) := by decide +kernel
theorem dL_holds_114 : decode cL_holds 114 = .ok (.aload_n 0, 1) := by decide +kernel
theorem dL_holds_115 : decode cL_holds 115 = .ok (.bipush 11, 2) := by decide +kernel
theorem dL_holds_117 : decode cL_holds 117 = .ok (.invokevirtual 19, 3) := by decide +kernel
theorem dL_holds_120 : decode cL_holds 120 = .ok (.iload 5, 2) := by decide +kernel
theorem dL_holds_122 : decode cL_holds 122 = .ok (.bipush 6, 2) := by decide +kernel
theorem dL_holds_124 : decode cL_holds 124 = .ok (.if_icmp .ge 11, 3) := by decide +kernel
theorem dL_holds_127 : decode cL_holds 127 = .ok (.bipush 6, 2) := by decide +kernel
theorem dL_holds_129 : decode cL_holds 129 = .ok (.iload 5, 2) := by decide +kernel
theorem dL_holds_131 : decode cL_holds 131 = .ok (.isub, 1) := by decide +kernel
theorem dL_holds_132 : decode cL_holds 132 = .ok (.goto 8, 3) := by decide +kernel
theorem dL_holds_135 : decode cL_holds 135 = .ok (.iload 5, 2) := by decide +kernel
theorem dL_holds_137 : decode cL_holds 137 = .ok (.bipush 6, 2) := by decide +kernel
theorem dL_holds_139 : decode cL_holds 139 = .ok (.isub, 1) := by decide +kernel
theorem dL_holds_140 : decode cL_holds 140 = .ok (.imul, 1) := by decide +kernel
theorem dL_holds_141 : decode cL_holds 141 = .ok (.if_icmp .eq 5, 3) := by decide +kernel
theorem dL_holds_144 : decode cL_holds 144 = .ok (.iconst 0, 1) := by decide +kernel
theorem dL_holds_145 : decode cL_holds 145 = .ok (.ireturn, 1) := by decide +kernel
theorem dL_holds_146 : decode cL_holds 146 = .ok (.iinc 5 1, 3) := by decide +kernel
theorem dL_holds_149 : decode cL_holds 149 = .ok (.goto (-66), 3) := by decide +kernel
theorem dL_holds_152 : decode cL_holds 152 = .ok (.aload_n 0, 1) := by decide +kernel
theorem dL_holds_153 : decode cL_holds 153 = .ok (.bipush 8, 2) := by decide +kernel
theorem dL_holds_155 : decode cL_holds 155 = .ok (.invokevirtual 19, 3) := by decide +kernel
theorem dL_holds_158 : decode cL_holds 158 = .ok (.ifCond .ne 7, 3) := by decide +kernel
theorem dL_holds_161 : decode cL_holds 161 = .ok (.dconst 1, 1) := by decide +kernel
theorem dL_holds_162 : decode cL_holds 162 = .ok (.goto 25, 3) := by decide +kernel
theorem dL_holds_165 : decode cL_holds 165 = .ok (.aload_n 0, 1) := by decide +kernel
theorem dL_holds_166 : decode cL_holds 166 = .ok (.bipush 8, 2) := by decide +kernel
theorem dL_holds_168 : decode cL_holds 168 = .ok (.invokevirtual 19, 3) := by decide +kernel
theorem dL_holds_171 : decode cL_holds 171 = .ok (.aload_n 0, 1) := by decide +kernel
theorem dL_holds_172 : decode cL_holds 172 = .ok (.bipush 9, 2) := by decide +kernel
theorem dL_holds_174 : decode cL_holds 174 = .ok (.invokevirtual 19, 3) := by decide +kernel
theorem dL_holds_177 : decode cL_holds 177 = .ok (.isub, 1) := by decide +kernel
theorem dL_holds_178 : decode cL_holds 178 = .ok (.i2d, 1) := by decide +kernel
theorem dL_holds_179 : decode cL_holds 179 = .ok (.aload_n 0, 1) := by decide +kernel
theorem dL_holds_180 : decode cL_holds 180 = .ok (.bipush 8, 2) := by decide +kernel
theorem dL_holds_182 : decode cL_holds 182 = .ok (.invokevirtual 19, 3) := by decide +kernel
theorem dL_holds_185 : decode cL_holds 185 = .ok (.i2d, 1) := by decide +kernel
theorem dL_holds_186 : decode cL_holds 186 = .ok (.ddiv, 1) := by decide +kernel
theorem dL_holds_187 : decode cL_holds 187 = .ok (.dstore 5, 2) := by decide +kernel
theorem dL_holds_189 : decode cL_holds 189 = .ok (.iload_n 1, 1) := by decide +kernel
theorem dL_holds_190 : decode cL_holds 190 = .ok (.aload_n 0, 1) := by decide +kernel
theorem dL_holds_191 : decode cL_holds 191 = .ok (.iconst 2, 1) := by decide +kernel
theorem dL_holds_192 : decode cL_holds 192 = .ok (.invokevirtual 19, 3) := by decide +kernel
theorem dL_holds_195 : decode cL_holds 195 = .ok (.iadd, 1) := by decide +kernel
theorem dL_holds_196 : decode cL_holds 196 = .ok (.aload_n 0, 1) := by decide +kernel
theorem dL_holds_197 : decode cL_holds 197 = .ok (.iconst 0, 1) := by decide +kernel
theorem dL_holds_198 : decode cL_holds 198 = .ok (.invokevirtual 19, 3) := by decide +kernel
theorem dL_holds_201 : decode cL_holds 201 = .ok (.if_icmp .ne 117, 3) := by decide +kernel
theorem dL_holds_204 : decode cL_holds 204 = .ok (.aload_n 0, 1) := by decide +kernel
theorem dL_holds_205 : decode cL_holds 205 = .ok (.iconst 3, 1) := by decide +kernel
theorem dL_holds_206 : decode cL_holds 206 = .ok (.invokevirtual 19, 3) := by decide +kernel
theorem dL_holds_209 : decode cL_holds 209 = .ok (.aload_n 0, 1) := by decide +kernel
theorem dL_holds_210 : decode cL_holds 210 = .ok (.iconst 4, 1) := by decide +kernel
theorem dL_holds_211 : decode cL_holds 211 = .ok (.invokevirtual 19, 3) := by decide +kernel
theorem dL_holds_214 : decode cL_holds 214 = .ok (.aload_n 0, 1) := by decide +kernel
theorem dL_holds_215 : decode cL_holds 215 = .ok (.iconst 5, 1) := by decide +kernel
theorem dL_holds_216 : decode cL_holds 216 = .ok (.invokevirtual 19, 3) := by decide +kernel
theorem dL_holds_219 : decode cL_holds 219 = .ok (.iadd, 1) := by decide +kernel
theorem dL_holds_220 : decode cL_holds 220 = .ok (.if_icmp .ne 98, 3) := by decide +kernel
theorem dL_holds_223 : decode cL_holds 223 = .ok (.aload_n 0, 1) := by decide +kernel
theorem dL_holds_224 : decode cL_holds 224 = .ok (.iconst 5, 1) := by decide +kernel
theorem dL_holds_225 : decode cL_holds 225 = .ok (.invokevirtual 19, 3) := by decide +kernel
theorem dL_holds_228 : decode cL_holds 228 = .ok (.iload_n 2, 1) := by decide +kernel
theorem dL_holds_229 : decode cL_holds 229 = .ok (.if_icmp .ne 89, 3) := by decide +kernel
theorem dL_holds_232 : decode cL_holds 232 = .ok (.aload_n 0, 1) := by decide +kernel
theorem dL_holds_233 : decode cL_holds 233 = .ok (.bipush 7, 2) := by decide +kernel
theorem dL_holds_235 : decode cL_holds 235 = .ok (.invokevirtual 19, 3) := by decide +kernel
theorem dL_holds_238 : decode cL_holds 238 = .ok (.iload_n 3, 1) := by decide +kernel
theorem dL_holds_239 : decode cL_holds 239 = .ok (.if_icmp .ne 79, 3) := by decide +kernel
theorem dL_holds_242 : decode cL_holds 242 = .ok (.aload_n 0, 1) := by decide +kernel
theorem dL_holds_243 : decode cL_holds 243 = .ok (.bipush 8, 2) := by decide +kernel
theorem dL_holds_245 : decode cL_holds 245 = .ok (.invokevirtual 19, 3) := by decide +kernel
theorem dL_holds_248 : decode cL_holds 248 = .ok (.iload 4, 2) := by decide +kernel
theorem dL_holds_250 : decode cL_holds 250 = .ok (.if_icmp .ne 68, 3) := by decide +kernel
theorem dL_holds_253 : decode cL_holds 253 = .ok (.aload_n 0, 1) := by decide +kernel
theorem dL_holds_254 : decode cL_holds 254 = .ok (.bipush 6, 2) := by decide +kernel
theorem dL_holds_256 : decode cL_holds 256 = .ok (.invokevirtual 19, 3) := by decide +kernel
theorem dL_holds_259 : decode cL_holds 259 = .ok (.aload_n 0, 1) := by decide +kernel
theorem dL_holds_260 : decode cL_holds 260 = .ok (.bipush 7, 2) := by decide +kernel
theorem dL_holds_262 : decode cL_holds 262 = .ok (.invokevirtual 19, 3) := by decide +kernel
theorem dL_holds_265 : decode cL_holds 265 = .ok (.aload_n 0, 1) := by decide +kernel
theorem dL_holds_266 : decode cL_holds 266 = .ok (.bipush 8, 2) := by decide +kernel
theorem dL_holds_268 : decode cL_holds 268 = .ok (.invokevirtual 19, 3) := by decide +kernel
theorem dL_holds_271 : decode cL_holds 271 = .ok (.iadd, 1) := by decide +kernel
theorem dL_holds_272 : decode cL_holds 272 = .ok (.aload_n 0, 1) := by decide +kernel
theorem dL_holds_273 : decode cL_holds 273 = .ok (.bipush 10, 2) := by decide +kernel
theorem dL_holds_275 : decode cL_holds 275 = .ok (.invokevirtual 19, 3) := by decide +kernel
theorem dL_holds_278 : decode cL_holds 278 = .ok (.iadd, 1) := by decide +kernel
theorem dL_holds_279 : decode cL_holds 279 = .ok (.if_icmp .ne 39, 3) := by decide +kernel
theorem dL_holds_282 : decode cL_holds 282 = .ok (.aload_n 0, 1) := by decide +kernel
theorem dL_holds_283 : decode cL_holds 283 = .ok (.bipush 9, 2) := by decide +kernel
theorem dL_holds_285 : decode cL_holds 285 = .ok (.invokevirtual 19, 3) := by decide +kernel
theorem dL_holds_288 : decode cL_holds 288 = .ok (.aload_n 0, 1) := by decide +kernel
theorem dL_holds_289 : decode cL_holds 289 = .ok (.bipush 8, 2) := by decide +kernel
theorem dL_holds_291 : decode cL_holds 291 = .ok (.invokevirtual 19, 3) := by decide +kernel
theorem dL_holds_294 : decode cL_holds 294 = .ok (.if_icmp .gt 24, 3) := by decide +kernel
theorem dL_holds_297 : decode cL_holds 297 = .ok (.aload_n 0, 1) := by decide +kernel
theorem dL_holds_298 : decode cL_holds 298 = .ok (.invokevirtual 48, 3) := by decide +kernel
theorem dL_holds_301 : decode cL_holds 301 = .ok (.dload 5, 2) := by decide +kernel
theorem dL_holds_303 : decode cL_holds 303 = .ok (.dcmp .l, 1) := by decide +kernel
theorem dL_holds_304 : decode cL_holds 304 = .ok (.ifCond .ne 14, 3) := by decide +kernel
theorem dL_holds_307 : decode cL_holds 307 = .ok (.aload_n 0, 1) := by decide +kernel
theorem dL_holds_308 : decode cL_holds 308 = .ok (.invokestatic 52, 3) := by decide +kernel
theorem dL_holds_311 : decode cL_holds 311 = .ok (.ifCond .eq 7, 3) := by decide +kernel
theorem dL_holds_314 : decode cL_holds 314 = .ok (.iconst 1, 1) := by decide +kernel
theorem dL_holds_315 : decode cL_holds 315 = .ok (.goto 4, 3) := by decide +kernel
theorem dL_holds_318 : decode cL_holds 318 = .ok (.iconst 0, 1) := by decide +kernel
theorem dL_holds_319 : decode cL_holds 319 = .ok (.ireturn, 1) := by decide +kernel
theorem dL_passes_0 : decode cL_passes 0 = .ok (.iconst 5, 1) := by decide +kernel
theorem dL_passes_1 : decode cL_passes 1 = .ok (.newarray .int, 2) := by decide +kernel
theorem dL_passes_3 : decode cL_passes 3 = .ok (.astore_n 2, 1) := by decide +kernel
theorem dL_passes_4 : decode cL_passes 4 = .ok (.iconst 5, 1) := by decide +kernel
theorem dL_passes_5 : decode cL_passes 5 = .ok (.newarray .int, 2) := by decide +kernel
theorem dL_passes_7 : decode cL_passes 7 = .ok (.astore_n 3, 1) := by decide +kernel
theorem dL_passes_8 : decode cL_passes 8 = .ok (.iconst 4, 1) := by decide +kernel
theorem dL_passes_9 : decode cL_passes 9 = .ok (.newarray .int, 2) := by decide +kernel
theorem dL_passes_11 : decode cL_passes 11 = .ok (.astore 4, 2) := by decide +kernel
theorem dL_passes_13 : decode cL_passes 13 = .ok (.iconst 0, 1) := by decide +kernel
theorem dL_passes_14 : decode cL_passes 14 = .ok (.istore 5, 2) := by decide +kernel
theorem dL_passes_16 : decode cL_passes 16 = .ok (.iload 5, 2) := by decide +kernel
theorem dL_passes_18 : decode cL_passes 18 = .ok (.iconst 5, 1) := by decide +kernel
theorem dL_passes_19 : decode cL_passes 19 = .ok (.if_icmp .ge 21, 3) := by decide +kernel
theorem dL_passes_22 : decode cL_passes 22 = .ok (.aload_n 3, 1) := by decide +kernel
theorem dL_passes_23 : decode cL_passes 23 = .ok (.iload 5, 2) := by decide +kernel
theorem dL_passes_25 : decode cL_passes 25 = .ok (.aload_n 0, 1) := by decide +kernel
theorem dL_passes_26 : decode cL_passes 26 = .ok (.iload 5, 2) := by decide +kernel
theorem dL_passes_28 : decode cL_passes 28 = .ok (.bipush 9, 2) := by decide +kernel
theorem dL_passes_30 : decode cL_passes 30 = .ok (.invokevirtual 10, 3) := by decide +kernel
theorem dL_passes_33 : decode cL_passes 33 = .ok (.iastore, 1) := by decide +kernel
theorem dL_passes_34 : decode cL_passes 34 = .ok (.iinc 5 1, 3) := by decide +kernel
theorem dL_passes_37 : decode cL_passes 37 = .ok (.goto (-21), 3) := by decide +kernel
theorem dL_passes_40 : decode cL_passes 40 = .ok (.iconst 0, 1) := by decide +kernel
theorem dL_passes_41 : decode cL_passes 41 = .ok (.istore 5, 2) := by decide +kernel
theorem dL_passes_43 : decode cL_passes 43 = .ok (.iload 5, 2) := by decide +kernel
theorem dL_passes_45 : decode cL_passes 45 = .ok (.iconst 4, 1) := by decide +kernel
theorem dL_passes_46 : decode cL_passes 46 = .ok (.if_icmp .ge 61, 3) := by decide +kernel
theorem dL_passes_49 : decode cL_passes 49 = .ok (.aload_n 2, 1) := by decide +kernel
theorem dL_passes_50 : decode cL_passes 50 = .ok (.iload 5, 2) := by decide +kernel
theorem dL_passes_52 : decode cL_passes 52 = .ok (.aload_n 0, 1) := by decide +kernel
theorem dL_passes_53 : decode cL_passes 53 = .ok (.iload 5, 2) := by decide +kernel
theorem dL_passes_55 : decode cL_passes 55 = .ok (.ifCond .ne 8, 3) := by decide +kernel
theorem dL_passes_58 : decode cL_passes 58 = .ok (.bipush 8, 2) := by decide +kernel
theorem dL_passes_60 : decode cL_passes 60 = .ok (.goto 25, 3) := by decide +kernel
theorem dL_passes_63 : decode cL_passes 63 = .ok (.iload 5, 2) := by decide +kernel
theorem dL_passes_65 : decode cL_passes 65 = .ok (.iconst 1, 1) := by decide +kernel
theorem dL_passes_66 : decode cL_passes 66 = .ok (.if_icmp .ne 8, 3) := by decide +kernel
theorem dL_passes_69 : decode cL_passes 69 = .ok (.bipush 9, 2) := by decide +kernel
theorem dL_passes_71 : decode cL_passes 71 = .ok (.goto 14, 3) := by decide +kernel
theorem dL_passes_74 : decode cL_passes 74 = .ok (.iload 5, 2) := by decide +kernel
theorem dL_passes_76 : decode cL_passes 76 = .ok (.iconst 2, 1) := by decide +kernel
theorem dL_passes_77 : decode cL_passes 77 = .ok (.if_icmp .ne 7, 3) := by decide +kernel
theorem dL_passes_80 : decode cL_passes 80 = .ok (.iconst 2, 1) := by decide +kernel
theorem dL_passes_81 : decode cL_passes 81 = .ok (.goto 4, 3) := by decide +kernel
theorem dL_passes_84 : decode cL_passes 84 = .ok (.iconst 4, 1) := by decide +kernel
theorem dL_passes_85 : decode cL_passes 85 = .ok (.invokevirtual 19, 3) := by decide +kernel
theorem dL_passes_88 : decode cL_passes 88 = .ok (.iastore, 1) := by decide +kernel
theorem dL_passes_89 : decode cL_passes 89 = .ok (.aload 4, 2) := by decide +kernel
theorem dL_passes_91 : decode cL_passes 91 = .ok (.iload 5, 2) := by decide +kernel
theorem dL_passes_93 : decode cL_passes 93 = .ok (.aload_n 0, 1) := by decide +kernel
theorem dL_passes_94 : decode cL_passes 94 = .ok (.iload_n 1, 1) := by decide +kernel
theorem dL_passes_95 : decode cL_passes 95 = .ok (.iload 5, 2) := by decide +kernel
theorem dL_passes_97 : decode cL_passes 97 = .ok (.invokevirtual 56, 3) := by decide +kernel
theorem dL_passes_100 : decode cL_passes 100 = .ok (.iastore, 1) := by decide +kernel
theorem dL_passes_101 : decode cL_passes 101 = .ok (.iinc 5 1, 3) := by decide +kernel
theorem dL_passes_104 : decode cL_passes 104 = .ok (.goto (-61), 3) := by decide +kernel
theorem dL_passes_107 : decode cL_passes 107 = .ok (.aload_n 0, 1) := by decide +kernel
theorem dL_passes_108 : decode cL_passes 108 = .ok (.iconst 0, 1) := by decide +kernel
theorem dL_passes_109 : decode cL_passes 109 = .ok (.invokevirtual 19, 3) := by decide +kernel
theorem dL_passes_112 : decode cL_passes 112 = .ok (.istore 5, 2) := by decide +kernel
theorem dL_passes_114 : decode cL_passes 114 = .ok (.aload_n 0, 1) := by decide +kernel
theorem dL_passes_115 : decode cL_passes 115 = .ok (.iload_n 1, 1) := by decide +kernel
theorem dL_passes_116 : decode cL_passes 116 = .ok (.invokevirtual 59, 3) := by decide +kernel
theorem dL_passes_119 : decode cL_passes 119 = .ok (.aload 4, 2) := by decide +kernel
theorem dL_passes_121 : decode cL_passes 121 = .ok (.iconst 0, 1) := by decide +kernel
theorem dL_passes_122 : decode cL_passes 122 = .ok (.iaload, 1) := by decide +kernel
theorem dL_passes_123 : decode cL_passes 123 = .ok (.if_icmp .ne 85, 3) := by decide +kernel
theorem dL_passes_126 : decode cL_passes 126 = .ok (.aload_n 0, 1) := by decide +kernel
theorem dL_passes_127 : decode cL_passes 127 = .ok (.iconst 0, 1) := by decide +kernel
theorem dL_passes_128 : decode cL_passes 128 = .ok (.invokevirtual 19, 3) := by decide +kernel
theorem dL_passes_131 : decode cL_passes 131 = .ok (.iload 5, 2) := by decide +kernel
theorem dL_passes_133 : decode cL_passes 133 = .ok (.iload_n 1, 1) := by decide +kernel
theorem dL_passes_134 : decode cL_passes 134 = .ok (.iadd, 1) := by decide +kernel
theorem dL_passes_135 : decode cL_passes 135 = .ok (.if_icmp .ne 73, 3) := by decide +kernel
theorem dL_passes_138 : decode cL_passes 138 = .ok (.aload_n 0, 1) := by decide +kernel
theorem dL_passes_139 : decode cL_passes 139 = .ok (.bipush 8, 2) := by decide +kernel
theorem dL_passes_141 : decode cL_passes 141 = .ok (.invokevirtual 19, 3) := by decide +kernel
theorem dL_passes_144 : decode cL_passes 144 = .ok (.aload_n 2, 1) := by decide +kernel
theorem dL_passes_145 : decode cL_passes 145 = .ok (.iconst 0, 1) := by decide +kernel
theorem dL_passes_146 : decode cL_passes 146 = .ok (.iaload, 1) := by decide +kernel
theorem dL_passes_147 : decode cL_passes 147 = .ok (.aload 4, 2) := by decide +kernel
theorem dL_passes_149 : decode cL_passes 149 = .ok (.iconst 0, 1) := by decide +kernel
theorem dL_passes_150 : decode cL_passes 150 = .ok (.iaload, 1) := by decide +kernel
theorem dL_passes_151 : decode cL_passes 151 = .ok (.iadd, 1) := by decide +kernel
theorem dL_passes_152 : decode cL_passes 152 = .ok (.if_icmp .ne 56, 3) := by decide +kernel
theorem dL_passes_155 : decode cL_passes 155 = .ok (.aload_n 0, 1) := by decide +kernel
theorem dL_passes_156 : decode cL_passes 156 = .ok (.bipush 9, 2) := by decide +kernel
theorem dL_passes_158 : decode cL_passes 158 = .ok (.invokevirtual 19, 3) := by decide +kernel
theorem dL_passes_161 : decode cL_passes 161 = .ok (.aload_n 2, 1) := by decide +kernel
theorem dL_passes_162 : decode cL_passes 162 = .ok (.iconst 1, 1) := by decide +kernel
theorem dL_passes_163 : decode cL_passes 163 = .ok (.iaload, 1) := by decide +kernel
theorem dL_passes_164 : decode cL_passes 164 = .ok (.aload 4, 2) := by decide +kernel
theorem dL_passes_166 : decode cL_passes 166 = .ok (.iconst 1, 1) := by decide +kernel
theorem dL_passes_167 : decode cL_passes 167 = .ok (.iaload, 1) := by decide +kernel
theorem dL_passes_168 : decode cL_passes 168 = .ok (.iadd, 1) := by decide +kernel
theorem dL_passes_169 : decode cL_passes 169 = .ok (.if_icmp .ne 39, 3) := by decide +kernel
theorem dL_passes_172 : decode cL_passes 172 = .ok (.aload_n 0, 1) := by decide +kernel
theorem dL_passes_173 : decode cL_passes 173 = .ok (.iconst 2, 1) := by decide +kernel
theorem dL_passes_174 : decode cL_passes 174 = .ok (.invokevirtual 19, 3) := by decide +kernel
theorem dL_passes_177 : decode cL_passes 177 = .ok (.aload_n 2, 1) := by decide +kernel
theorem dL_passes_178 : decode cL_passes 178 = .ok (.iconst 2, 1) := by decide +kernel
theorem dL_passes_179 : decode cL_passes 179 = .ok (.iaload, 1) := by decide +kernel
theorem dL_passes_180 : decode cL_passes 180 = .ok (.aload 4, 2) := by decide +kernel
theorem dL_passes_182 : decode cL_passes 182 = .ok (.iconst 2, 1) := by decide +kernel
theorem dL_passes_183 : decode cL_passes 183 = .ok (.iaload, 1) := by decide +kernel
theorem dL_passes_184 : decode cL_passes 184 = .ok (.iadd, 1) := by decide +kernel
theorem dL_passes_185 : decode cL_passes 185 = .ok (.if_icmp .ne 23, 3) := by decide +kernel
theorem dL_passes_188 : decode cL_passes 188 = .ok (.aload_n 0, 1) := by decide +kernel
theorem dL_passes_189 : decode cL_passes 189 = .ok (.iconst 4, 1) := by decide +kernel
theorem dL_passes_190 : decode cL_passes 190 = .ok (.invokevirtual 19, 3) := by decide +kernel
theorem dL_passes_193 : decode cL_passes 193 = .ok (.aload_n 2, 1) := by decide +kernel
theorem dL_passes_194 : decode cL_passes 194 = .ok (.iconst 3, 1) := by decide +kernel
theorem dL_passes_195 : decode cL_passes 195 = .ok (.iaload, 1) := by decide +kernel
theorem dL_passes_196 : decode cL_passes 196 = .ok (.aload 4, 2) := by decide +kernel
theorem dL_passes_198 : decode cL_passes 198 = .ok (.iconst 3, 1) := by decide +kernel
theorem dL_passes_199 : decode cL_passes 199 = .ok (.iaload, 1) := by decide +kernel
theorem dL_passes_200 : decode cL_passes 200 = .ok (.iadd, 1) := by decide +kernel
theorem dL_passes_201 : decode cL_passes 201 = .ok (.if_icmp .ne 7, 3) := by decide +kernel
theorem dL_passes_204 : decode cL_passes 204 = .ok (.iconst 1, 1) := by decide +kernel
theorem dL_passes_205 : decode cL_passes 205 = .ok (.goto 4, 3) := by decide +kernel
theorem dL_passes_208 : decode cL_passes 208 = .ok (.iconst 0, 1) := by decide +kernel
theorem dL_passes_209 : decode cL_passes 209 = .ok (.istore 6, 2) := by decide +kernel
theorem dL_passes_211 : decode cL_passes 211 = .ok (.iload_n 1, 1) := by decide +kernel
theorem dL_passes_212 : decode cL_passes 212 = .ok (.iconst 1, 1) := by decide +kernel
theorem dL_passes_213 : decode cL_passes 213 = .ok (.if_icmp .le 6, 3) := by decide +kernel
theorem dL_passes_216 : decode cL_passes 216 = .ok (.iload 6, 2) := by decide +kernel
theorem dL_passes_218 : decode cL_passes 218 = .ok (.ireturn, 1) := by decide +kernel
theorem dL_passes_219 : decode cL_passes 219 = .ok (.iconst 0, 1) := by decide +kernel
theorem dL_passes_220 : decode cL_passes 220 = .ok (.istore 7, 2) := by decide +kernel
theorem dL_passes_222 : decode cL_passes 222 = .ok (.iload 7, 2) := by decide +kernel
theorem dL_passes_224 : decode cL_passes 224 = .ok (.iconst 5, 1) := by decide +kernel
theorem dL_passes_225 : decode cL_passes 225 = .ok (.if_icmp .ge 52, 3) := by decide +kernel
theorem dL_passes_228 : decode cL_passes 228 = .ok (.iload 6, 2) := by decide +kernel
theorem dL_passes_230 : decode cL_passes 230 = .ok (.ifCond .eq 38, 3) := by decide +kernel
theorem dL_passes_233 : decode cL_passes 233 = .ok (.aload_n 0, 1) := by decide +kernel
theorem dL_passes_234 : decode cL_passes 234 = .ok (.iload 7, 2) := by decide +kernel
theorem dL_passes_236 : decode cL_passes 236 = .ok (.bipush 9, 2) := by decide +kernel
theorem dL_passes_238 : decode cL_passes 238 = .ok (.invokevirtual 10, 3) := by decide +kernel
theorem dL_passes_241 : decode cL_passes 241 = .ok (.aload_n 3, 1) := by decide +kernel
theorem dL_passes_242 : decode cL_passes 242 = .ok (.iload 7, 2) := by decide +kernel
theorem dL_passes_244 : decode cL_passes 244 = .ok (.iaload, 1) := by decide +kernel
theorem dL_passes_245 : decode cL_passes 245 = .ok (.aload_n 0, 1) := by decide +kernel
theorem dL_passes_246 : decode cL_passes 246 = .ok (.iconst 1, 1) := by decide +kernel
theorem dL_passes_247 : decode cL_passes 247 = .ok (.invokevirtual 19, 3) := by decide +kernel
theorem dL_passes_250 : decode cL_passes 250 = .ok (.iload 7, 2) := by decide +kernel
theorem dL_passes_252 : decode cL_passes 252 = .ok (.if_icmp .ne 7, 3) := by decide +kernel
theorem dL_passes_255 : decode cL_passes 255 = .ok (.iconst 1, 1) := by decide +kernel
theorem dL_passes_256 : decode cL_passes 256 = .ok (.goto 4, 3) := by decide +kernel
theorem dL_passes_259 : decode cL_passes 259 = .ok (.iconst 0, 1) := by decide +kernel
theorem dL_passes_260 : decode cL_passes 260 = .ok (.iadd, 1) := by decide +kernel
theorem dL_passes_261 : decode cL_passes 261 = .ok (.if_icmp .ne 7, 3) := by decide +kernel
theorem dL_passes_264 : decode cL_passes 264 = .ok (.iconst 1, 1) := by decide +kernel
theorem dL_passes_265 : decode cL_passes 265 = .ok (.goto 4, 3) := by decide +kernel
theorem dL_passes_268 : decode cL_passes 268 = .ok (.iconst 0, 1) := by decide +kernel
theorem dL_passes_269 : decode cL_passes 269 = .ok (.istore 6, 2) := by decide +kernel
theorem dL_passes_271 : decode cL_passes 271 = .ok (.iinc 7 1, 3) := by decide +kernel
theorem dL_passes_274 : decode cL_passes 274 = .ok (.goto (-52), 3) := by decide +kernel
theorem dL_passes_277 : decode cL_passes 277 = .ok (.iload 6, 2) := by decide +kernel
theorem dL_passes_279 : decode cL_passes 279 = .ok (.ifCond .eq 35, 3) := by decide +kernel
theorem dL_passes_282 : decode cL_passes 282 = .ok (.aload_n 0, 1) := by decide +kernel
theorem dL_passes_283 : decode cL_passes 283 = .ok (.iconst 1, 1) := by decide +kernel
theorem dL_passes_284 : decode cL_passes 284 = .ok (.invokevirtual 19, 3) := by decide +kernel
theorem dL_passes_287 : decode cL_passes 287 = .ok (.ifCond .lt 7, 3) := by decide +kernel
theorem dL_passes_290 : decode cL_passes 290 = .ok (.iconst 1, 1) := by decide +kernel
theorem dL_passes_291 : decode cL_passes 291 = .ok (.goto 4, 3) := by decide +kernel
theorem dL_passes_294 : decode cL_passes 294 = .ok (.iconst 0, 1) := by decide +kernel
theorem dL_passes_295 : decode cL_passes 295 = .ok (.aload 4, 2) := by decide +kernel
theorem dL_passes_297 : decode cL_passes 297 = .ok (.iconst 2, 1) := by decide +kernel
theorem dL_passes_298 : decode cL_passes 298 = .ok (.iaload, 1) := by decide +kernel
theorem dL_passes_299 : decode cL_passes 299 = .ok (.ifCond .ne 7, 3) := by decide +kernel
theorem dL_passes_302 : decode cL_passes 302 = .ok (.iconst 1, 1) := by decide +kernel
theorem dL_passes_303 : decode cL_passes 303 = .ok (.goto 4, 3) := by decide +kernel
theorem dL_passes_306 : decode cL_passes 306 = .ok (.iconst 0, 1) := by decide +kernel
theorem dL_passes_307 : decode cL_passes 307 = .ok (.if_icmp .ne 7, 3) := by decide +kernel
theorem dL_passes_310 : decode cL_passes 310 = .ok (.iconst 1, 1) := by decide +kernel
theorem dL_passes_311 : decode cL_passes 311 = .ok (.goto 4, 3) := by decide +kernel
theorem dL_passes_314 : decode cL_passes 314 = .ok (.iconst 0, 1) := by decide +kernel
theorem dL_passes_315 : decode cL_passes 315 = .ok (.ireturn, 1) := by decide +kernel
theorem dL_rests_0 : decode cL_rests 0 = .ok (.iconst 0, 1) := by decide +kernel
theorem dL_rests_1 : decode cL_rests 1 = .ok (.istore_n 1, 1) := by decide +kernel
theorem dL_rests_2 : decode cL_rests 2 = .ok (.iconst 0, 1) := by decide +kernel
theorem dL_rests_3 : decode cL_rests 3 = .ok (.istore_n 2, 1) := by decide +kernel
theorem dL_rests_4 : decode cL_rests 4 = .ok (.iload_n 2, 1) := by decide +kernel
theorem dL_rests_5 : decode cL_rests 5 = .ok (.iconst 5, 1) := by decide +kernel
theorem dL_rests_6 : decode cL_rests 6 = .ok (.if_icmp .ge 42, 3) := by decide +kernel
theorem dL_rests_9 : decode cL_rests 9 = .ok (.iconst 0, 1) := by decide +kernel
theorem dL_rests_10 : decode cL_rests 10 = .ok (.istore_n 3, 1) := by decide +kernel
theorem dL_rests_11 : decode cL_rests 11 = .ok (.iload_n 3, 1) := by decide +kernel
theorem dL_rests_12 : decode cL_rests 12 = .ok (.aload_n 0, 1) := by decide +kernel
theorem dL_rests_13 : decode cL_rests 13 = .ok (.iload_n 2, 1) := by decide +kernel
theorem dL_rests_14 : decode cL_rests 14 = .ok (.bipush 7, 2) := by decide +kernel
theorem dL_rests_16 : decode cL_rests 16 = .ok (.invokevirtual 10, 3) := by decide +kernel
theorem dL_rests_19 : decode cL_rests 19 = .ok (.if_icmp .ge 23, 3) := by decide +kernel
theorem dL_rests_22 : decode cL_rests 22 = .ok (.iload_n 1, 1) := by decide +kernel
theorem dL_rests_23 : decode cL_rests 23 = .ok (.aload_n 0, 1) := by decide +kernel
theorem dL_rests_24 : decode cL_rests 24 = .ok (.aload_n 0, 1) := by decide +kernel
theorem dL_rests_25 : decode cL_rests 25 = .ok (.iload_n 2, 1) := by decide +kernel
theorem dL_rests_26 : decode cL_rests 26 = .ok (.iload_n 3, 1) := by decide +kernel
theorem dL_rests_27 : decode cL_rests 27 = .ok (.invokevirtual 16, 3) := by decide +kernel
theorem dL_rests_30 : decode cL_rests 30 = .ok (.iconst 2, 1) := by decide +kernel
theorem dL_rests_31 : decode cL_rests 31 = .ok (.invokevirtual 23, 3) := by decide +kernel
theorem dL_rests_34 : decode cL_rests 34 = .ok (.iadd, 1) := by decide +kernel
theorem dL_rests_35 : decode cL_rests 35 = .ok (.istore_n 1, 1) := by decide +kernel
theorem dL_rests_36 : decode cL_rests 36 = .ok (.iinc 3 1, 3) := by decide +kernel
theorem dL_rests_39 : decode cL_rests 39 = .ok (.goto (-28), 3) := by decide +kernel
theorem dL_rests_42 : decode cL_rests 42 = .ok (.iinc 2 1, 3) := by decide +kernel
theorem dL_rests_45 : decode cL_rests 45 = .ok (.goto (-41), 3) := by decide +kernel
theorem dL_rests_48 : decode cL_rests 48 = .ok (.iload_n 1, 1) := by decide +kernel
theorem dL_rests_49 : decode cL_rests 49 = .ok (.ireturn, 1) := by decide +kernel
theorem dL_isBest_0 : decode cL_isBest 0 = .ok (.aload_n 0, 1) := by decide +kernel
theorem dL_isBest_1 : decode cL_isBest 1 = .ok (.iload_n 1, 1) := by decide +kernel
theorem dL_isBest_2 : decode cL_isBest 2 = .ok (.invokevirtual 62, 3) := by decide +kernel
theorem dL_isBest_5 : decode cL_isBest 5 = .ok (.istore_n 2, 1) := by decide +kernel
theorem dL_isBest_6 : decode cL_isBest 6 = .ok (.aload_n 0, 1) := by decide +kernel
theorem dL_isBest_7 : decode cL_isBest 7 = .ok (.iload_n 1, 1) := by decide +kernel
theorem dL_isBest_8 : decode cL_isBest 8 = .ok (.iconst 5, 1) := by decide +kernel
theorem dL_isBest_9 : decode cL_isBest 9 = .ok (.invokevirtual 10, 3) := by decide +kernel
theorem dL_isBest_12 : decode cL_isBest 12 = .ok (.istore_n 3, 1) := by decide +kernel
theorem dL_isBest_13 : decode cL_isBest 13 = .ok (.iconst 0, 1) := by decide +kernel
theorem dL_isBest_14 : decode cL_isBest 14 = .ok (.istore 4, 2) := by decide +kernel
theorem dL_isBest_16 : decode cL_isBest 16 = .ok (.iconst 0, 1) := by decide +kernel
theorem dL_isBest_17 : decode cL_isBest 17 = .ok (.istore 5, 2) := by decide +kernel
theorem dL_isBest_19 : decode cL_isBest 19 = .ok (.bipush 60, 2) := by decide +kernel
theorem dL_isBest_21 : decode cL_isBest 21 = .ok (.istore 6, 2) := by decide +kernel
theorem dL_isBest_23 : decode cL_isBest 23 = .ok (.iload 6, 2) := by decide +kernel
theorem dL_isBest_25 : decode cL_isBest 25 = .ok (.bipush 8, 2) := by decide +kernel
theorem dL_isBest_27 : decode cL_isBest 27 = .ok (.if_icmp .lt 97, 3) := by decide +kernel
theorem dL_isBest_30 : decode cL_isBest 30 = .ok (.aload_n 0, 1) := by decide +kernel
theorem dL_isBest_31 : decode cL_isBest 31 = .ok (.iload_n 1, 1) := by decide +kernel
theorem dL_isBest_32 : decode cL_isBest 32 = .ok (.iload_n 3, 1) := by decide +kernel
theorem dL_isBest_33 : decode cL_isBest 33 = .ok (.iload 6, 2) := by decide +kernel
theorem dL_isBest_35 : decode cL_isBest 35 = .ok (.invokevirtual 65, 3) := by decide +kernel
theorem dL_isBest_38 : decode cL_isBest 38 = .ok (.istore 7, 2) := by decide +kernel
theorem dL_isBest_40 : decode cL_isBest 40 = .ok (.aload_n 0, 1) := by decide +kernel
theorem dL_isBest_41 : decode cL_isBest 41 = .ok (.bipush 24, 2) := by decide +kernel
theorem dL_isBest_43 : decode cL_isBest 43 = .ok (.invokevirtual 59, 3) := by decide +kernel
theorem dL_isBest_46 : decode cL_isBest 46 = .ok (.istore 8, 2) := by decide +kernel
theorem dL_isBest_48 : decode cL_isBest 48 = .ok (.aload_n 0, 1) := by decide +kernel
theorem dL_isBest_49 : decode cL_isBest 49 = .ok (.invokestatic 69, 3) := by decide +kernel
theorem dL_isBest_52 : decode cL_isBest 52 = .ok (.istore 9, 2) := by decide +kernel
theorem dL_isBest_54 : decode cL_isBest 54 = .ok (.iload 4, 2) := by decide +kernel
theorem dL_isBest_56 : decode cL_isBest 56 = .ok (.ifCond .eq 10, 3) := by decide +kernel
theorem dL_isBest_59 : decode cL_isBest 59 = .ok (.iload 9, 2) := by decide +kernel
theorem dL_isBest_61 : decode cL_isBest 61 = .ok (.iload 5, 2) := by decide +kernel
theorem dL_isBest_63 : decode cL_isBest 63 = .ok (.if_icmp .ge 8, 3) := by decide +kernel
theorem dL_isBest_66 : decode cL_isBest 66 = .ok (.iload 6, 2) := by decide +kernel
theorem dL_isBest_68 : decode cL_isBest 68 = .ok (.goto 5, 3) := by decide +kernel
theorem dL_isBest_71 : decode cL_isBest 71 = .ok (.iload 4, 2) := by decide +kernel
theorem dL_isBest_73 : decode cL_isBest 73 = .ok (.istore 4, 2) := by decide +kernel
theorem dL_isBest_75 : decode cL_isBest 75 = .ok (.iload 4, 2) := by decide +kernel
theorem dL_isBest_77 : decode cL_isBest 77 = .ok (.iload 6, 2) := by decide +kernel
theorem dL_isBest_79 : decode cL_isBest 79 = .ok (.if_icmp .ne 8, 3) := by decide +kernel
theorem dL_isBest_82 : decode cL_isBest 82 = .ok (.iload 9, 2) := by decide +kernel
theorem dL_isBest_84 : decode cL_isBest 84 = .ok (.goto 5, 3) := by decide +kernel
theorem dL_isBest_87 : decode cL_isBest 87 = .ok (.iload 5, 2) := by decide +kernel
theorem dL_isBest_89 : decode cL_isBest 89 = .ok (.istore 5, 2) := by decide +kernel
theorem dL_isBest_91 : decode cL_isBest 91 = .ok (.iload 7, 2) := by decide +kernel
theorem dL_isBest_93 : decode cL_isBest 93 = .ok (.iconst 1, 1) := by decide +kernel
theorem dL_isBest_94 : decode cL_isBest 94 = .ok (.if_icmp .lt 22, 3) := by decide +kernel
theorem dL_isBest_97 : decode cL_isBest 97 = .ok (.iload 8, 2) := by decide +kernel
theorem dL_isBest_99 : decode cL_isBest 99 = .ok (.ifCond .lt 17, 3) := by decide +kernel
theorem dL_isBest_102 : decode cL_isBest 102 = .ok (.aload_n 0, 1) := by decide +kernel
theorem dL_isBest_103 : decode cL_isBest 103 = .ok (.invokevirtual 73, 3) := by decide +kernel
theorem dL_isBest_106 : decode cL_isBest 106 = .ok (.ifCond .lt 10, 3) := by decide +kernel
theorem dL_isBest_109 : decode cL_isBest 109 = .ok (.aload_n 0, 1) := by decide +kernel
theorem dL_isBest_110 : decode cL_isBest 110 = .ok (.invokevirtual 73, 3) := by decide +kernel
theorem dL_isBest_113 : decode cL_isBest 113 = .ok (.ifCond .ge 5, 3) := by decide +kernel
theorem dL_isBest_116 : decode cL_isBest 116 = .ok (.iconst 0, 1) := by decide +kernel
theorem dL_isBest_117 : decode cL_isBest 117 = .ok (.ireturn, 1) := by decide +kernel
theorem dL_isBest_118 : decode cL_isBest 118 = .ok (.iinc 6 (-4), 3) := by decide +kernel
theorem dL_isBest_121 : decode cL_isBest 121 = .ok (.goto (-98), 3) := by decide +kernel
theorem dL_isBest_124 : decode cL_isBest 124 = .ok (.iload_n 2, 1) := by decide +kernel
theorem dL_isBest_125 : decode cL_isBest 125 = .ok (.iload 4, 2) := by decide +kernel
theorem dL_isBest_127 : decode cL_isBest 127 = .ok (.if_icmp .ne 7, 3) := by decide +kernel
theorem dL_isBest_130 : decode cL_isBest 130 = .ok (.iconst 1, 1) := by decide +kernel
theorem dL_isBest_131 : decode cL_isBest 131 = .ok (.goto 4, 3) := by decide +kernel
theorem dL_isBest_134 : decode cL_isBest 134 = .ok (.iconst 0, 1) := by decide +kernel
theorem dL_isBest_135 : decode cL_isBest 135 = .ok (.ireturn, 1) := by decide +kernel
theorem dL_isGround_0 : decode cL_isGround 0 = .ok (.aload_n 0, 1) := by decide +kernel
theorem dL_isGround_1 : decode cL_isGround 1 = .ok (.iload_n 1, 1) := by decide +kernel
theorem dL_isGround_2 : decode cL_isGround 2 = .ok (.invokevirtual 76, 3) := by decide +kernel
theorem dL_isGround_5 : decode cL_isGround 5 = .ok (.istore_n 2, 1) := by decide +kernel
theorem dL_isGround_6 : decode cL_isGround 6 = .ok (.aload_n 0, 1) := by decide +kernel
theorem dL_isGround_7 : decode cL_isGround 7 = .ok (.iload_n 1, 1) := by decide +kernel
theorem dL_isGround_8 : decode cL_isGround 8 = .ok (.iconst 0, 1) := by decide +kernel
theorem dL_isGround_9 : decode cL_isGround 9 = .ok (.invokevirtual 23, 3) := by decide +kernel
theorem dL_isGround_12 : decode cL_isGround 12 = .ok (.ifCond .lt 7, 3) := by decide +kernel
theorem dL_isGround_15 : decode cL_isGround 15 = .ok (.iconst 1, 1) := by decide +kernel
theorem dL_isGround_16 : decode cL_isGround 16 = .ok (.goto 4, 3) := by decide +kernel
theorem dL_isGround_19 : decode cL_isGround 19 = .ok (.iconst 0, 1) := by decide +kernel
theorem dL_isGround_20 : decode cL_isGround 20 = .ok (.istore_n 3, 1) := by decide +kernel
theorem dL_isGround_21 : decode cL_isGround 21 = .ok (.iload_n 3, 1) := by decide +kernel
theorem dL_isGround_22 : decode cL_isGround 22 = .ok (.ifCond .eq 7, 3) := by decide +kernel
theorem dL_isGround_25 : decode cL_isGround 25 = .ok (.iload_n 2, 1) := by decide +kernel
theorem dL_isGround_26 : decode cL_isGround 26 = .ok (.ifCond .ge 18, 3) := by decide +kernel
theorem dL_isGround_29 : decode cL_isGround 29 = .ok (.iload_n 3, 1) := by decide +kernel
theorem dL_isGround_30 : decode cL_isGround 30 = .ok (.ifCond .ne 8, 3) := by decide +kernel
theorem dL_isGround_33 : decode cL_isGround 33 = .ok (.iload_n 2, 1) := by decide +kernel
theorem dL_isGround_34 : decode cL_isGround 34 = .ok (.iconst (-1), 1) := by decide +kernel
theorem dL_isGround_35 : decode cL_isGround 35 = .ok (.if_icmp .ne 7, 3) := by decide +kernel
theorem dL_isGround_38 : decode cL_isGround 38 = .ok (.iconst 1, 1) := by decide +kernel
theorem dL_isGround_39 : decode cL_isGround 39 = .ok (.goto 4, 3) := by decide +kernel
theorem dL_isGround_42 : decode cL_isGround 42 = .ok (.iconst 0, 1) := by decide +kernel
theorem dL_isGround_43 : decode cL_isGround 43 = .ok (.ireturn, 1) := by decide +kernel
theorem dL_isGround_44 : decode cL_isGround 44 = .ok (.iload_n 2, 1) := by decide +kernel
theorem dL_isGround_45 : decode cL_isGround 45 = .ok (.bipush 48, 2) := by decide +kernel
theorem dL_isGround_47 : decode cL_isGround 47 = .ok (.if_icmp .le 53, 3) := by decide +kernel
theorem dL_isGround_50 : decode cL_isGround 50 = .ok (.iload_n 2, 1) := by decide +kernel
theorem dL_isGround_51 : decode cL_isGround 51 = .ok (.sipush 200, 3) := by decide +kernel
theorem dL_isGround_54 : decode cL_isGround 54 = .ok (.if_icmp .gt 44, 3) := by decide +kernel
theorem dL_isGround_57 : decode cL_isGround 57 = .ok (.aload_n 0, 1) := by decide +kernel
theorem dL_isGround_58 : decode cL_isGround 58 = .ok (.bipush 48, 2) := by decide +kernel
theorem dL_isGround_60 : decode cL_isGround 60 = .ok (.invokevirtual 59, 3) := by decide +kernel
theorem dL_isGround_63 : decode cL_isGround 63 = .ok (.ifCond .lt 35, 3) := by decide +kernel
theorem dL_isGround_66 : decode cL_isGround 66 = .ok (.aload_n 0, 1) := by decide +kernel
theorem dL_isGround_67 : decode cL_isGround 67 = .ok (.iload_n 1, 1) := by decide +kernel
theorem dL_isGround_68 : decode cL_isGround 68 = .ok (.iconst 0, 1) := by decide +kernel
theorem dL_isGround_69 : decode cL_isGround 69 = .ok (.invokevirtual 23, 3) := by decide +kernel
theorem dL_isGround_72 : decode cL_isGround 72 = .ok (.ifCond .lt 26, 3) := by decide +kernel
theorem dL_isGround_75 : decode cL_isGround 75 = .ok (.aload_n 0, 1) := by decide +kernel
theorem dL_isGround_76 : decode cL_isGround 76 = .ok (.iload_n 1, 1) := by decide +kernel
theorem dL_isGround_77 : decode cL_isGround 77 = .ok (.invokevirtual 76, 3) := by decide +kernel
theorem dL_isGround_80 : decode cL_isGround 80 = .ok (.iload_n 2, 1) := by decide +kernel
theorem dL_isGround_81 : decode cL_isGround 81 = .ok (.bipush 48, 2) := by decide +kernel
theorem dL_isGround_83 : decode cL_isGround 83 = .ok (.isub, 1) := by decide +kernel
theorem dL_isGround_84 : decode cL_isGround 84 = .ok (.if_icmp .ne 14, 3) := by decide +kernel
theorem dL_isGround_87 : decode cL_isGround 87 = .ok (.aload_n 0, 1) := by decide +kernel
theorem dL_isGround_88 : decode cL_isGround 88 = .ok (.invokevirtual 73, 3) := by decide +kernel
theorem dL_isGround_91 : decode cL_isGround 91 = .ok (.ifCond .lt 7, 3) := by decide +kernel
theorem dL_isGround_94 : decode cL_isGround 94 = .ok (.iconst 1, 1) := by decide +kernel
theorem dL_isGround_95 : decode cL_isGround 95 = .ok (.goto 4, 3) := by decide +kernel
theorem dL_isGround_98 : decode cL_isGround 98 = .ok (.iconst 0, 1) := by decide +kernel
theorem dL_isGround_99 : decode cL_isGround 99 = .ok (.ireturn, 1) := by decide +kernel
theorem dL_isGround_100 : decode cL_isGround 100 = .ok (.aload_n 0, 1) := by decide +kernel
theorem dL_isGround_101 : decode cL_isGround 101 = .ok (.iload_n 2, 1) := by decide +kernel
theorem dL_isGround_102 : decode cL_isGround 102 = .ok (.invokevirtual 59, 3) := by decide +kernel
theorem dL_isGround_105 : decode cL_isGround 105 = .ok (.ifCond .le 24, 3) := by decide +kernel
theorem dL_isGround_108 : decode cL_isGround 108 = .ok (.aload_n 0, 1) := by decide +kernel
theorem dL_isGround_109 : decode cL_isGround 109 = .ok (.iload_n 1, 1) := by decide +kernel
theorem dL_isGround_110 : decode cL_isGround 110 = .ok (.iconst 0, 1) := by decide +kernel
theorem dL_isGround_111 : decode cL_isGround 111 = .ok (.invokevirtual 23, 3) := by decide +kernel
theorem dL_isGround_114 : decode cL_isGround 114 = .ok (.iconst (-1), 1) := by decide +kernel
theorem dL_isGround_115 : decode cL_isGround 115 = .ok (.if_icmp .ne 14, 3) := by decide +kernel
theorem dL_isGround_118 : decode cL_isGround 118 = .ok (.aload_n 0, 1) := by decide +kernel
theorem dL_isGround_119 : decode cL_isGround 119 = .ok (.invokevirtual 73, 3) := by decide +kernel
theorem dL_isGround_122 : decode cL_isGround 122 = .ok (.ifCond .lt 7, 3) := by decide +kernel
theorem dL_isGround_125 : decode cL_isGround 125 = .ok (.iconst 1, 1) := by decide +kernel
theorem dL_isGround_126 : decode cL_isGround 126 = .ok (.goto 4, 3) := by decide +kernel
theorem dL_isGround_129 : decode cL_isGround 129 = .ok (.iconst 0, 1) := by decide +kernel
theorem dL_isGround_130 : decode cL_isGround 130 = .ok (.istore 4, 2) := by decide +kernel
theorem dL_isGround_132 : decode cL_isGround 132 = .ok (.iload 4, 2) := by decide +kernel
theorem dL_isGround_134 : decode cL_isGround 134 = .ok (.ifCond .eq 38, 3) := by decide +kernel
theorem dL_isGround_137 : decode cL_isGround 137 = .ok (.iload_n 2, 1) := by decide +kernel
theorem dL_isGround_138 : decode cL_isGround 138 = .ok (.iconst 1, 1) := by decide +kernel
theorem dL_isGround_139 : decode cL_isGround 139 = .ok (.if_icmp .eq 29, 3) := by decide +kernel
theorem dL_isGround_142 : decode cL_isGround 142 = .ok (.aload_n 0, 1) := by decide +kernel
theorem dL_isGround_143 : decode cL_isGround 143 = .ok (.iload_n 2, 1) := by decide +kernel
theorem dL_isGround_144 : decode cL_isGround 144 = .ok (.iconst 1, 1) := by decide +kernel
theorem dL_isGround_145 : decode cL_isGround 145 = .ok (.isub, 1) := by decide +kernel
theorem dL_isGround_146 : decode cL_isGround 146 = .ok (.invokevirtual 59, 3) := by decide +kernel
theorem dL_isGround_149 : decode cL_isGround 149 = .ok (.ifCond .lt 23, 3) := by decide +kernel
theorem dL_isGround_152 : decode cL_isGround 152 = .ok (.aload_n 0, 1) := by decide +kernel
theorem dL_isGround_153 : decode cL_isGround 153 = .ok (.iload_n 1, 1) := by decide +kernel
theorem dL_isGround_154 : decode cL_isGround 154 = .ok (.iconst 0, 1) := by decide +kernel
theorem dL_isGround_155 : decode cL_isGround 155 = .ok (.invokevirtual 23, 3) := by decide +kernel
theorem dL_isGround_158 : decode cL_isGround 158 = .ok (.ifCond .lt 14, 3) := by decide +kernel
theorem dL_isGround_161 : decode cL_isGround 161 = .ok (.aload_n 0, 1) := by decide +kernel
theorem dL_isGround_162 : decode cL_isGround 162 = .ok (.invokevirtual 73, 3) := by decide +kernel
theorem dL_isGround_165 : decode cL_isGround 165 = .ok (.ifCond .lt 7, 3) := by decide +kernel
theorem dL_isGround_168 : decode cL_isGround 168 = .ok (.iconst 1, 1) := by decide +kernel
theorem dL_isGround_169 : decode cL_isGround 169 = .ok (.goto 4, 3) := by decide +kernel
theorem dL_isGround_172 : decode cL_isGround 172 = .ok (.iconst 0, 1) := by decide +kernel
theorem dL_isGround_173 : decode cL_isGround 173 = .ok (.ireturn, 1) := by decide +kernel
theorem dL_act_0 : decode cL_act 0 = .ok (.iload_n 2, 1) := by decide +kernel
theorem dL_act_1 : decode cL_act 1 = .ok (.iconst 5, 1) := by decide +kernel
theorem dL_act_2 : decode cL_act 2 = .ok (.invokestatic 79, 3) := by decide +kernel
theorem dL_act_5 : decode cL_act 5 = .ok (.istore_n 3, 1) := by decide +kernel
theorem dL_act_6 : decode cL_act 6 = .ok (.iload_n 1, 1) := by decide +kernel
theorem dL_act_7 : decode cL_act 7 = .ok (.bipush 16, 2) := by decide +kernel
theorem dL_act_9 : decode cL_act 9 = .ok (.invokestatic 79, 3) := by decide +kernel
theorem dL_act_12 : decode cL_act 12 = .ok (.tableswitch 850 0 12 #[68, 177, 263, 317, 417, 417, 417, 417, 546, 652, 730, 749, 773], 68) := by decide +kernel
theorem dL_act_80 : decode cL_act 80 = .ok (.aload_n 0, 1) := by decide +kernel
theorem dL_act_81 : decode cL_act 81 = .ok (.iload_n 3, 1) := by decide +kernel
theorem dL_act_82 : decode cL_act 82 = .ok (.iconst 1, 1) := by decide +kernel
theorem dL_act_83 : decode cL_act 83 = .ok (.invokevirtual 10, 3) := by decide +kernel
theorem dL_act_86 : decode cL_act 86 = .ok (.iload_n 2, 1) := by decide +kernel
theorem dL_act_87 : decode cL_act 87 = .ok (.iconst 3, 1) := by decide +kernel
theorem dL_act_88 : decode cL_act 88 = .ok (.ishr, 1) := by decide +kernel
theorem dL_act_89 : decode cL_act 89 = .ok (.bipush 120, 2) := by decide +kernel
theorem dL_act_91 : decode cL_act 91 = .ok (.invokestatic 79, 3) := by decide +kernel
theorem dL_act_94 : decode cL_act 94 = .ok (.iadd, 1) := by decide +kernel
theorem dL_act_95 : decode cL_act 95 = .ok (.istore 4, 2) := by decide +kernel
theorem dL_act_97 : decode cL_act 97 = .ok (.iload 4, 2) := by decide +kernel
theorem dL_act_99 : decode cL_act 99 = .ok (.bipush 50, 2) := by decide +kernel
theorem dL_act_101 : decode cL_act 101 = .ok (.if_icmp .ge 8, 3) := by decide +kernel
theorem dL_act_104 : decode cL_act 104 = .ok (.bipush 50, 2) := by decide +kernel
theorem dL_act_106 : decode cL_act 106 = .ok (.goto 19, 3) := by decide +kernel
theorem dL_act_109 : decode cL_act 109 = .ok (.iload 4, 2) := by decide +kernel
theorem dL_act_111 : decode cL_act 111 = .ok (.sipush 500, 3) := by decide +kernel
theorem dL_act_114 : decode cL_act 114 = .ok (.if_icmp .le 9, 3) := by decide +kernel
theorem dL_act_117 : decode cL_act 117 = .ok (.sipush 500, 3) := by decide +kernel
theorem dL_act_120 : decode cL_act 120 = .ok (.goto 5, 3) := by decide +kernel
theorem dL_act_123 : decode cL_act 123 = .ok (.iload 4, 2) := by decide +kernel
theorem dL_act_125 : decode cL_act 125 = .ok (.istore 4, 2) := by decide +kernel
theorem dL_act_127 : decode cL_act 127 = .ok (.aload_n 0, 1) := by decide +kernel
theorem dL_act_128 : decode cL_act 128 = .ok (.iload_n 3, 1) := by decide +kernel
theorem dL_act_129 : decode cL_act 129 = .ok (.iconst 0, 1) := by decide +kernel
theorem dL_act_130 : decode cL_act 130 = .ok (.invokevirtual 10, 3) := by decide +kernel
theorem dL_act_133 : decode cL_act 133 = .ok (.istore 5, 2) := by decide +kernel
theorem dL_act_135 : decode cL_act 135 = .ok (.aload_n 0, 1) := by decide +kernel
theorem dL_act_136 : decode cL_act 136 = .ok (.iload_n 3, 1) := by decide +kernel
theorem dL_act_137 : decode cL_act 137 = .ok (.iload 4, 2) := by decide +kernel
theorem dL_act_139 : decode cL_act 139 = .ok (.iload_n 2, 1) := by decide +kernel
theorem dL_act_140 : decode cL_act 140 = .ok (.iconst 4, 1) := by decide +kernel
theorem dL_act_141 : decode cL_act 141 = .ok (.ishr, 1) := by decide +kernel
theorem dL_act_142 : decode cL_act 142 = .ok (.bipush 61, 2) := by decide +kernel
theorem dL_act_144 : decode cL_act 144 = .ok (.invokestatic 79, 3) := by decide +kernel
theorem dL_act_147 : decode cL_act 147 = .ok (.invokevirtual 82, 3) := by decide +kernel
theorem dL_act_150 : decode cL_act 150 = .ok (.iload 5, 2) := by decide +kernel
theorem dL_act_152 : decode cL_act 152 = .ok (.if_icmp .ne 35, 3) := by decide +kernel
theorem dL_act_155 : decode cL_act 155 = .ok (.aload_n 0, 1) := by decide +kernel
theorem dL_act_156 : decode cL_act 156 = .ok (.iload_n 3, 1) := by decide +kernel
theorem dL_act_157 : decode cL_act 157 = .ok (.iconst 0, 1) := by decide +kernel
theorem dL_act_158 : decode cL_act 158 = .ok (.invokevirtual 10, 3) := by decide +kernel
theorem dL_act_161 : decode cL_act 161 = .ok (.iload 4, 2) := by decide +kernel
theorem dL_act_163 : decode cL_act 163 = .ok (.if_icmp .ne 24, 3) := by decide +kernel
theorem dL_act_166 : decode cL_act 166 = .ok (.aload_n 0, 1) := by decide +kernel
theorem dL_act_167 : decode cL_act 167 = .ok (.iload_n 3, 1) := by decide +kernel
theorem dL_act_168 : decode cL_act 168 = .ok (.iconst 2, 1) := by decide +kernel
theorem dL_act_169 : decode cL_act 169 = .ok (.invokevirtual 10, 3) := by decide +kernel
theorem dL_act_172 : decode cL_act 172 = .ok (.iload_n 2, 1) := by decide +kernel
theorem dL_act_173 : decode cL_act 173 = .ok (.iconst 4, 1) := by decide +kernel
theorem dL_act_174 : decode cL_act 174 = .ok (.ishr, 1) := by decide +kernel
theorem dL_act_175 : decode cL_act 175 = .ok (.bipush 61, 2) := by decide +kernel
theorem dL_act_177 : decode cL_act 177 = .ok (.invokestatic 79, 3) := by decide +kernel
theorem dL_act_180 : decode cL_act 180 = .ok (.if_icmp .ne 7, 3) := by decide +kernel
theorem dL_act_183 : decode cL_act 183 = .ok (.iconst 1, 1) := by decide +kernel
theorem dL_act_184 : decode cL_act 184 = .ok (.goto 4, 3) := by decide +kernel
theorem dL_act_187 : decode cL_act 187 = .ok (.iconst 0, 1) := by decide +kernel
theorem dL_act_188 : decode cL_act 188 = .ok (.ireturn, 1) := by decide +kernel
theorem dL_act_189 : decode cL_act 189 = .ok (.iload_n 2, 1) := by decide +kernel
theorem dL_act_190 : decode cL_act 190 = .ok (.iconst 3, 1) := by decide +kernel
theorem dL_act_191 : decode cL_act 191 = .ok (.ishr, 1) := by decide +kernel
theorem dL_act_192 : decode cL_act 192 = .ok (.bipush 12, 2) := by decide +kernel
theorem dL_act_194 : decode cL_act 194 = .ok (.invokestatic 79, 3) := by decide +kernel
theorem dL_act_197 : decode cL_act 197 = .ok (.istore 4, 2) := by decide +kernel
theorem dL_act_199 : decode cL_act 199 = .ok (.iload 4, 2) := by decide +kernel
theorem dL_act_201 : decode cL_act 201 = .ok (.iload_n 2, 1) := by decide +kernel
theorem dL_act_202 : decode cL_act 202 = .ok (.bipush 7, 2) := by decide +kernel
theorem dL_act_204 : decode cL_act 204 = .ok (.ishr, 1) := by decide +kernel
theorem dL_act_205 : decode cL_act 205 = .ok (.bipush 12, 2) := by decide +kernel
theorem dL_act_207 : decode cL_act 207 = .ok (.iload 4, 2) := by decide +kernel
theorem dL_act_209 : decode cL_act 209 = .ok (.isub, 1) := by decide +kernel
theorem dL_act_210 : decode cL_act 210 = .ok (.invokestatic 79, 3) := by decide +kernel
theorem dL_act_213 : decode cL_act 213 = .ok (.iadd, 1) := by decide +kernel
theorem dL_act_214 : decode cL_act 214 = .ok (.istore 5, 2) := by decide +kernel
theorem dL_act_216 : decode cL_act 216 = .ok (.aload_n 0, 1) := by decide +kernel
theorem dL_act_217 : decode cL_act 217 = .ok (.iload_n 3, 1) := by decide +kernel
theorem dL_act_218 : decode cL_act 218 = .ok (.iconst 4, 1) := by decide +kernel
theorem dL_act_219 : decode cL_act 219 = .ok (.invokevirtual 10, 3) := by decide +kernel
theorem dL_act_222 : decode cL_act 222 = .ok (.aload_n 0, 1) := by decide +kernel
theorem dL_act_223 : decode cL_act 223 = .ok (.iload_n 3, 1) := by decide +kernel
theorem dL_act_224 : decode cL_act 224 = .ok (.iconst 3, 1) := by decide +kernel
theorem dL_act_225 : decode cL_act 225 = .ok (.invokevirtual 10, 3) := by decide +kernel
theorem dL_act_228 : decode cL_act 228 = .ok (.isub, 1) := by decide +kernel
theorem dL_act_229 : decode cL_act 229 = .ok (.iconst 1, 1) := by decide +kernel
theorem dL_act_230 : decode cL_act 230 = .ok (.iadd, 1) := by decide +kernel
theorem dL_act_231 : decode cL_act 231 = .ok (.istore 6, 2) := by decide +kernel
theorem dL_act_233 : decode cL_act 233 = .ok (.aload_n 0, 1) := by decide +kernel
theorem dL_act_234 : decode cL_act 234 = .ok (.iload_n 3, 1) := by decide +kernel
theorem dL_act_235 : decode cL_act 235 = .ok (.iload 4, 2) := by decide +kernel
theorem dL_act_237 : decode cL_act 237 = .ok (.iload 5, 2) := by decide +kernel
theorem dL_act_239 : decode cL_act 239 = .ok (.invokevirtual 85, 3) := by decide +kernel
theorem dL_act_242 : decode cL_act 242 = .ok (.iload 6, 2) := by decide +kernel
theorem dL_act_244 : decode cL_act 244 = .ok (.if_icmp .ne 29, 3) := by decide +kernel
theorem dL_act_247 : decode cL_act 247 = .ok (.aload_n 0, 1) := by decide +kernel
theorem dL_act_248 : decode cL_act 248 = .ok (.iload_n 3, 1) := by decide +kernel
theorem dL_act_249 : decode cL_act 249 = .ok (.iconst 3, 1) := by decide +kernel
theorem dL_act_250 : decode cL_act 250 = .ok (.invokevirtual 10, 3) := by decide +kernel
theorem dL_act_253 : decode cL_act 253 = .ok (.iload 4, 2) := by decide +kernel
theorem dL_act_255 : decode cL_act 255 = .ok (.if_icmp .ne 18, 3) := by decide +kernel
theorem dL_act_258 : decode cL_act 258 = .ok (.aload_n 0, 1) := by decide +kernel
theorem dL_act_259 : decode cL_act 259 = .ok (.iload_n 3, 1) := by decide +kernel
theorem dL_act_260 : decode cL_act 260 = .ok (.iconst 4, 1) := by decide +kernel
theorem dL_act_261 : decode cL_act 261 = .ok (.invokevirtual 10, 3) := by decide +kernel
theorem dL_act_264 : decode cL_act 264 = .ok (.iload 5, 2) := by decide +kernel
theorem dL_act_266 : decode cL_act 266 = .ok (.if_icmp .ne 7, 3) := by decide +kernel
theorem dL_act_269 : decode cL_act 269 = .ok (.iconst 1, 1) := by decide +kernel
theorem dL_act_270 : decode cL_act 270 = .ok (.goto 4, 3) := by decide +kernel
theorem dL_act_273 : decode cL_act 273 = .ok (.iconst 0, 1) := by decide +kernel
theorem dL_act_274 : decode cL_act 274 = .ok (.ireturn, 1) := by decide +kernel
theorem dL_act_275 : decode cL_act 275 = .ok (.aload_n 0, 1) := by decide +kernel
theorem dL_act_276 : decode cL_act 276 = .ok (.iload_n 3, 1) := by decide +kernel
theorem dL_act_277 : decode cL_act 277 = .ok (.bipush 8, 2) := by decide +kernel
theorem dL_act_279 : decode cL_act 279 = .ok (.iload_n 2, 1) := by decide +kernel
theorem dL_act_280 : decode cL_act 280 = .ok (.iconst 3, 1) := by decide +kernel
theorem dL_act_281 : decode cL_act 281 = .ok (.ishr, 1) := by decide +kernel
theorem dL_act_282 : decode cL_act 282 = .ok (.bipush 53, 2) := by decide +kernel
theorem dL_act_284 : decode cL_act 284 = .ok (.invokestatic 79, 3) := by decide +kernel
theorem dL_act_287 : decode cL_act 287 = .ok (.iadd, 1) := by decide +kernel
theorem dL_act_288 : decode cL_act 288 = .ok (.bipush 8, 2) := by decide +kernel
theorem dL_act_290 : decode cL_act 290 = .ok (.iload_n 2, 1) := by decide +kernel
theorem dL_act_291 : decode cL_act 291 = .ok (.bipush 9, 2) := by decide +kernel
theorem dL_act_293 : decode cL_act 293 = .ok (.ishr, 1) := by decide +kernel
theorem dL_act_294 : decode cL_act 294 = .ok (.bipush 53, 2) := by decide +kernel
theorem dL_act_296 : decode cL_act 296 = .ok (.invokestatic 79, 3) := by decide +kernel
theorem dL_act_299 : decode cL_act 299 = .ok (.iadd, 1) := by decide +kernel
theorem dL_act_300 : decode cL_act 300 = .ok (.invokevirtual 65, 3) := by decide +kernel
theorem dL_act_303 : decode cL_act 303 = .ok (.bipush 100, 2) := by decide +kernel
theorem dL_act_305 : decode cL_act 305 = .ok (.aload_n 0, 1) := by decide +kernel
theorem dL_act_306 : decode cL_act 306 = .ok (.iload_n 3, 1) := by decide +kernel
theorem dL_act_307 : decode cL_act 307 = .ok (.iconst 5, 1) := by decide +kernel
theorem dL_act_308 : decode cL_act 308 = .ok (.invokevirtual 10, 3) := by decide +kernel
theorem dL_act_311 : decode cL_act 311 = .ok (.imul, 1) := by decide +kernel
theorem dL_act_312 : decode cL_act 312 = .ok (.aload_n 0, 1) := by decide +kernel
theorem dL_act_313 : decode cL_act 313 = .ok (.iload_n 3, 1) := by decide +kernel
theorem dL_act_314 : decode cL_act 314 = .ok (.bipush 6, 2) := by decide +kernel
theorem dL_act_316 : decode cL_act 316 = .ok (.invokevirtual 10, 3) := by decide +kernel
theorem dL_act_319 : decode cL_act 319 = .ok (.idiv, 1) := by decide +kernel
theorem dL_act_320 : decode cL_act 320 = .ok (.if_icmp .ne 7, 3) := by decide +kernel
theorem dL_act_323 : decode cL_act 323 = .ok (.iconst 1, 1) := by decide +kernel
theorem dL_act_324 : decode cL_act 324 = .ok (.goto 4, 3) := by decide +kernel
theorem dL_act_327 : decode cL_act 327 = .ok (.iconst 0, 1) := by decide +kernel
theorem dL_act_328 : decode cL_act 328 = .ok (.ireturn, 1) := by decide +kernel
theorem dL_act_329 : decode cL_act 329 = .ok (.iload_n 2, 1) := by decide +kernel
theorem dL_act_330 : decode cL_act 330 = .ok (.iconst 3, 1) := by decide +kernel
theorem dL_act_331 : decode cL_act 331 = .ok (.ishr, 1) := by decide +kernel
theorem dL_act_332 : decode cL_act 332 = .ok (.iconst 3, 1) := by decide +kernel
theorem dL_act_333 : decode cL_act 333 = .ok (.invokestatic 79, 3) := by decide +kernel
theorem dL_act_336 : decode cL_act 336 = .ok (.istore 4, 2) := by decide +kernel
theorem dL_act_338 : decode cL_act 338 = .ok (.iload 4, 2) := by decide +kernel
theorem dL_act_340 : decode cL_act 340 = .ok (.ifCond .ne 16, 3) := by decide +kernel
theorem dL_act_343 : decode cL_act 343 = .ok (.iconst 1, 1) := by decide +kernel
theorem dL_act_344 : decode cL_act 344 = .ok (.iload_n 2, 1) := by decide +kernel
theorem dL_act_345 : decode cL_act 345 = .ok (.iconst 5, 1) := by decide +kernel
theorem dL_act_346 : decode cL_act 346 = .ok (.ishr, 1) := by decide +kernel
theorem dL_act_347 : decode cL_act 347 = .ok (.bipush 15, 2) := by decide +kernel
theorem dL_act_349 : decode cL_act 349 = .ok (.invokestatic 79, 3) := by decide +kernel
theorem dL_act_352 : decode cL_act 352 = .ok (.iadd, 1) := by decide +kernel
theorem dL_act_353 : decode cL_act 353 = .ok (.goto 30, 3) := by decide +kernel
theorem dL_act_356 : decode cL_act 356 = .ok (.iload 4, 2) := by decide +kernel
theorem dL_act_358 : decode cL_act 358 = .ok (.iconst 1, 1) := by decide +kernel
theorem dL_act_359 : decode cL_act 359 = .ok (.if_icmp .ne 14, 3) := by decide +kernel
theorem dL_act_362 : decode cL_act 362 = .ok (.iload_n 2, 1) := by decide +kernel
theorem dL_act_363 : decode cL_act 363 = .ok (.iconst 5, 1) := by decide +kernel
theorem dL_act_364 : decode cL_act 364 = .ok (.ishr, 1) := by decide +kernel
theorem dL_act_365 : decode cL_act 365 = .ok (.bipush 40, 2) := by decide +kernel
theorem dL_act_367 : decode cL_act 367 = .ok (.invokestatic 79, 3) := by decide +kernel
theorem dL_act_370 : decode cL_act 370 = .ok (.goto 13, 3) := by decide +kernel
theorem dL_act_373 : decode cL_act 373 = .ok (.iconst 5, 1) := by decide +kernel
theorem dL_act_374 : decode cL_act 374 = .ok (.iload_n 2, 1) := by decide +kernel
theorem dL_act_375 : decode cL_act 375 = .ok (.iconst 5, 1) := by decide +kernel
theorem dL_act_376 : decode cL_act 376 = .ok (.ishr, 1) := by decide +kernel
theorem dL_act_377 : decode cL_act 377 = .ok (.bipush 50, 2) := by decide +kernel
theorem dL_act_379 : decode cL_act 379 = .ok (.invokestatic 79, 3) := by decide +kernel
theorem dL_act_382 : decode cL_act 382 = .ok (.iadd, 1) := by decide +kernel
theorem dL_act_383 : decode cL_act 383 = .ok (.istore 5, 2) := by decide +kernel
theorem dL_act_385 : decode cL_act 385 = .ok (.aload_n 0, 1) := by decide +kernel
theorem dL_act_386 : decode cL_act 386 = .ok (.bipush 11, 2) := by decide +kernel
theorem dL_act_388 : decode cL_act 388 = .ok (.iload 4, 2) := by decide +kernel
theorem dL_act_390 : decode cL_act 390 = .ok (.iadd, 1) := by decide +kernel
theorem dL_act_391 : decode cL_act 391 = .ok (.invokevirtual 19, 3) := by decide +kernel
theorem dL_act_394 : decode cL_act 394 = .ok (.istore 6, 2) := by decide +kernel
theorem dL_act_396 : decode cL_act 396 = .ok (.aload_n 0, 1) := by decide +kernel
theorem dL_act_397 : decode cL_act 397 = .ok (.iload 4, 2) := by decide +kernel
theorem dL_act_399 : decode cL_act 399 = .ok (.iload 5, 2) := by decide +kernel
theorem dL_act_401 : decode cL_act 401 = .ok (.invokevirtual 88, 3) := by decide +kernel
theorem dL_act_404 : decode cL_act 404 = .ok (.iload 6, 2) := by decide +kernel
theorem dL_act_406 : decode cL_act 406 = .ok (.if_icmp .ne 21, 3) := by decide +kernel
theorem dL_act_409 : decode cL_act 409 = .ok (.aload_n 0, 1) := by decide +kernel
theorem dL_act_410 : decode cL_act 410 = .ok (.bipush 11, 2) := by decide +kernel
theorem dL_act_412 : decode cL_act 412 = .ok (.iload 4, 2) := by decide +kernel
theorem dL_act_414 : decode cL_act 414 = .ok (.iadd, 1) := by decide +kernel
theorem dL_act_415 : decode cL_act 415 = .ok (.invokevirtual 19, 3) := by decide +kernel
theorem dL_act_418 : decode cL_act 418 = .ok (.iload 5, 2) := by decide +kernel
theorem dL_act_420 : decode cL_act 420 = .ok (.if_icmp .ne 7, 3) := by decide +kernel
theorem dL_act_423 : decode cL_act 423 = .ok (.iconst 1, 1) := by decide +kernel
theorem dL_act_424 : decode cL_act 424 = .ok (.goto 4, 3) := by decide +kernel
theorem dL_act_427 : decode cL_act 427 = .ok (.iconst 0, 1) := by decide +kernel
theorem dL_act_428 : decode cL_act 428 = .ok (.ireturn, 1) := by decide +kernel
theorem dL_act_429 : decode cL_act 429 = .ok (.aload_n 0, 1) := by decide +kernel
theorem dL_act_430 : decode cL_act 430 = .ok (.bipush 6, 2) := by decide +kernel
theorem dL_act_432 : decode cL_act 432 = .ok (.invokevirtual 19, 3) := by decide +kernel
theorem dL_act_435 : decode cL_act 435 = .ok (.istore 4, 2) := by decide +kernel
theorem dL_act_437 : decode cL_act 437 = .ok (.iconst 1, 1) := by decide +kernel
theorem dL_act_438 : decode cL_act 438 = .ok (.aload_n 0, 1) := by decide +kernel
theorem dL_act_439 : decode cL_act 439 = .ok (.iconst 0, 1) := by decide +kernel
theorem dL_act_440 : decode cL_act 440 = .ok (.invokevirtual 19, 3) := by decide +kernel
theorem dL_act_443 : decode cL_act 443 = .ok (.iload_n 2, 1) := by decide +kernel
theorem dL_act_444 : decode cL_act 444 = .ok (.bipush 6, 2) := by decide +kernel
theorem dL_act_446 : decode cL_act 446 = .ok (.ishr, 1) := by decide +kernel
theorem dL_act_447 : decode cL_act 447 = .ok (.bipush 14, 2) := by decide +kernel
theorem dL_act_449 : decode cL_act 449 = .ok (.invokestatic 79, 3) := by decide +kernel
theorem dL_act_452 : decode cL_act 452 = .ok (.iadd, 1) := by decide +kernel
theorem dL_act_453 : decode cL_act 453 = .ok (.sipush 9999, 3) := by decide +kernel
theorem dL_act_456 : decode cL_act 456 = .ok (.irem, 1) := by decide +kernel
theorem dL_act_457 : decode cL_act 457 = .ok (.iadd, 1) := by decide +kernel
theorem dL_act_458 : decode cL_act 458 = .ok (.istore 5, 2) := by decide +kernel
theorem dL_act_460 : decode cL_act 460 = .ok (.aload_n 0, 1) := by decide +kernel
theorem dL_act_461 : decode cL_act 461 = .ok (.iload_n 3, 1) := by decide +kernel
theorem dL_act_462 : decode cL_act 462 = .ok (.bipush 7, 2) := by decide +kernel
theorem dL_act_464 : decode cL_act 464 = .ok (.invokevirtual 10, 3) := by decide +kernel
theorem dL_act_467 : decode cL_act 467 = .ok (.bipush 6, 2) := by decide +kernel
theorem dL_act_469 : decode cL_act 469 = .ok (.if_icmp .eq 83, 3) := by decide +kernel
theorem dL_act_472 : decode cL_act 472 = .ok (.aload_n 0, 1) := by decide +kernel
theorem dL_act_473 : decode cL_act 473 = .ok (.iload_n 3, 1) := by decide +kernel
theorem dL_act_474 : decode cL_act 474 = .ok (.iconst 1, 1) := by decide +kernel
theorem dL_act_475 : decode cL_act 475 = .ok (.iload_n 2, 1) := by decide +kernel
theorem dL_act_476 : decode cL_act 476 = .ok (.iconst 3, 1) := by decide +kernel
theorem dL_act_477 : decode cL_act 477 = .ok (.ishr, 1) := by decide +kernel
theorem dL_act_478 : decode cL_act 478 = .ok (.iload_n 2, 1) := by decide +kernel
theorem dL_act_479 : decode cL_act 479 = .ok (.bipush 12, 2) := by decide +kernel
theorem dL_act_481 : decode cL_act 481 = .ok (.ishr, 1) := by decide +kernel
theorem dL_act_482 : decode cL_act 482 = .ok (.iconst 3, 1) := by decide +kernel
theorem dL_act_483 : decode cL_act 483 = .ok (.invokestatic 79, 3) := by decide +kernel
theorem dL_act_486 : decode cL_act 486 = .ok (.ifCond .ne 9, 3) := by decide +kernel
theorem dL_act_489 : decode cL_act 489 = .ok (.sipush 999, 3) := by decide +kernel
theorem dL_act_492 : decode cL_act 492 = .ok (.goto 6, 3) := by decide +kernel
theorem dL_act_495 : decode cL_act 495 = .ok (.sipush 150, 3) := by decide +kernel
theorem dL_act_498 : decode cL_act 498 = .ok (.invokestatic 79, 3) := by decide +kernel
theorem dL_act_501 : decode cL_act 501 = .ok (.iadd, 1) := by decide +kernel
theorem dL_act_502 : decode cL_act 502 = .ok (.iload 5, 2) := by decide +kernel
theorem dL_act_504 : decode cL_act 504 = .ok (.invokevirtual 91, 3) := by decide +kernel
theorem dL_act_507 : decode cL_act 507 = .ok (.iload 4, 2) := by decide +kernel
theorem dL_act_509 : decode cL_act 509 = .ok (.if_icmp .ne 47, 3) := by decide +kernel
theorem dL_act_512 : decode cL_act 512 = .ok (.aload_n 0, 1) := by decide +kernel
theorem dL_act_513 : decode cL_act 513 = .ok (.iload 4, 2) := by decide +kernel
theorem dL_act_515 : decode cL_act 515 = .ok (.iconst 0, 1) := by decide +kernel
theorem dL_act_516 : decode cL_act 516 = .ok (.invokevirtual 23, 3) := by decide +kernel
theorem dL_act_519 : decode cL_act 519 = .ok (.iload_n 3, 1) := by decide +kernel
theorem dL_act_520 : decode cL_act 520 = .ok (.if_icmp .ne 36, 3) := by decide +kernel
theorem dL_act_523 : decode cL_act 523 = .ok (.aload_n 0, 1) := by decide +kernel
theorem dL_act_524 : decode cL_act 524 = .ok (.iload 4, 2) := by decide +kernel
theorem dL_act_526 : decode cL_act 526 = .ok (.iconst 3, 1) := by decide +kernel
theorem dL_act_527 : decode cL_act 527 = .ok (.invokevirtual 23, 3) := by decide +kernel
theorem dL_act_530 : decode cL_act 530 = .ok (.iload 5, 2) := by decide +kernel
theorem dL_act_532 : decode cL_act 532 = .ok (.if_icmp .ne 24, 3) := by decide +kernel
theorem dL_act_535 : decode cL_act 535 = .ok (.aload_n 0, 1) := by decide +kernel
theorem dL_act_536 : decode cL_act 536 = .ok (.iload 4, 2) := by decide +kernel
theorem dL_act_538 : decode cL_act 538 = .ok (.iconst 2, 1) := by decide +kernel
theorem dL_act_539 : decode cL_act 539 = .ok (.invokevirtual 23, 3) := by decide +kernel
theorem dL_act_542 : decode cL_act 542 = .ok (.aload_n 0, 1) := by decide +kernel
theorem dL_act_543 : decode cL_act 543 = .ok (.iload 4, 2) := by decide +kernel
theorem dL_act_545 : decode cL_act 545 = .ok (.iconst 1, 1) := by decide +kernel
theorem dL_act_546 : decode cL_act 546 = .ok (.invokevirtual 23, 3) := by decide +kernel
theorem dL_act_549 : decode cL_act 549 = .ok (.if_icmp .ne 7, 3) := by decide +kernel
theorem dL_act_552 : decode cL_act 552 = .ok (.iconst 1, 1) := by decide +kernel
theorem dL_act_553 : decode cL_act 553 = .ok (.goto 4, 3) := by decide +kernel
theorem dL_act_556 : decode cL_act 556 = .ok (.iconst 0, 1) := by decide +kernel
theorem dL_act_557 : decode cL_act 557 = .ok (.ireturn, 1) := by decide +kernel
theorem dL_act_558 : decode cL_act 558 = .ok (.aload_n 0, 1) := by decide +kernel
theorem dL_act_559 : decode cL_act 559 = .ok (.iload_n 3, 1) := by decide +kernel
theorem dL_act_560 : decode cL_act 560 = .ok (.iload_n 2, 1) := by decide +kernel
theorem dL_act_561 : decode cL_act 561 = .ok (.iconst 3, 1) := by decide +kernel
theorem dL_act_562 : decode cL_act 562 = .ok (.ishr, 1) := by decide +kernel
theorem dL_act_563 : decode cL_act 563 = .ok (.bipush 6, 2) := by decide +kernel
theorem dL_act_565 : decode cL_act 565 = .ok (.invokestatic 79, 3) := by decide +kernel
theorem dL_act_568 : decode cL_act 568 = .ok (.invokevirtual 16, 3) := by decide +kernel
theorem dL_act_571 : decode cL_act 571 = .ok (.istore 4, 2) := by decide +kernel
theorem dL_act_573 : decode cL_act 573 = .ok (.iload_n 3, 1) := by decide +kernel
theorem dL_act_574 : decode cL_act 574 = .ok (.iconst 1, 1) := by decide +kernel
theorem dL_act_575 : decode cL_act 575 = .ok (.iadd, 1) := by decide +kernel
theorem dL_act_576 : decode cL_act 576 = .ok (.iload_n 2, 1) := by decide +kernel
theorem dL_act_577 : decode cL_act 577 = .ok (.bipush 6, 2) := by decide +kernel
theorem dL_act_579 : decode cL_act 579 = .ok (.ishr, 1) := by decide +kernel
theorem dL_act_580 : decode cL_act 580 = .ok (.iconst 4, 1) := by decide +kernel
theorem dL_act_581 : decode cL_act 581 = .ok (.invokestatic 79, 3) := by decide +kernel
theorem dL_act_584 : decode cL_act 584 = .ok (.iadd, 1) := by decide +kernel
theorem dL_act_585 : decode cL_act 585 = .ok (.iconst 5, 1) := by decide +kernel
theorem dL_act_586 : decode cL_act 586 = .ok (.irem, 1) := by decide +kernel
theorem dL_act_587 : decode cL_act 587 = .ok (.istore 5, 2) := by decide +kernel
theorem dL_act_589 : decode cL_act 589 = .ok (.aload_n 0, 1) := by decide +kernel
theorem dL_act_590 : decode cL_act 590 = .ok (.iload 4, 2) := by decide +kernel
theorem dL_act_592 : decode cL_act 592 = .ok (.iconst 2, 1) := by decide +kernel
theorem dL_act_593 : decode cL_act 593 = .ok (.invokevirtual 23, 3) := by decide +kernel
theorem dL_act_596 : decode cL_act 596 = .ok (.istore 6, 2) := by decide +kernel
theorem dL_act_598 : decode cL_act 598 = .ok (.iload 4, 2) := by decide +kernel
theorem dL_act_600 : decode cL_act 600 = .ok (.ifCond .lt 58, 3) := by decide +kernel
theorem dL_act_603 : decode cL_act 603 = .ok (.aload_n 0, 1) := by decide +kernel
theorem dL_act_604 : decode cL_act 604 = .ok (.iload 5, 2) := by decide +kernel
theorem dL_act_606 : decode cL_act 606 = .ok (.bipush 7, 2) := by decide +kernel
theorem dL_act_608 : decode cL_act 608 = .ok (.invokevirtual 10, 3) := by decide +kernel
theorem dL_act_611 : decode cL_act 611 = .ok (.bipush 6, 2) := by decide +kernel
theorem dL_act_613 : decode cL_act 613 = .ok (.if_icmp .eq 45, 3) := by decide +kernel
theorem dL_act_616 : decode cL_act 616 = .ok (.aload_n 0, 1) := by decide +kernel
theorem dL_act_617 : decode cL_act 617 = .ok (.iload 4, 2) := by decide +kernel
theorem dL_act_619 : decode cL_act 619 = .ok (.iload 5, 2) := by decide +kernel
theorem dL_act_621 : decode cL_act 621 = .ok (.invokevirtual 94, 3) := by decide +kernel
theorem dL_act_624 : decode cL_act 624 = .ok (.aload_n 0, 1) := by decide +kernel
theorem dL_act_625 : decode cL_act 625 = .ok (.iload 4, 2) := by decide +kernel
theorem dL_act_627 : decode cL_act 627 = .ok (.iconst 4, 1) := by decide +kernel
theorem dL_act_628 : decode cL_act 628 = .ok (.invokevirtual 23, 3) := by decide +kernel
theorem dL_act_631 : decode cL_act 631 = .ok (.if_icmp .ne 31, 3) := by decide +kernel
theorem dL_act_634 : decode cL_act 634 = .ok (.aload_n 0, 1) := by decide +kernel
theorem dL_act_635 : decode cL_act 635 = .ok (.iload 4, 2) := by decide +kernel
theorem dL_act_637 : decode cL_act 637 = .ok (.iconst 0, 1) := by decide +kernel
theorem dL_act_638 : decode cL_act 638 = .ok (.invokevirtual 23, 3) := by decide +kernel
theorem dL_act_641 : decode cL_act 641 = .ok (.iload 5, 2) := by decide +kernel
theorem dL_act_643 : decode cL_act 643 = .ok (.if_icmp .ne 19, 3) := by decide +kernel
theorem dL_act_646 : decode cL_act 646 = .ok (.aload_n 0, 1) := by decide +kernel
theorem dL_act_647 : decode cL_act 647 = .ok (.iload 4, 2) := by decide +kernel
theorem dL_act_649 : decode cL_act 649 = .ok (.iconst 2, 1) := by decide +kernel
theorem dL_act_650 : decode cL_act 650 = .ok (.invokevirtual 23, 3) := by decide +kernel
theorem dL_act_653 : decode cL_act 653 = .ok (.iload 6, 2) := by decide +kernel
theorem dL_act_655 : decode cL_act 655 = .ok (.if_icmp .ne 7, 3) := by decide +kernel
theorem dL_act_658 : decode cL_act 658 = .ok (.iconst 1, 1) := by decide +kernel
theorem dL_act_659 : decode cL_act 659 = .ok (.goto 4, 3) := by decide +kernel
theorem dL_act_662 : decode cL_act 662 = .ok (.iconst 0, 1) := by decide +kernel
theorem dL_act_663 : decode cL_act 663 = .ok (.ireturn, 1) := by decide +kernel
theorem dL_act_664 : decode cL_act 664 = .ok (.aload_n 0, 1) := by decide +kernel
theorem dL_act_665 : decode cL_act 665 = .ok (.iload_n 3, 1) := by decide +kernel
theorem dL_act_666 : decode cL_act 666 = .ok (.iload_n 2, 1) := by decide +kernel
theorem dL_act_667 : decode cL_act 667 = .ok (.iconst 3, 1) := by decide +kernel
theorem dL_act_668 : decode cL_act 668 = .ok (.ishr, 1) := by decide +kernel
theorem dL_act_669 : decode cL_act 669 = .ok (.bipush 6, 2) := by decide +kernel
theorem dL_act_671 : decode cL_act 671 = .ok (.invokestatic 79, 3) := by decide +kernel
theorem dL_act_674 : decode cL_act 674 = .ok (.invokevirtual 16, 3) := by decide +kernel
theorem dL_act_677 : decode cL_act 677 = .ok (.istore 4, 2) := by decide +kernel
theorem dL_act_679 : decode cL_act 679 = .ok (.aload_n 0, 1) := by decide +kernel
theorem dL_act_680 : decode cL_act 680 = .ok (.iload 4, 2) := by decide +kernel
theorem dL_act_682 : decode cL_act 682 = .ok (.iconst 2, 1) := by decide +kernel
theorem dL_act_683 : decode cL_act 683 = .ok (.invokevirtual 23, 3) := by decide +kernel
theorem dL_act_686 : decode cL_act 686 = .ok (.istore 5, 2) := by decide +kernel
theorem dL_act_688 : decode cL_act 688 = .ok (.aload_n 0, 1) := by decide +kernel
theorem dL_act_689 : decode cL_act 689 = .ok (.bipush 10, 2) := by decide +kernel
theorem dL_act_691 : decode cL_act 691 = .ok (.invokevirtual 19, 3) := by decide +kernel
theorem dL_act_694 : decode cL_act 694 = .ok (.istore 6, 2) := by decide +kernel
theorem dL_act_696 : decode cL_act 696 = .ok (.iload 4, 2) := by decide +kernel
theorem dL_act_698 : decode cL_act 698 = .ok (.ifCond .lt 38, 3) := by decide +kernel
theorem dL_act_701 : decode cL_act 701 = .ok (.aload_n 0, 1) := by decide +kernel
theorem dL_act_702 : decode cL_act 702 = .ok (.iload 4, 2) := by decide +kernel
theorem dL_act_704 : decode cL_act 704 = .ok (.invokevirtual 97, 3) := by decide +kernel
theorem dL_act_707 : decode cL_act 707 = .ok (.iload 5, 2) := by decide +kernel
theorem dL_act_709 : decode cL_act 709 = .ok (.if_icmp .ne 31, 3) := by decide +kernel
theorem dL_act_712 : decode cL_act 712 = .ok (.aload_n 0, 1) := by decide +kernel
theorem dL_act_713 : decode cL_act 713 = .ok (.iload 4, 2) := by decide +kernel
theorem dL_act_715 : decode cL_act 715 = .ok (.iconst 0, 1) := by decide +kernel
theorem dL_act_716 : decode cL_act 716 = .ok (.invokevirtual 23, 3) := by decide +kernel
theorem dL_act_719 : decode cL_act 719 = .ok (.iconst (-1), 1) := by decide +kernel
theorem dL_act_720 : decode cL_act 720 = .ok (.if_icmp .ne 20, 3) := by decide +kernel
theorem dL_act_723 : decode cL_act 723 = .ok (.aload_n 0, 1) := by decide +kernel
theorem dL_act_724 : decode cL_act 724 = .ok (.bipush 10, 2) := by decide +kernel
theorem dL_act_726 : decode cL_act 726 = .ok (.invokevirtual 19, 3) := by decide +kernel
theorem dL_act_729 : decode cL_act 729 = .ok (.iload 6, 2) := by decide +kernel
theorem dL_act_731 : decode cL_act 731 = .ok (.iconst 1, 1) := by decide +kernel
theorem dL_act_732 : decode cL_act 732 = .ok (.iadd, 1) := by decide +kernel
theorem dL_act_733 : decode cL_act 733 = .ok (.if_icmp .ne 7, 3) := by decide +kernel
theorem dL_act_736 : decode cL_act 736 = .ok (.iconst 1, 1) := by decide +kernel
theorem dL_act_737 : decode cL_act 737 = .ok (.goto 4, 3) := by decide +kernel
theorem dL_act_740 : decode cL_act 740 = .ok (.iconst 0, 1) := by decide +kernel
theorem dL_act_741 : decode cL_act 741 = .ok (.ireturn, 1) := by decide +kernel
theorem dL_act_742 : decode cL_act 742 = .ok (.aload_n 0, 1) := by decide +kernel
theorem dL_act_743 : decode cL_act 743 = .ok (.iload_n 2, 1) := by decide +kernel
theorem dL_act_744 : decode cL_act 744 = .ok (.iconst 3, 1) := by decide +kernel
theorem dL_act_745 : decode cL_act 745 = .ok (.ishr, 1) := by decide +kernel
theorem dL_act_746 : decode cL_act 746 = .ok (.aload_n 0, 1) := by decide +kernel
theorem dL_act_747 : decode cL_act 747 = .ok (.bipush 6, 2) := by decide +kernel
theorem dL_act_749 : decode cL_act 749 = .ok (.invokevirtual 19, 3) := by decide +kernel
theorem dL_act_752 : decode cL_act 752 = .ok (.iconst 1, 1) := by decide +kernel
theorem dL_act_753 : decode cL_act 753 = .ok (.iadd, 1) := by decide +kernel
theorem dL_act_754 : decode cL_act 754 = .ok (.invokestatic 79, 3) := by decide +kernel
theorem dL_act_757 : decode cL_act 757 = .ok (.invokestatic 100, 3) := by decide +kernel
theorem dL_act_760 : decode cL_act 760 = .ok (.ireturn, 1) := by decide +kernel
theorem dL_act_761 : decode cL_act 761 = .ok (.iload_n 2, 1) := by decide +kernel
theorem dL_act_762 : decode cL_act 762 = .ok (.iconst 3, 1) := by decide +kernel
theorem dL_act_763 : decode cL_act 763 = .ok (.ishr, 1) := by decide +kernel
theorem dL_act_764 : decode cL_act 764 = .ok (.iconst 3, 1) := by decide +kernel
theorem dL_act_765 : decode cL_act 765 = .ok (.invokestatic 79, 3) := by decide +kernel
theorem dL_act_768 : decode cL_act 768 = .ok (.ifCond .gt 11, 3) := by decide +kernel
theorem dL_act_771 : decode cL_act 771 = .ok (.aload_n 0, 1) := by decide +kernel
theorem dL_act_772 : decode cL_act 772 = .ok (.iload_n 3, 1) := by decide +kernel
theorem dL_act_773 : decode cL_act 773 = .ok (.invokestatic 103, 3) := by decide +kernel
theorem dL_act_776 : decode cL_act 776 = .ok (.ifCond .eq 7, 3) := by decide +kernel
theorem dL_act_779 : decode cL_act 779 = .ok (.iconst 1, 1) := by decide +kernel
theorem dL_act_780 : decode cL_act 780 = .ok (.goto 4, 3) := by decide +kernel
theorem dL_act_783 : decode cL_act 783 = .ok (.iconst 0, 1) := by decide +kernel
theorem dL_act_784 : decode cL_act 784 = .ok (.ireturn, 1) := by decide +kernel
theorem dL_act_785 : decode cL_act 785 = .ok (.aload_n 0, 1) := by decide +kernel
theorem dL_act_786 : decode cL_act 786 = .ok (.invokevirtual 106, 3) := by decide +kernel
theorem dL_act_789 : decode cL_act 789 = .ok (.istore 4, 2) := by decide +kernel
theorem dL_act_791 : decode cL_act 791 = .ok (.aload_n 0, 1) := by decide +kernel
theorem dL_act_792 : decode cL_act 792 = .ok (.bipush 6, 2) := by decide +kernel
theorem dL_act_794 : decode cL_act 794 = .ok (.invokevirtual 19, 3) := by decide +kernel
theorem dL_act_797 : decode cL_act 797 = .ok (.istore 5, 2) := by decide +kernel
theorem dL_act_799 : decode cL_act 799 = .ok (.iload 4, 2) := by decide +kernel
theorem dL_act_801 : decode cL_act 801 = .ok (.aload_n 0, 1) := by decide +kernel
theorem dL_act_802 : decode cL_act 802 = .ok (.iconst 0, 1) := by decide +kernel
theorem dL_act_803 : decode cL_act 803 = .ok (.invokevirtual 19, 3) := by decide +kernel
theorem dL_act_806 : decode cL_act 806 = .ok (.if_icmp .ne 54, 3) := by decide +kernel
theorem dL_act_809 : decode cL_act 809 = .ok (.aload_n 0, 1) := by decide +kernel
theorem dL_act_810 : decode cL_act 810 = .ok (.iconst 1, 1) := by decide +kernel
theorem dL_act_811 : decode cL_act 811 = .ok (.iload_n 2, 1) := by decide +kernel
theorem dL_act_812 : decode cL_act 812 = .ok (.iconst 3, 1) := by decide +kernel
theorem dL_act_813 : decode cL_act 813 = .ok (.ishr, 1) := by decide +kernel
theorem dL_act_814 : decode cL_act 814 = .ok (.bipush 20, 2) := by decide +kernel
theorem dL_act_816 : decode cL_act 816 = .ok (.invokestatic 79, 3) := by decide +kernel
theorem dL_act_819 : decode cL_act 819 = .ok (.iadd, 1) := by decide +kernel
theorem dL_act_820 : decode cL_act 820 = .ok (.invokestatic 109, 3) := by decide +kernel
theorem dL_act_823 : decode cL_act 823 = .ok (.ifCond .eq 37, 3) := by decide +kernel
theorem dL_act_826 : decode cL_act 826 = .ok (.aload_n 0, 1) := by decide +kernel
theorem dL_act_827 : decode cL_act 827 = .ok (.invokevirtual 112, 3) := by decide +kernel
theorem dL_act_830 : decode cL_act 830 = .ok (.iload 4, 2) := by decide +kernel
theorem dL_act_832 : decode cL_act 832 = .ok (.if_icmp .ne 28, 3) := by decide +kernel
theorem dL_act_835 : decode cL_act 835 = .ok (.aload_n 0, 1) := by decide +kernel
theorem dL_act_836 : decode cL_act 836 = .ok (.iconst 0, 1) := by decide +kernel
theorem dL_act_837 : decode cL_act 837 = .ok (.invokevirtual 19, 3) := by decide +kernel
theorem dL_act_840 : decode cL_act 840 = .ok (.iload 4, 2) := by decide +kernel
theorem dL_act_842 : decode cL_act 842 = .ok (.if_icmp .ne 18, 3) := by decide +kernel
theorem dL_act_845 : decode cL_act 845 = .ok (.aload_n 0, 1) := by decide +kernel
theorem dL_act_846 : decode cL_act 846 = .ok (.bipush 6, 2) := by decide +kernel
theorem dL_act_848 : decode cL_act 848 = .ok (.invokevirtual 19, 3) := by decide +kernel
theorem dL_act_851 : decode cL_act 851 = .ok (.iload 5, 2) := by decide +kernel
theorem dL_act_853 : decode cL_act 853 = .ok (.if_icmp .ne 7, 3) := by decide +kernel
theorem dL_act_856 : decode cL_act 856 = .ok (.iconst 1, 1) := by decide +kernel
theorem dL_act_857 : decode cL_act 857 = .ok (.goto 4, 3) := by decide +kernel
theorem dL_act_860 : decode cL_act 860 = .ok (.iconst 0, 1) := by decide +kernel
theorem dL_act_861 : decode cL_act 861 = .ok (.ireturn, 1) := by decide +kernel
theorem dL_act_862 : decode cL_act 862 = .ok (.aload_n 0, 1) := by decide +kernel
theorem dL_act_863 : decode cL_act 863 = .ok (.iconst 1, 1) := by decide +kernel
theorem dL_act_864 : decode cL_act 864 = .ok (.iload_n 2, 1) := by decide +kernel
theorem dL_act_865 : decode cL_act 865 = .ok (.iconst 3, 1) := by decide +kernel
theorem dL_act_866 : decode cL_act 866 = .ok (.ishr, 1) := by decide +kernel
theorem dL_act_867 : decode cL_act 867 = .ok (.iload_n 2, 1) := by decide +kernel
theorem dL_act_868 : decode cL_act 868 = .ok (.bipush 9, 2) := by decide +kernel
theorem dL_act_870 : decode cL_act 870 = .ok (.ishr, 1) := by decide +kernel
theorem dL_act_871 : decode cL_act 871 = .ok (.iconst 3, 1) := by decide +kernel
theorem dL_act_872 : decode cL_act 872 = .ok (.invokestatic 79, 3) := by decide +kernel
theorem dL_act_875 : decode cL_act 875 = .ok (.ifCond .ne 8, 3) := by decide +kernel
theorem dL_act_878 : decode cL_act 878 = .ok (.bipush 48, 2) := by decide +kernel
theorem dL_act_880 : decode cL_act 880 = .ok (.goto 4, 3) := by decide +kernel
theorem dL_act_883 : decode cL_act 883 = .ok (.iconst 4, 1) := by decide +kernel
theorem dL_act_884 : decode cL_act 884 = .ok (.invokestatic 79, 3) := by decide +kernel
theorem dL_act_887 : decode cL_act 887 = .ok (.iadd, 1) := by decide +kernel
theorem dL_act_888 : decode cL_act 888 = .ok (.invokestatic 109, 3) := by decide +kernel
theorem dL_act_891 : decode cL_act 891 = .ok (.ireturn, 1) := by decide +kernel
theorem dL_law_0 : decode cL_law 0 = .ok (.new 11, 3) := by decide +kernel
theorem dL_law_3 : decode cL_law 3 = .ok (.dup, 1) := by decide +kernel
theorem dL_law_4 : decode cL_law 4 = .ok (.invokespecial 115, 3) := by decide +kernel
theorem dL_law_7 : decode cL_law 7 = .ok (.astore_n 1, 1) := by decide +kernel
theorem dL_law_8 : decode cL_law 8 = .ok (.aload_n 1, 1) := by decide +kernel
theorem dL_law_9 : decode cL_law 9 = .ok (.invokestatic 116, 3) := by decide +kernel
theorem dL_law_12 : decode cL_law 12 = .ok (.ifCond .eq 39, 3) := by decide +kernel
theorem dL_law_15 : decode cL_law 15 = .ok (.aload_n 1, 1) := by decide +kernel
theorem dL_law_16 : decode cL_law 16 = .ok (.iconst 1, 1) := by decide +kernel
theorem dL_law_17 : decode cL_law 17 = .ok (.invokevirtual 19, 3) := by decide +kernel
theorem dL_law_20 : decode cL_law 20 = .ok (.iconst (-1), 1) := by decide +kernel
theorem dL_law_21 : decode cL_law 21 = .ok (.if_icmp .ne 30, 3) := by decide +kernel
theorem dL_law_24 : decode cL_law 24 = .ok (.aload_n 1, 1) := by decide +kernel
theorem dL_law_25 : decode cL_law 25 = .ok (.invokevirtual 41, 3) := by decide +kernel
theorem dL_law_28 : decode cL_law 28 = .ok (.iconst (-1), 1) := by decide +kernel
theorem dL_law_29 : decode cL_law 29 = .ok (.if_icmp .ne 22, 3) := by decide +kernel
theorem dL_law_32 : decode cL_law 32 = .ok (.aload_n 1, 1) := by decide +kernel
theorem dL_law_33 : decode cL_law 33 = .ok (.iconst 0, 1) := by decide +kernel
theorem dL_law_34 : decode cL_law 34 = .ok (.invokevirtual 76, 3) := by decide +kernel
theorem dL_law_37 : decode cL_law 37 = .ok (.iconst (-1), 1) := by decide +kernel
theorem dL_law_38 : decode cL_law 38 = .ok (.if_icmp .ne 13, 3) := by decide +kernel
theorem dL_law_41 : decode cL_law 41 = .ok (.aload_n 1, 1) := by decide +kernel
theorem dL_law_42 : decode cL_law 42 = .ok (.iconst 4, 1) := by decide +kernel
theorem dL_law_43 : decode cL_law 43 = .ok (.invokevirtual 62, 3) := by decide +kernel
theorem dL_law_46 : decode cL_law 46 = .ok (.bipush 60, 2) := by decide +kernel
theorem dL_law_48 : decode cL_law 48 = .ok (.if_icmp .eq 5, 3) := by decide +kernel
theorem dL_law_51 : decode cL_law 51 = .ok (.iconst 0, 1) := by decide +kernel
theorem dL_law_52 : decode cL_law 52 = .ok (.ireturn, 1) := by decide +kernel
theorem dL_law_53 : decode cL_law 53 = .ok (.iconst 0, 1) := by decide +kernel
theorem dL_law_54 : decode cL_law 54 = .ok (.istore_n 2, 1) := by decide +kernel
theorem dL_law_55 : decode cL_law 55 = .ok (.iload_n 2, 1) := by decide +kernel
theorem dL_law_56 : decode cL_law 56 = .ok (.bipush 40, 2) := by decide +kernel
theorem dL_law_58 : decode cL_law 58 = .ok (.if_icmp .ge 41, 3) := by decide +kernel
theorem dL_law_61 : decode cL_law 61 = .ok (.aload_n 1, 1) := by decide +kernel
theorem dL_law_62 : decode cL_law 62 = .ok (.aload_n 0, 1) := by decide +kernel
theorem dL_law_63 : decode cL_law 63 = .ok (.iconst 2, 1) := by decide +kernel
theorem dL_law_64 : decode cL_law 64 = .ok (.iload_n 2, 1) := by decide +kernel
theorem dL_law_65 : decode cL_law 65 = .ok (.imul, 1) := by decide +kernel
theorem dL_law_66 : decode cL_law 66 = .ok (.invokestatic 119, 3) := by decide +kernel
theorem dL_law_69 : decode cL_law 69 = .ok (.aload_n 0, 1) := by decide +kernel
theorem dL_law_70 : decode cL_law 70 = .ok (.iconst 2, 1) := by decide +kernel
theorem dL_law_71 : decode cL_law 71 = .ok (.iload_n 2, 1) := by decide +kernel
theorem dL_law_72 : decode cL_law 72 = .ok (.imul, 1) := by decide +kernel
theorem dL_law_73 : decode cL_law 73 = .ok (.iconst 1, 1) := by decide +kernel
theorem dL_law_74 : decode cL_law 74 = .ok (.iadd, 1) := by decide +kernel
theorem dL_law_75 : decode cL_law 75 = .ok (.invokestatic 119, 3) := by decide +kernel
theorem dL_law_78 : decode cL_law 78 = .ok (.invokestatic 123, 3) := by decide +kernel
theorem dL_law_81 : decode cL_law 81 = .ok (.ifCond .eq 10, 3) := by decide +kernel
theorem dL_law_84 : decode cL_law 84 = .ok (.aload_n 1, 1) := by decide +kernel
theorem dL_law_85 : decode cL_law 85 = .ok (.invokestatic 116, 3) := by decide +kernel
theorem dL_law_88 : decode cL_law 88 = .ok (.ifCond .ne 5, 3) := by decide +kernel
theorem dL_law_91 : decode cL_law 91 = .ok (.iconst 0, 1) := by decide +kernel
theorem dL_law_92 : decode cL_law 92 = .ok (.ireturn, 1) := by decide +kernel
theorem dL_law_93 : decode cL_law 93 = .ok (.iinc 2 1, 3) := by decide +kernel
theorem dL_law_96 : decode cL_law 96 = .ok (.goto (-41), 3) := by decide +kernel
theorem dL_law_99 : decode cL_law 99 = .ok (.iconst 1, 1) := by decide +kernel
theorem dL_law_100 : decode cL_law 100 = .ok (.ireturn, 1) := by decide +kernel
