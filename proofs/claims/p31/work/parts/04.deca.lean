theorem dX0_init_0 : decode cX0_init 0 = .ok (.aload_n 0, 1) := by decide +kernel
theorem dX0_init_1 : decode cX0_init 1 = .ok (.invokespecial 3, 3) := by decide +kernel
theorem dX0_init_4 : decode cX0_init 4 = .ok (.aload_n 0, 1) := by decide +kernel
theorem dX0_init_5 : decode cX0_init 5 = .ok (.bipush 10, 2) := by decide +kernel
theorem dX0_init_7 : decode cX0_init 7 = .ok (.putfield 9, 3) := by decide +kernel
theorem dX0_init_10 : decode cX0_init 10 = .ok (.aload_n 0, 1) := by decide +kernel
theorem dX0_init_11 : decode cX0_init 11 = .ok (.bipush 20, 2) := by decide +kernel
theorem dX0_init_13 : decode cX0_init 13 = .ok (.putfield 15, 3) := by decide +kernel
theorem dX0_init_16 : decode cX0_init 16 = .ok (.aload_n 0, 1) := by decide +kernel
theorem dX0_init_17 : decode cX0_init 17 = .ok (.bipush 20, 2) := by decide +kernel
theorem dX0_init_19 : decode cX0_init 19 = .ok (.putfield 18, 3) := by decide +kernel
theorem dX0_init_22 : decode cX0_init 22 = .ok (.aload_n 0, 1) := by decide +kernel
theorem dX0_init_23 : decode cX0_init 23 = .ok (.iconst 0, 1) := by decide +kernel
theorem dX0_init_24 : decode cX0_init 24 = .ok (.putfield 21, 3) := by decide +kernel
theorem dX0_init_27 : decode cX0_init 27 = .ok (.aload_n 0, 1) := by decide +kernel
theorem dX0_init_28 : decode cX0_init 28 = .ok (.iconst (-1), 1) := by decide +kernel
theorem dX0_init_29 : decode cX0_init 29 = .ok (.putfield 24, 3) := by decide +kernel
theorem dX0_init_32 : decode cX0_init 32 = .ok (.aload_n 0, 1) := by decide +kernel
theorem dX0_init_33 : decode cX0_init 33 = .ok (.iconst 0, 1) := by decide +kernel
theorem dX0_init_34 : decode cX0_init 34 = .ok (.putfield 27, 3) := by decide +kernel
theorem dX0_init_37 : decode cX0_init 37 = .ok (.aload_n 0, 1) := by decide +kernel
theorem dX0_init_38 : decode cX0_init 38 = .ok (.iconst 0, 1) := by decide +kernel
theorem dX0_init_39 : decode cX0_init 39 = .ok (.putfield 30, 3) := by decide +kernel
theorem dX0_init_42 : decode cX0_init 42 = .ok (.aload_n 0, 1) := by decide +kernel
theorem dX0_init_43 : decode cX0_init 43 = .ok (.iconst 0, 1) := by decide +kernel
theorem dX0_init_44 : decode cX0_init 44 = .ok (.putfield 33, 3) := by decide +kernel
theorem dX0_init_47 : decode cX0_init 47 = .ok (.aload_n 0, 1) := by decide +kernel
theorem dX0_init_48 : decode cX0_init 48 = .ok (.iconst 0, 1) := by decide +kernel
theorem dX0_init_49 : decode cX0_init 49 = .ok (.putfield 36, 3) := by decide +kernel
theorem dX0_init_52 : decode cX0_init 52 = .ok (.aload_n 0, 1) := by decide +kernel
theorem dX0_init_53 : decode cX0_init 53 = .ok (.iconst 0, 1) := by decide +kernel
theorem dX0_init_54 : decode cX0_init 54 = .ok (.putfield 39, 3) := by decide +kernel
theorem dX0_init_57 : decode cX0_init 57 = .ok (.aload_n 0, 1) := by decide +kernel
theorem dX0_init_58 : decode cX0_init 58 = .ok (.iconst 0, 1) := by decide +kernel
theorem dX0_init_59 : decode cX0_init 59 = .ok (.putfield 42, 3) := by decide +kernel
theorem dX0_init_62 : decode cX0_init 62 = .ok (.aload_n 0, 1) := by decide +kernel
theorem dX0_init_63 : decode cX0_init 63 = .ok (.iconst 0, 1) := by decide +kernel
theorem dX0_init_64 : decode cX0_init 64 = .ok (.putfield 45, 3) := by decide +kernel
theorem dX0_init_67 : decode cX0_init 67 = .ok (.aconst_null, 1) := by decide +kernel
theorem dX0_init_68 : decode cX0_init 68 = .ok (.astore_n 1, 1) := by decide +kernel
theorem dX0_init_69 : decode cX0_init 69 = .ok (.iconst 4, 1) := by decide +kernel
theorem dX0_init_70 : decode cX0_init 70 = .ok (.istore_n 2, 1) := by decide +kernel
theorem dX0_init_71 : decode cX0_init 71 = .ok (.iload_n 2, 1) := by decide +kernel
theorem dX0_init_72 : decode cX0_init 72 = .ok (.ifCond .lt 19, 3) := by decide +kernel
theorem dX0_init_75 : decode cX0_init 75 = .ok (.new 48, 3) := by decide +kernel
theorem dX0_init_78 : decode cX0_init 78 = .ok (.dup, 1) := by decide +kernel
theorem dX0_init_79 : decode cX0_init 79 = .ok (.iload_n 2, 1) := by decide +kernel
theorem dX0_init_80 : decode cX0_init 80 = .ok (.aload_n 1, 1) := by decide +kernel
theorem dX0_init_81 : decode cX0_init 81 = .ok (.invokespecial 50, 3) := by decide +kernel
theorem dX0_init_84 : decode cX0_init 84 = .ok (.astore_n 1, 1) := by decide +kernel
theorem dX0_init_85 : decode cX0_init 85 = .ok (.iinc 2 (-1), 3) := by decide +kernel
theorem dX0_init_88 : decode cX0_init 88 = .ok (.goto (-17), 3) := by decide +kernel
theorem dX0_init_91 : decode cX0_init 91 = .ok (.aload_n 0, 1) := by decide +kernel
theorem dX0_init_92 : decode cX0_init 92 = .ok (.aload_n 1, 1) := by decide +kernel
theorem dX0_init_93 : decode cX0_init 93 = .ok (.putfield 53, 3) := by decide +kernel
theorem dX0_init_96 : decode cX0_init 96 = .ok (.return_, 1) := by decide +kernel
theorem dX0_copyFrom_0 : decode cX0_copyFrom 0 = .ok (.aload_n 0, 1) := by decide +kernel
theorem dX0_copyFrom_1 : decode cX0_copyFrom 1 = .ok (.aload_n 1, 1) := by decide +kernel
theorem dX0_copyFrom_2 : decode cX0_copyFrom 2 = .ok (.getfield 9, 3) := by decide +kernel
theorem dX0_copyFrom_5 : decode cX0_copyFrom 5 = .ok (.putfield 9, 3) := by decide +kernel
theorem dX0_copyFrom_8 : decode cX0_copyFrom 8 = .ok (.aload_n 0, 1) := by decide +kernel
theorem dX0_copyFrom_9 : decode cX0_copyFrom 9 = .ok (.aload_n 1, 1) := by decide +kernel
theorem dX0_copyFrom_10 : decode cX0_copyFrom 10 = .ok (.getfield 15, 3) := by decide +kernel
theorem dX0_copyFrom_13 : decode cX0_copyFrom 13 = .ok (.putfield 15, 3) := by decide +kernel
theorem dX0_copyFrom_16 : decode cX0_copyFrom 16 = .ok (.aload_n 0, 1) := by decide +kernel
theorem dX0_copyFrom_17 : decode cX0_copyFrom 17 = .ok (.aload_n 1, 1) := by decide +kernel
theorem dX0_copyFrom_18 : decode cX0_copyFrom 18 = .ok (.getfield 18, 3) := by decide +kernel
theorem dX0_copyFrom_21 : decode cX0_copyFrom 21 = .ok (.putfield 18, 3) := by decide +kernel
theorem dX0_copyFrom_24 : decode cX0_copyFrom 24 = .ok (.aload_n 0, 1) := by decide +kernel
theorem dX0_copyFrom_25 : decode cX0_copyFrom 25 = .ok (.aload_n 1, 1) := by decide +kernel
theorem dX0_copyFrom_26 : decode cX0_copyFrom 26 = .ok (.getfield 21, 3) := by decide +kernel
theorem dX0_copyFrom_29 : decode cX0_copyFrom 29 = .ok (.putfield 21, 3) := by decide +kernel
theorem dX0_copyFrom_32 : decode cX0_copyFrom 32 = .ok (.aload_n 0, 1) := by decide +kernel
theorem dX0_copyFrom_33 : decode cX0_copyFrom 33 = .ok (.aload_n 1, 1) := by decide +kernel
theorem dX0_copyFrom_34 : decode cX0_copyFrom 34 = .ok (.getfield 24, 3) := by decide +kernel
theorem dX0_copyFrom_37 : decode cX0_copyFrom 37 = .ok (.putfield 24, 3) := by decide +kernel
theorem dX0_copyFrom_40 : decode cX0_copyFrom 40 = .ok (.aload_n 0, 1) := by decide +kernel
theorem dX0_copyFrom_41 : decode cX0_copyFrom 41 = .ok (.aload_n 1, 1) := by decide +kernel
theorem dX0_copyFrom_42 : decode cX0_copyFrom 42 = .ok (.getfield 27, 3) := by decide +kernel
theorem dX0_copyFrom_45 : decode cX0_copyFrom 45 = .ok (.putfield 27, 3) := by decide +kernel
theorem dX0_copyFrom_48 : decode cX0_copyFrom 48 = .ok (.aload_n 0, 1) := by decide +kernel
theorem dX0_copyFrom_49 : decode cX0_copyFrom 49 = .ok (.aload_n 1, 1) := by decide +kernel
theorem dX0_copyFrom_50 : decode cX0_copyFrom 50 = .ok (.getfield 30, 3) := by decide +kernel
theorem dX0_copyFrom_53 : decode cX0_copyFrom 53 = .ok (.putfield 30, 3) := by decide +kernel
theorem dX0_copyFrom_56 : decode cX0_copyFrom 56 = .ok (.aload_n 0, 1) := by decide +kernel
theorem dX0_copyFrom_57 : decode cX0_copyFrom 57 = .ok (.aload_n 1, 1) := by decide +kernel
theorem dX0_copyFrom_58 : decode cX0_copyFrom 58 = .ok (.getfield 33, 3) := by decide +kernel
theorem dX0_copyFrom_61 : decode cX0_copyFrom 61 = .ok (.putfield 33, 3) := by decide +kernel
theorem dX0_copyFrom_64 : decode cX0_copyFrom 64 = .ok (.aload_n 0, 1) := by decide +kernel
theorem dX0_copyFrom_65 : decode cX0_copyFrom 65 = .ok (.aload_n 1, 1) := by decide +kernel
theorem dX0_copyFrom_66 : decode cX0_copyFrom 66 = .ok (.getfield 36, 3) := by decide +kernel
theorem dX0_copyFrom_69 : decode cX0_copyFrom 69 = .ok (.putfield 36, 3) := by decide +kernel
theorem dX0_copyFrom_72 : decode cX0_copyFrom 72 = .ok (.aload_n 0, 1) := by decide +kernel
theorem dX0_copyFrom_73 : decode cX0_copyFrom 73 = .ok (.aload_n 1, 1) := by decide +kernel
theorem dX0_copyFrom_74 : decode cX0_copyFrom 74 = .ok (.getfield 39, 3) := by decide +kernel
theorem dX0_copyFrom_77 : decode cX0_copyFrom 77 = .ok (.putfield 39, 3) := by decide +kernel
theorem dX0_copyFrom_80 : decode cX0_copyFrom 80 = .ok (.aload_n 0, 1) := by decide +kernel
theorem dX0_copyFrom_81 : decode cX0_copyFrom 81 = .ok (.aload_n 1, 1) := by decide +kernel
theorem dX0_copyFrom_82 : decode cX0_copyFrom 82 = .ok (.getfield 42, 3) := by decide +kernel
theorem dX0_copyFrom_85 : decode cX0_copyFrom 85 = .ok (.putfield 42, 3) := by decide +kernel
theorem dX0_copyFrom_88 : decode cX0_copyFrom 88 = .ok (.aload_n 0, 1) := by decide +kernel
theorem dX0_copyFrom_89 : decode cX0_copyFrom 89 = .ok (.aload_n 1, 1) := by decide +kernel
theorem dX0_copyFrom_90 : decode cX0_copyFrom 90 = .ok (.getfield 45, 3) := by decide +kernel
theorem dX0_copyFrom_93 : decode cX0_copyFrom 93 = .ok (.putfield 45, 3) := by decide +kernel
theorem dX0_copyFrom_96 : decode cX0_copyFrom 96 = .ok (.aload_n 1, 1) := by decide +kernel
theorem dX0_copyFrom_97 : decode cX0_copyFrom 97 = .ok (.getfield 53, 3) := by decide +kernel
theorem dX0_copyFrom_100 : decode cX0_copyFrom 100 = .ok (.astore_n 2, 1) := by decide +kernel
theorem dX0_copyFrom_101 : decode cX0_copyFrom 101 = .ok (.aload_n 0, 1) := by decide +kernel
theorem dX0_copyFrom_102 : decode cX0_copyFrom 102 = .ok (.getfield 53, 3) := by decide +kernel
theorem dX0_copyFrom_105 : decode cX0_copyFrom 105 = .ok (.astore_n 3, 1) := by decide +kernel
theorem dX0_copyFrom_106 : decode cX0_copyFrom 106 = .ok (.aload_n 3, 1) := by decide +kernel
theorem dX0_copyFrom_107 : decode cX0_copyFrom 107 = .ok (.ifnull 25, 3) := by decide +kernel
theorem dX0_copyFrom_110 : decode cX0_copyFrom 110 = .ok (.aload_n 2, 1) := by decide +kernel
theorem dX0_copyFrom_111 : decode cX0_copyFrom 111 = .ok (.ifnull 21, 3) := by decide +kernel
theorem dX0_copyFrom_114 : decode cX0_copyFrom 114 = .ok (.aload_n 3, 1) := by decide +kernel
theorem dX0_copyFrom_115 : decode cX0_copyFrom 115 = .ok (.aload_n 2, 1) := by decide +kernel
theorem dX0_copyFrom_116 : decode cX0_copyFrom 116 = .ok (.invokevirtual 57, 3) := by decide +kernel
theorem dX0_copyFrom_119 : decode cX0_copyFrom 119 = .ok (.aload_n 2, 1) := by decide +kernel
theorem dX0_copyFrom_120 : decode cX0_copyFrom 120 = .ok (.getfield 61, 3) := by decide +kernel
theorem dX0_copyFrom_123 : decode cX0_copyFrom 123 = .ok (.astore_n 2, 1) := by decide +kernel
theorem dX0_copyFrom_124 : decode cX0_copyFrom 124 = .ok (.aload_n 3, 1) := by decide +kernel
theorem dX0_copyFrom_125 : decode cX0_copyFrom 125 = .ok (.getfield 61, 3) := by decide +kernel
theorem dX0_copyFrom_128 : decode cX0_copyFrom 128 = .ok (.astore_n 3, 1) := by decide +kernel
theorem dX0_copyFrom_129 : decode cX0_copyFrom 129 = .ok (.goto (-23), 3) := by decide +kernel
theorem dX0_copyFrom_132 : decode cX0_copyFrom 132 = .ok (.return_, 1) := by decide +kernel
theorem dX0_millAt_0 : decode cX0_millAt 0 = .ok (.aload_n 0, 1) := by decide +kernel
theorem dX0_millAt_1 : decode cX0_millAt 1 = .ok (.getfield 53, 3) := by decide +kernel
theorem dX0_millAt_4 : decode cX0_millAt 4 = .ok (.astore_n 2, 1) := by decide +kernel
theorem dX0_millAt_5 : decode cX0_millAt 5 = .ok (.aload_n 2, 1) := by decide +kernel
theorem dX0_millAt_6 : decode cX0_millAt 6 = .ok (.ifnull 21, 3) := by decide +kernel
theorem dX0_millAt_9 : decode cX0_millAt 9 = .ok (.aload_n 2, 1) := by decide +kernel
theorem dX0_millAt_10 : decode cX0_millAt 10 = .ok (.getfield 64, 3) := by decide +kernel
theorem dX0_millAt_13 : decode cX0_millAt 13 = .ok (.iload_n 1, 1) := by decide +kernel
theorem dX0_millAt_14 : decode cX0_millAt 14 = .ok (.if_icmp .ne 5, 3) := by decide +kernel
theorem dX0_millAt_17 : decode cX0_millAt 17 = .ok (.aload_n 2, 1) := by decide +kernel
theorem dX0_millAt_18 : decode cX0_millAt 18 = .ok (.areturn, 1) := by decide +kernel
theorem dX0_millAt_19 : decode cX0_millAt 19 = .ok (.aload_n 2, 1) := by decide +kernel
theorem dX0_millAt_20 : decode cX0_millAt 20 = .ok (.getfield 61, 3) := by decide +kernel
theorem dX0_millAt_23 : decode cX0_millAt 23 = .ok (.astore_n 2, 1) := by decide +kernel
theorem dX0_millAt_24 : decode cX0_millAt 24 = .ok (.goto (-19), 3) := by decide +kernel
theorem dX0_millAt_27 : decode cX0_millAt 27 = .ok (.aconst_null, 1) := by decide +kernel
theorem dX0_millAt_28 : decode cX0_millAt 28 = .ok (.areturn, 1) := by decide +kernel
theorem dX0_millOfSack_0 : decode cX0_millOfSack 0 = .ok (.aload_n 0, 1) := by decide +kernel
theorem dX0_millOfSack_1 : decode cX0_millOfSack 1 = .ok (.getfield 53, 3) := by decide +kernel
theorem dX0_millOfSack_4 : decode cX0_millOfSack 4 = .ok (.astore_n 2, 1) := by decide +kernel
theorem dX0_millOfSack_5 : decode cX0_millOfSack 5 = .ok (.aload_n 2, 1) := by decide +kernel
theorem dX0_millOfSack_6 : decode cX0_millOfSack 6 = .ok (.ifnull 22, 3) := by decide +kernel
theorem dX0_millOfSack_9 : decode cX0_millOfSack 9 = .ok (.aload_n 2, 1) := by decide +kernel
theorem dX0_millOfSack_10 : decode cX0_millOfSack 10 = .ok (.iload_n 1, 1) := by decide +kernel
theorem dX0_millOfSack_11 : decode cX0_millOfSack 11 = .ok (.invokevirtual 67, 3) := by decide +kernel
theorem dX0_millOfSack_14 : decode cX0_millOfSack 14 = .ok (.iconst (-1), 1) := by decide +kernel
theorem dX0_millOfSack_15 : decode cX0_millOfSack 15 = .ok (.if_icmp .eq 5, 3) := by decide +kernel
theorem dX0_millOfSack_18 : decode cX0_millOfSack 18 = .ok (.aload_n 2, 1) := by decide +kernel
theorem dX0_millOfSack_19 : decode cX0_millOfSack 19 = .ok (.areturn, 1) := by decide +kernel
theorem dX0_millOfSack_20 : decode cX0_millOfSack 20 = .ok (.aload_n 2, 1) := by decide +kernel
theorem dX0_millOfSack_21 : decode cX0_millOfSack 21 = .ok (.getfield 61, 3) := by decide +kernel
theorem dX0_millOfSack_24 : decode cX0_millOfSack 24 = .ok (.astore_n 2, 1) := by decide +kernel
theorem dX0_millOfSack_25 : decode cX0_millOfSack 25 = .ok (.goto (-20), 3) := by decide +kernel
theorem dX0_millOfSack_28 : decode cX0_millOfSack 28 = .ok (.aconst_null, 1) := by decide +kernel
theorem dX0_millOfSack_29 : decode cX0_millOfSack 29 = .ok (.areturn, 1) := by decide +kernel
theorem dX0_settingAt_0 : decode cX0_settingAt 0 = .ok (.iload_n 1, 1) := by decide +kernel
theorem dX0_settingAt_1 : decode cX0_settingAt 1 = .ok (.lookupswitch 37 #[(0, 27), (1, 32)], 27) := by decide +kernel
theorem dX0_settingAt_28 : decode cX0_settingAt 28 = .ok (.aload_n 0, 1) := by decide +kernel
theorem dX0_settingAt_29 : decode cX0_settingAt 29 = .ok (.getfield 9, 3) := by decide +kernel
theorem dX0_settingAt_32 : decode cX0_settingAt 32 = .ok (.ireturn, 1) := by decide +kernel
theorem dX0_settingAt_33 : decode cX0_settingAt 33 = .ok (.aload_n 0, 1) := by decide +kernel
theorem dX0_settingAt_34 : decode cX0_settingAt 34 = .ok (.getfield 15, 3) := by decide +kernel
theorem dX0_settingAt_37 : decode cX0_settingAt 37 = .ok (.ireturn, 1) := by decide +kernel
theorem dX0_settingAt_38 : decode cX0_settingAt 38 = .ok (.aload_n 0, 1) := by decide +kernel
theorem dX0_settingAt_39 : decode cX0_settingAt 39 = .ok (.getfield 18, 3) := by decide +kernel
theorem dX0_settingAt_42 : decode cX0_settingAt 42 = .ok (.ireturn, 1) := by decide +kernel
theorem dX0_changeSetting_0 : decode cX0_changeSetting 0 = .ok (.iload_n 1, 1) := by decide +kernel
theorem dX0_changeSetting_1 : decode cX0_changeSetting 1 = .ok (.lookupswitch 43 #[(0, 27), (1, 35)], 27) := by decide +kernel
theorem dX0_changeSetting_28 : decode cX0_changeSetting 28 = .ok (.aload_n 0, 1) := by decide +kernel
theorem dX0_changeSetting_29 : decode cX0_changeSetting 29 = .ok (.iload_n 2, 1) := by decide +kernel
theorem dX0_changeSetting_30 : decode cX0_changeSetting 30 = .ok (.putfield 9, 3) := by decide +kernel
theorem dX0_changeSetting_33 : decode cX0_changeSetting 33 = .ok (.goto 16, 3) := by decide +kernel
theorem dX0_changeSetting_36 : decode cX0_changeSetting 36 = .ok (.aload_n 0, 1) := by decide +kernel
theorem dX0_changeSetting_37 : decode cX0_changeSetting 37 = .ok (.iload_n 2, 1) := by decide +kernel
theorem dX0_changeSetting_38 : decode cX0_changeSetting 38 = .ok (.putfield 15, 3) := by decide +kernel
theorem dX0_changeSetting_41 : decode cX0_changeSetting 41 = .ok (.goto 8, 3) := by decide +kernel
theorem dX0_changeSetting_44 : decode cX0_changeSetting 44 = .ok (.aload_n 0, 1) := by decide +kernel
theorem dX0_changeSetting_45 : decode cX0_changeSetting 45 = .ok (.iload_n 2, 1) := by decide +kernel
theorem dX0_changeSetting_46 : decode cX0_changeSetting 46 = .ok (.putfield 18, 3) := by decide +kernel
theorem dX0_changeSetting_49 : decode cX0_changeSetting 49 = .ok (.return_, 1) := by decide +kernel
theorem dX0_changeStone_0 : decode cX0_changeStone 0 = .ok (.aload_n 0, 1) := by decide +kernel
theorem dX0_changeStone_1 : decode cX0_changeStone 1 = .ok (.iload_n 1, 1) := by decide +kernel
theorem dX0_changeStone_2 : decode cX0_changeStone 2 = .ok (.invokevirtual 71, 3) := by decide +kernel
theorem dX0_changeStone_5 : decode cX0_changeStone 5 = .ok (.astore_n 3, 1) := by decide +kernel
theorem dX0_changeStone_6 : decode cX0_changeStone 6 = .ok (.aload_n 3, 1) := by decide +kernel
theorem dX0_changeStone_7 : decode cX0_changeStone 7 = .ok (.ifnull 8, 3) := by decide +kernel
theorem dX0_changeStone_10 : decode cX0_changeStone 10 = .ok (.aload_n 3, 1) := by decide +kernel
theorem dX0_changeStone_11 : decode cX0_changeStone 11 = .ok (.iload_n 2, 1) := by decide +kernel
theorem dX0_changeStone_12 : decode cX0_changeStone 12 = .ok (.putfield 75, 3) := by decide +kernel
theorem dX0_changeStone_15 : decode cX0_changeStone 15 = .ok (.return_, 1) := by decide +kernel
theorem dX0_tideIn_0 : decode cX0_tideIn 0 = .ok (.iload_n 1, 1) := by decide +kernel
theorem dX0_tideIn_1 : decode cX0_tideIn 1 = .ok (.bipush 12, 2) := by decide +kernel
theorem dX0_tideIn_3 : decode cX0_tideIn 3 = .ok (.irem, 1) := by decide +kernel
theorem dX0_tideIn_4 : decode cX0_tideIn 4 = .ok (.istore_n 2, 1) := by decide +kernel
theorem dX0_tideIn_5 : decode cX0_tideIn 5 = .ok (.aload_n 0, 1) := by decide +kernel
theorem dX0_tideIn_6 : decode cX0_tideIn 6 = .ok (.getfield 9, 3) := by decide +kernel
theorem dX0_tideIn_9 : decode cX0_tideIn 9 = .ok (.iload_n 2, 1) := by decide +kernel
theorem dX0_tideIn_10 : decode cX0_tideIn 10 = .ok (.bipush 6, 2) := by decide +kernel
theorem dX0_tideIn_12 : decode cX0_tideIn 12 = .ok (.if_icmp .ge 10, 3) := by decide +kernel
theorem dX0_tideIn_15 : decode cX0_tideIn 15 = .ok (.bipush 6, 2) := by decide +kernel
theorem dX0_tideIn_17 : decode cX0_tideIn 17 = .ok (.iload_n 2, 1) := by decide +kernel
theorem dX0_tideIn_18 : decode cX0_tideIn 18 = .ok (.isub, 1) := by decide +kernel
theorem dX0_tideIn_19 : decode cX0_tideIn 19 = .ok (.goto 7, 3) := by decide +kernel
theorem dX0_tideIn_22 : decode cX0_tideIn 22 = .ok (.iload_n 2, 1) := by decide +kernel
theorem dX0_tideIn_23 : decode cX0_tideIn 23 = .ok (.bipush 6, 2) := by decide +kernel
theorem dX0_tideIn_25 : decode cX0_tideIn 25 = .ok (.isub, 1) := by decide +kernel
theorem dX0_tideIn_26 : decode cX0_tideIn 26 = .ok (.imul, 1) := by decide +kernel
theorem dX0_tideIn_27 : decode cX0_tideIn 27 = .ok (.ireturn, 1) := by decide +kernel
theorem dX0_waterInPonds_0 : decode cX0_waterInPonds 0 = .ok (.iconst 0, 1) := by decide +kernel
theorem dX0_waterInPonds_1 : decode cX0_waterInPonds 1 = .ok (.istore_n 1, 1) := by decide +kernel
theorem dX0_waterInPonds_2 : decode cX0_waterInPonds 2 = .ok (.aload_n 0, 1) := by decide +kernel
theorem dX0_waterInPonds_3 : decode cX0_waterInPonds 3 = .ok (.getfield 53, 3) := by decide +kernel
theorem dX0_waterInPonds_6 : decode cX0_waterInPonds 6 = .ok (.astore_n 2, 1) := by decide +kernel
theorem dX0_waterInPonds_7 : decode cX0_waterInPonds 7 = .ok (.aload_n 2, 1) := by decide +kernel
theorem dX0_waterInPonds_8 : decode cX0_waterInPonds 8 = .ok (.ifnull 18, 3) := by decide +kernel
theorem dX0_waterInPonds_11 : decode cX0_waterInPonds 11 = .ok (.iload_n 1, 1) := by decide +kernel
theorem dX0_waterInPonds_12 : decode cX0_waterInPonds 12 = .ok (.aload_n 2, 1) := by decide +kernel
theorem dX0_waterInPonds_13 : decode cX0_waterInPonds 13 = .ok (.getfield 78, 3) := by decide +kernel
theorem dX0_waterInPonds_16 : decode cX0_waterInPonds 16 = .ok (.iadd, 1) := by decide +kernel
theorem dX0_waterInPonds_17 : decode cX0_waterInPonds 17 = .ok (.istore_n 1, 1) := by decide +kernel
theorem dX0_waterInPonds_18 : decode cX0_waterInPonds 18 = .ok (.aload_n 2, 1) := by decide +kernel
theorem dX0_waterInPonds_19 : decode cX0_waterInPonds 19 = .ok (.getfield 61, 3) := by decide +kernel
theorem dX0_waterInPonds_22 : decode cX0_waterInPonds 22 = .ok (.astore_n 2, 1) := by decide +kernel
theorem dX0_waterInPonds_23 : decode cX0_waterInPonds 23 = .ok (.goto (-16), 3) := by decide +kernel
theorem dX0_waterInPonds_26 : decode cX0_waterInPonds 26 = .ok (.iload_n 1, 1) := by decide +kernel
theorem dX0_waterInPonds_27 : decode cX0_waterInPonds 27 = .ok (.ireturn, 1) := by decide +kernel
theorem dX0_sacksAtMills_0 : decode cX0_sacksAtMills 0 = .ok (.iconst 0, 1) := by decide +kernel
theorem dX0_sacksAtMills_1 : decode cX0_sacksAtMills 1 = .ok (.istore_n 1, 1) := by decide +kernel
theorem dX0_sacksAtMills_2 : decode cX0_sacksAtMills 2 = .ok (.aload_n 0, 1) := by decide +kernel
theorem dX0_sacksAtMills_3 : decode cX0_sacksAtMills 3 = .ok (.getfield 53, 3) := by decide +kernel
theorem dX0_sacksAtMills_6 : decode cX0_sacksAtMills 6 = .ok (.astore_n 2, 1) := by decide +kernel
theorem dX0_sacksAtMills_7 : decode cX0_sacksAtMills 7 = .ok (.aload_n 2, 1) := by decide +kernel
theorem dX0_sacksAtMills_8 : decode cX0_sacksAtMills 8 = .ok (.ifnull 18, 3) := by decide +kernel
theorem dX0_sacksAtMills_11 : decode cX0_sacksAtMills 11 = .ok (.iload_n 1, 1) := by decide +kernel
theorem dX0_sacksAtMills_12 : decode cX0_sacksAtMills 12 = .ok (.aload_n 2, 1) := by decide +kernel
theorem dX0_sacksAtMills_13 : decode cX0_sacksAtMills 13 = .ok (.getfield 81, 3) := by decide +kernel
theorem dX0_sacksAtMills_16 : decode cX0_sacksAtMills 16 = .ok (.iadd, 1) := by decide +kernel
theorem dX0_sacksAtMills_17 : decode cX0_sacksAtMills 17 = .ok (.istore_n 1, 1) := by decide +kernel
theorem dX0_sacksAtMills_18 : decode cX0_sacksAtMills 18 = .ok (.aload_n 2, 1) := by decide +kernel
theorem dX0_sacksAtMills_19 : decode cX0_sacksAtMills 19 = .ok (.getfield 61, 3) := by decide +kernel
theorem dX0_sacksAtMills_22 : decode cX0_sacksAtMills 22 = .ok (.astore_n 2, 1) := by decide +kernel
theorem dX0_sacksAtMills_23 : decode cX0_sacksAtMills 23 = .ok (.goto (-16), 3) := by decide +kernel
theorem dX0_sacksAtMills_26 : decode cX0_sacksAtMills 26 = .ok (.iload_n 1, 1) := by decide +kernel
theorem dX0_sacksAtMills_27 : decode cX0_sacksAtMills 27 = .ok (.ireturn, 1) := by decide +kernel
theorem dX0_restsOfAll_0 : decode cX0_restsOfAll 0 = .ok (.iconst 0, 1) := by decide +kernel
theorem dX0_restsOfAll_1 : decode cX0_restsOfAll 1 = .ok (.istore_n 1, 1) := by decide +kernel
theorem dX0_restsOfAll_2 : decode cX0_restsOfAll 2 = .ok (.aload_n 0, 1) := by decide +kernel
theorem dX0_restsOfAll_3 : decode cX0_restsOfAll 3 = .ok (.getfield 53, 3) := by decide +kernel
theorem dX0_restsOfAll_6 : decode cX0_restsOfAll 6 = .ok (.astore_n 2, 1) := by decide +kernel
theorem dX0_restsOfAll_7 : decode cX0_restsOfAll 7 = .ok (.aload_n 2, 1) := by decide +kernel
theorem dX0_restsOfAll_8 : decode cX0_restsOfAll 8 = .ok (.ifnull 35, 3) := by decide +kernel
theorem dX0_restsOfAll_11 : decode cX0_restsOfAll 11 = .ok (.iconst 0, 1) := by decide +kernel
theorem dX0_restsOfAll_12 : decode cX0_restsOfAll 12 = .ok (.istore_n 3, 1) := by decide +kernel
theorem dX0_restsOfAll_13 : decode cX0_restsOfAll 13 = .ok (.iload_n 3, 1) := by decide +kernel
theorem dX0_restsOfAll_14 : decode cX0_restsOfAll 14 = .ok (.aload_n 2, 1) := by decide +kernel
theorem dX0_restsOfAll_15 : decode cX0_restsOfAll 15 = .ok (.getfield 81, 3) := by decide +kernel
theorem dX0_restsOfAll_18 : decode cX0_restsOfAll 18 = .ok (.if_icmp .ge 17, 3) := by decide +kernel
theorem dX0_restsOfAll_21 : decode cX0_restsOfAll 21 = .ok (.iload_n 1, 1) := by decide +kernel
theorem dX0_restsOfAll_22 : decode cX0_restsOfAll 22 = .ok (.aload_n 2, 1) := by decide +kernel
theorem dX0_restsOfAll_23 : decode cX0_restsOfAll 23 = .ok (.iload_n 3, 1) := by decide +kernel
theorem dX0_restsOfAll_24 : decode cX0_restsOfAll 24 = .ok (.invokevirtual 84, 3) := by decide +kernel
theorem dX0_restsOfAll_27 : decode cX0_restsOfAll 27 = .ok (.iadd, 1) := by decide +kernel
theorem dX0_restsOfAll_28 : decode cX0_restsOfAll 28 = .ok (.istore_n 1, 1) := by decide +kernel
theorem dX0_restsOfAll_29 : decode cX0_restsOfAll 29 = .ok (.iinc 3 1, 3) := by decide +kernel
theorem dX0_restsOfAll_32 : decode cX0_restsOfAll 32 = .ok (.goto (-19), 3) := by decide +kernel
theorem dX0_restsOfAll_35 : decode cX0_restsOfAll 35 = .ok (.aload_n 2, 1) := by decide +kernel
theorem dX0_restsOfAll_36 : decode cX0_restsOfAll 36 = .ok (.getfield 61, 3) := by decide +kernel
theorem dX0_restsOfAll_39 : decode cX0_restsOfAll 39 = .ok (.astore_n 2, 1) := by decide +kernel
theorem dX0_restsOfAll_40 : decode cX0_restsOfAll 40 = .ok (.goto (-33), 3) := by decide +kernel
theorem dX0_restsOfAll_43 : decode cX0_restsOfAll 43 = .ok (.iload_n 1, 1) := by decide +kernel
theorem dX0_restsOfAll_44 : decode cX0_restsOfAll 44 = .ok (.ireturn, 1) := by decide +kernel
theorem dX0_hasRoomForSack_0 : decode cX0_hasRoomForSack 0 = .ok (.aload_n 1, 1) := by decide +kernel
theorem dX0_hasRoomForSack_1 : decode cX0_hasRoomForSack 1 = .ok (.getfield 81, 3) := by decide +kernel
theorem dX0_hasRoomForSack_4 : decode cX0_hasRoomForSack 4 = .ok (.bipush 6, 2) := by decide +kernel
theorem dX0_hasRoomForSack_6 : decode cX0_hasRoomForSack 6 = .ok (.if_icmp .ge 17, 3) := by decide +kernel
theorem dX0_hasRoomForSack_9 : decode cX0_hasRoomForSack 9 = .ok (.aload_n 0, 1) := by decide +kernel
theorem dX0_hasRoomForSack_10 : decode cX0_hasRoomForSack 10 = .ok (.getfield 36, 3) := by decide +kernel
theorem dX0_hasRoomForSack_13 : decode cX0_hasRoomForSack 13 = .ok (.sipush 999, 3) := by decide +kernel
theorem dX0_hasRoomForSack_16 : decode cX0_hasRoomForSack 16 = .ok (.if_icmp .ge 7, 3) := by decide +kernel
theorem dX0_hasRoomForSack_19 : decode cX0_hasRoomForSack 19 = .ok (.iconst 1, 1) := by decide +kernel
theorem dX0_hasRoomForSack_20 : decode cX0_hasRoomForSack 20 = .ok (.goto 4, 3) := by decide +kernel
theorem dX0_hasRoomForSack_23 : decode cX0_hasRoomForSack 23 = .ok (.iconst 0, 1) := by decide +kernel
theorem dX0_hasRoomForSack_24 : decode cX0_hasRoomForSack 24 = .ok (.ireturn, 1) := by decide +kernel
theorem dX0_bringSack_0 : decode cX0_bringSack 0 = .ok (.aload_n 0, 1) := by decide +kernel
theorem dX0_bringSack_1 : decode cX0_bringSack 1 = .ok (.aload_n 1, 1) := by decide +kernel
theorem dX0_bringSack_2 : decode cX0_bringSack 2 = .ok (.invokevirtual 87, 3) := by decide +kernel
theorem dX0_bringSack_5 : decode cX0_bringSack 5 = .ok (.ifCond .ne 5, 3) := by decide +kernel
theorem dX0_bringSack_8 : decode cX0_bringSack 8 = .ok (.iconst (-1), 1) := by decide +kernel
theorem dX0_bringSack_9 : decode cX0_bringSack 9 = .ok (.ireturn, 1) := by decide +kernel
theorem dX0_bringSack_10 : decode cX0_bringSack 10 = .ok (.aload_n 0, 1) := by decide +kernel
theorem dX0_bringSack_11 : decode cX0_bringSack 11 = .ok (.getfield 36, 3) := by decide +kernel
theorem dX0_bringSack_14 : decode cX0_bringSack 14 = .ok (.istore 4, 2) := by decide +kernel
theorem dX0_bringSack_16 : decode cX0_bringSack 16 = .ok (.aload_n 1, 1) := by decide +kernel
theorem dX0_bringSack_17 : decode cX0_bringSack 17 = .ok (.iload 4, 2) := by decide +kernel
theorem dX0_bringSack_19 : decode cX0_bringSack 19 = .ok (.iload_n 2, 1) := by decide +kernel
theorem dX0_bringSack_20 : decode cX0_bringSack 20 = .ok (.iload_n 2, 1) := by decide +kernel
theorem dX0_bringSack_21 : decode cX0_bringSack 21 = .ok (.iload_n 3, 1) := by decide +kernel
theorem dX0_bringSack_22 : decode cX0_bringSack 22 = .ok (.invokevirtual 91, 3) := by decide +kernel
theorem dX0_bringSack_25 : decode cX0_bringSack 25 = .ok (.pop, 1) := by decide +kernel
theorem dX0_bringSack_26 : decode cX0_bringSack 26 = .ok (.aload_n 0, 1) := by decide +kernel
theorem dX0_bringSack_27 : decode cX0_bringSack 27 = .ok (.dup, 1) := by decide +kernel
theorem dX0_bringSack_28 : decode cX0_bringSack 28 = .ok (.getfield 36, 3) := by decide +kernel
theorem dX0_bringSack_31 : decode cX0_bringSack 31 = .ok (.iconst 1, 1) := by decide +kernel
theorem dX0_bringSack_32 : decode cX0_bringSack 32 = .ok (.iadd, 1) := by decide +kernel
theorem dX0_bringSack_33 : decode cX0_bringSack 33 = .ok (.putfield 36, 3) := by decide +kernel
theorem dX0_bringSack_36 : decode cX0_bringSack 36 = .ok (.iload 4, 2) := by decide +kernel
theorem dX0_bringSack_38 : decode cX0_bringSack 38 = .ok (.ireturn, 1) := by decide +kernel
theorem dX0_reasonToRest_0 : decode cX0_reasonToRest 0 = .ok (.aload_n 1, 1) := by decide +kernel
theorem dX0_reasonToRest_1 : decode cX0_reasonToRest 1 = .ok (.getfield 81, 3) := by decide +kernel
theorem dX0_reasonToRest_4 : decode cX0_reasonToRest 4 = .ok (.ifCond .ne 5, 3) := by decide +kernel
theorem dX0_reasonToRest_7 : decode cX0_reasonToRest 7 = .ok (.iconst 1, 1) := by decide +kernel
theorem dX0_reasonToRest_8 : decode cX0_reasonToRest 8 = .ok (.ireturn, 1) := by decide +kernel
theorem dX0_reasonToRest_9 : decode cX0_reasonToRest 9 = .ok (.aload_n 1, 1) := by decide +kernel
theorem dX0_reasonToRest_10 : decode cX0_reasonToRest 10 = .ok (.aload_n 0, 1) := by decide +kernel
theorem dX0_reasonToRest_11 : decode cX0_reasonToRest 11 = .ok (.aload_n 0, 1) := by decide +kernel
theorem dX0_reasonToRest_12 : decode cX0_reasonToRest 12 = .ok (.getfield 21, 3) := by decide +kernel
theorem dX0_reasonToRest_15 : decode cX0_reasonToRest 15 = .ok (.invokevirtual 95, 3) := by decide +kernel
theorem dX0_reasonToRest_18 : decode cX0_reasonToRest 18 = .ok (.invokevirtual 98, 3) := by decide +kernel
theorem dX0_reasonToRest_21 : decode cX0_reasonToRest 21 = .ok (.aload_n 0, 1) := by decide +kernel
theorem dX0_reasonToRest_22 : decode cX0_reasonToRest 22 = .ok (.getfield 15, 3) := by decide +kernel
theorem dX0_reasonToRest_25 : decode cX0_reasonToRest 25 = .ok (.if_icmp .ge 5, 3) := by decide +kernel
theorem dX0_reasonToRest_28 : decode cX0_reasonToRest 28 = .ok (.iconst 2, 1) := by decide +kernel
theorem dX0_reasonToRest_29 : decode cX0_reasonToRest 29 = .ok (.ireturn, 1) := by decide +kernel
theorem dX0_reasonToRest_30 : decode cX0_reasonToRest 30 = .ok (.aload_n 1, 1) := by decide +kernel
theorem dX0_reasonToRest_31 : decode cX0_reasonToRest 31 = .ok (.getfield 78, 3) := by decide +kernel
theorem dX0_reasonToRest_34 : decode cX0_reasonToRest 34 = .ok (.aload_n 0, 1) := by decide +kernel
theorem dX0_reasonToRest_35 : decode cX0_reasonToRest 35 = .ok (.getfield 18, 3) := by decide +kernel
theorem dX0_reasonToRest_38 : decode cX0_reasonToRest 38 = .ok (.if_icmp .ge 7, 3) := by decide +kernel
theorem dX0_reasonToRest_41 : decode cX0_reasonToRest 41 = .ok (.iconst 3, 1) := by decide +kernel
theorem dX0_reasonToRest_42 : decode cX0_reasonToRest 42 = .ok (.goto 4, 3) := by decide +kernel
theorem dX0_reasonToRest_45 : decode cX0_reasonToRest 45 = .ok (.iconst 0, 1) := by decide +kernel
theorem dX0_reasonToRest_46 : decode cX0_reasonToRest 46 = .ok (.ireturn, 1) := by decide +kernel
theorem dX0_turnsAheadOf_0 : decode cX0_turnsAheadOf 0 = .ok (.aload_n 1, 1) := by decide +kernel
theorem dX0_turnsAheadOf_1 : decode cX0_turnsAheadOf 1 = .ok (.invokevirtual 101, 3) := by decide +kernel
theorem dX0_turnsAheadOf_4 : decode cX0_turnsAheadOf 4 = .ok (.istore_n 3, 1) := by decide +kernel
theorem dX0_turnsAheadOf_5 : decode cX0_turnsAheadOf 5 = .ok (.aload_n 2, 1) := by decide +kernel
theorem dX0_turnsAheadOf_6 : decode cX0_turnsAheadOf 6 = .ok (.invokevirtual 101, 3) := by decide +kernel
theorem dX0_turnsAheadOf_9 : decode cX0_turnsAheadOf 9 = .ok (.istore 4, 2) := by decide +kernel
theorem dX0_turnsAheadOf_11 : decode cX0_turnsAheadOf 11 = .ok (.iload_n 3, 1) := by decide +kernel
theorem dX0_turnsAheadOf_12 : decode cX0_turnsAheadOf 12 = .ok (.iload 4, 2) := by decide +kernel
theorem dX0_turnsAheadOf_14 : decode cX0_turnsAheadOf 14 = .ok (.if_icmp .eq 15, 3) := by decide +kernel
theorem dX0_turnsAheadOf_17 : decode cX0_turnsAheadOf 17 = .ok (.iload_n 3, 1) := by decide +kernel
theorem dX0_turnsAheadOf_18 : decode cX0_turnsAheadOf 18 = .ok (.iload 4, 2) := by decide +kernel
theorem dX0_turnsAheadOf_20 : decode cX0_turnsAheadOf 20 = .ok (.if_icmp .ge 7, 3) := by decide +kernel
theorem dX0_turnsAheadOf_23 : decode cX0_turnsAheadOf 23 = .ok (.iconst 1, 1) := by decide +kernel
theorem dX0_turnsAheadOf_24 : decode cX0_turnsAheadOf 24 = .ok (.goto 4, 3) := by decide +kernel
theorem dX0_turnsAheadOf_27 : decode cX0_turnsAheadOf 27 = .ok (.iconst 0, 1) := by decide +kernel
theorem dX0_turnsAheadOf_28 : decode cX0_turnsAheadOf 28 = .ok (.ireturn, 1) := by decide +kernel
theorem dX0_turnsAheadOf_29 : decode cX0_turnsAheadOf 29 = .ok (.aload_n 0, 1) := by decide +kernel
theorem dX0_turnsAheadOf_30 : decode cX0_turnsAheadOf 30 = .ok (.aload_n 0, 1) := by decide +kernel
theorem dX0_turnsAheadOf_31 : decode cX0_turnsAheadOf 31 = .ok (.getfield 21, 3) := by decide +kernel
theorem dX0_turnsAheadOf_34 : decode cX0_turnsAheadOf 34 = .ok (.invokevirtual 95, 3) := by decide +kernel
theorem dX0_turnsAheadOf_37 : decode cX0_turnsAheadOf 37 = .ok (.istore 5, 2) := by decide +kernel
theorem dX0_turnsAheadOf_39 : decode cX0_turnsAheadOf 39 = .ok (.aload_n 1, 1) := by decide +kernel
theorem dX0_turnsAheadOf_40 : decode cX0_turnsAheadOf 40 = .ok (.iload 5, 2) := by decide +kernel
theorem dX0_turnsAheadOf_42 : decode cX0_turnsAheadOf 42 = .ok (.invokevirtual 98, 3) := by decide +kernel
theorem dX0_turnsAheadOf_45 : decode cX0_turnsAheadOf 45 = .ok (.istore 6, 2) := by decide +kernel
theorem dX0_turnsAheadOf_47 : decode cX0_turnsAheadOf 47 = .ok (.aload_n 2, 1) := by decide +kernel
theorem dX0_turnsAheadOf_48 : decode cX0_turnsAheadOf 48 = .ok (.iload 5, 2) := by decide +kernel
theorem dX0_turnsAheadOf_50 : decode cX0_turnsAheadOf 50 = .ok (.invokevirtual 98, 3) := by decide +kernel
theorem dX0_turnsAheadOf_53 : decode cX0_turnsAheadOf 53 = .ok (.istore 7, 2) := by decide +kernel
theorem dX0_turnsAheadOf_55 : decode cX0_turnsAheadOf 55 = .ok (.iload 6, 2) := by decide +kernel
theorem dX0_turnsAheadOf_57 : decode cX0_turnsAheadOf 57 = .ok (.iload 7, 2) := by decide +kernel
theorem dX0_turnsAheadOf_59 : decode cX0_turnsAheadOf 59 = .ok (.if_icmp .ne 22, 3) := by decide +kernel
theorem dX0_turnsAheadOf_62 : decode cX0_turnsAheadOf 62 = .ok (.aload_n 1, 1) := by decide +kernel
theorem dX0_turnsAheadOf_63 : decode cX0_turnsAheadOf 63 = .ok (.getfield 64, 3) := by decide +kernel
theorem dX0_turnsAheadOf_66 : decode cX0_turnsAheadOf 66 = .ok (.aload_n 2, 1) := by decide +kernel
theorem dX0_turnsAheadOf_67 : decode cX0_turnsAheadOf 67 = .ok (.getfield 64, 3) := by decide +kernel
theorem dX0_turnsAheadOf_70 : decode cX0_turnsAheadOf 70 = .ok (.if_icmp .ge 7, 3) := by decide +kernel
theorem dX0_turnsAheadOf_73 : decode cX0_turnsAheadOf 73 = .ok (.iconst 1, 1) := by decide +kernel
theorem dX0_turnsAheadOf_74 : decode cX0_turnsAheadOf 74 = .ok (.goto 19, 3) := by decide +kernel
theorem dX0_turnsAheadOf_77 : decode cX0_turnsAheadOf 77 = .ok (.iconst 0, 1) := by decide +kernel
theorem dX0_turnsAheadOf_78 : decode cX0_turnsAheadOf 78 = .ok (.goto 15, 3) := by decide +kernel
theorem dX0_turnsAheadOf_81 : decode cX0_turnsAheadOf 81 = .ok (.iload 6, 2) := by decide +kernel
theorem dX0_turnsAheadOf_83 : decode cX0_turnsAheadOf 83 = .ok (.iload 7, 2) := by decide +kernel
theorem dX0_turnsAheadOf_85 : decode cX0_turnsAheadOf 85 = .ok (.if_icmp .le 7, 3) := by decide +kernel
theorem dX0_turnsAheadOf_88 : decode cX0_turnsAheadOf 88 = .ok (.iconst 1, 1) := by decide +kernel
theorem dX0_turnsAheadOf_89 : decode cX0_turnsAheadOf 89 = .ok (.goto 4, 3) := by decide +kernel
theorem dX0_turnsAheadOf_92 : decode cX0_turnsAheadOf 92 = .ok (.iconst 0, 1) := by decide +kernel
theorem dX0_turnsAheadOf_93 : decode cX0_turnsAheadOf 93 = .ok (.ireturn, 1) := by decide +kernel
theorem dX0_millBehind_0 : decode cX0_millBehind 0 = .ok (.aconst_null, 1) := by decide +kernel
theorem dX0_millBehind_1 : decode cX0_millBehind 1 = .ok (.astore_n 2, 1) := by decide +kernel
theorem dX0_millBehind_2 : decode cX0_millBehind 2 = .ok (.aload_n 0, 1) := by decide +kernel
theorem dX0_millBehind_3 : decode cX0_millBehind 3 = .ok (.getfield 53, 3) := by decide +kernel
theorem dX0_millBehind_6 : decode cX0_millBehind 6 = .ok (.astore_n 3, 1) := by decide +kernel
theorem dX0_millBehind_7 : decode cX0_millBehind 7 = .ok (.aload_n 3, 1) := by decide +kernel
theorem dX0_millBehind_8 : decode cX0_millBehind 8 = .ok (.ifnull 59, 3) := by decide +kernel
theorem dX0_millBehind_11 : decode cX0_millBehind 11 = .ok (.aload_n 0, 1) := by decide +kernel
theorem dX0_millBehind_12 : decode cX0_millBehind 12 = .ok (.aload_n 3, 1) := by decide +kernel
theorem dX0_millBehind_13 : decode cX0_millBehind 13 = .ok (.invokevirtual 105, 3) := by decide +kernel
theorem dX0_millBehind_16 : decode cX0_millBehind 16 = .ok (.ifCond .ne 20, 3) := by decide +kernel
theorem dX0_millBehind_19 : decode cX0_millBehind 19 = .ok (.aload_n 1, 1) := by decide +kernel
theorem dX0_millBehind_20 : decode cX0_millBehind 20 = .ok (.ifnull 12, 3) := by decide +kernel
theorem dX0_millBehind_23 : decode cX0_millBehind 23 = .ok (.aload_n 0, 1) := by decide +kernel
theorem dX0_millBehind_24 : decode cX0_millBehind 24 = .ok (.aload_n 1, 1) := by decide +kernel
theorem dX0_millBehind_25 : decode cX0_millBehind 25 = .ok (.aload_n 3, 1) := by decide +kernel
theorem dX0_millBehind_26 : decode cX0_millBehind 26 = .ok (.invokevirtual 109, 3) := by decide +kernel
theorem dX0_millBehind_29 : decode cX0_millBehind 29 = .ok (.ifCond .eq 7, 3) := by decide +kernel
theorem dX0_millBehind_32 : decode cX0_millBehind 32 = .ok (.iconst 1, 1) := by decide +kernel
theorem dX0_millBehind_33 : decode cX0_millBehind 33 = .ok (.goto 4, 3) := by decide +kernel
theorem dX0_millBehind_36 : decode cX0_millBehind 36 = .ok (.iconst 0, 1) := by decide +kernel
theorem dX0_millBehind_37 : decode cX0_millBehind 37 = .ok (.istore 4, 2) := by decide +kernel
theorem dX0_millBehind_39 : decode cX0_millBehind 39 = .ok (.iload 4, 2) := by decide +kernel
theorem dX0_millBehind_41 : decode cX0_millBehind 41 = .ok (.ifCond .eq 18, 3) := by decide +kernel
theorem dX0_millBehind_44 : decode cX0_millBehind 44 = .ok (.aload_n 2, 1) := by decide +kernel
theorem dX0_millBehind_45 : decode cX0_millBehind 45 = .ok (.ifnull 12, 3) := by decide +kernel
theorem dX0_millBehind_48 : decode cX0_millBehind 48 = .ok (.aload_n 0, 1) := by decide +kernel
theorem dX0_millBehind_49 : decode cX0_millBehind 49 = .ok (.aload_n 3, 1) := by decide +kernel
theorem dX0_millBehind_50 : decode cX0_millBehind 50 = .ok (.aload_n 2, 1) := by decide +kernel
theorem dX0_millBehind_51 : decode cX0_millBehind 51 = .ok (.invokevirtual 109, 3) := by decide +kernel
theorem dX0_millBehind_54 : decode cX0_millBehind 54 = .ok (.ifCond .eq 5, 3) := by decide +kernel
theorem dX0_millBehind_57 : decode cX0_millBehind 57 = .ok (.aload_n 3, 1) := by decide +kernel
theorem dX0_millBehind_58 : decode cX0_millBehind 58 = .ok (.astore_n 2, 1) := by decide +kernel
theorem dX0_millBehind_59 : decode cX0_millBehind 59 = .ok (.aload_n 3, 1) := by decide +kernel
theorem dX0_millBehind_60 : decode cX0_millBehind 60 = .ok (.getfield 61, 3) := by decide +kernel
theorem dX0_millBehind_63 : decode cX0_millBehind 63 = .ok (.astore_n 3, 1) := by decide +kernel
theorem dX0_millBehind_64 : decode cX0_millBehind 64 = .ok (.goto (-57), 3) := by decide +kernel
theorem dX0_millBehind_67 : decode cX0_millBehind 67 = .ok (.aload_n 2, 1) := by decide +kernel
theorem dX0_millBehind_68 : decode cX0_millBehind 68 = .ok (.areturn, 1) := by decide +kernel
theorem dX0_millAheadOfAll_0 : decode cX0_millAheadOfAll 0 = .ok (.aload_n 0, 1) := by decide +kernel
theorem dX0_millAheadOfAll_1 : decode cX0_millAheadOfAll 1 = .ok (.getfield 53, 3) := by decide +kernel
theorem dX0_millAheadOfAll_4 : decode cX0_millAheadOfAll 4 = .ok (.astore_n 1, 1) := by decide +kernel
theorem dX0_millAheadOfAll_5 : decode cX0_millAheadOfAll 5 = .ok (.aload_n 1, 1) := by decide +kernel
theorem dX0_millAheadOfAll_6 : decode cX0_millAheadOfAll 6 = .ok (.ifnull 29, 3) := by decide +kernel
theorem dX0_millAheadOfAll_9 : decode cX0_millAheadOfAll 9 = .ok (.aload_n 0, 1) := by decide +kernel
theorem dX0_millAheadOfAll_10 : decode cX0_millAheadOfAll 10 = .ok (.aload_n 1, 1) := by decide +kernel
theorem dX0_millAheadOfAll_11 : decode cX0_millAheadOfAll 11 = .ok (.invokevirtual 105, 3) := by decide +kernel
theorem dX0_millAheadOfAll_14 : decode cX0_millAheadOfAll 14 = .ok (.ifCond .ne 13, 3) := by decide +kernel
theorem dX0_millAheadOfAll_17 : decode cX0_millAheadOfAll 17 = .ok (.aload_n 0, 1) := by decide +kernel
theorem dX0_millAheadOfAll_18 : decode cX0_millAheadOfAll 18 = .ok (.aload_n 1, 1) := by decide +kernel
theorem dX0_millAheadOfAll_19 : decode cX0_millAheadOfAll 19 = .ok (.invokevirtual 113, 3) := by decide +kernel
theorem dX0_millAheadOfAll_22 : decode cX0_millAheadOfAll 22 = .ok (.ifCond .eq 5, 3) := by decide +kernel
theorem dX0_millAheadOfAll_25 : decode cX0_millAheadOfAll 25 = .ok (.aload_n 1, 1) := by decide +kernel
theorem dX0_millAheadOfAll_26 : decode cX0_millAheadOfAll 26 = .ok (.areturn, 1) := by decide +kernel
theorem dX0_millAheadOfAll_27 : decode cX0_millAheadOfAll 27 = .ok (.aload_n 1, 1) := by decide +kernel
theorem dX0_millAheadOfAll_28 : decode cX0_millAheadOfAll 28 = .ok (.getfield 61, 3) := by decide +kernel
theorem dX0_millAheadOfAll_31 : decode cX0_millAheadOfAll 31 = .ok (.astore_n 1, 1) := by decide +kernel
theorem dX0_millAheadOfAll_32 : decode cX0_millAheadOfAll 32 = .ok (.goto (-27), 3) := by decide +kernel
theorem dX0_millAheadOfAll_35 : decode cX0_millAheadOfAll 35 = .ok (.aconst_null, 1) := by decide +kernel
theorem dX0_millAheadOfAll_36 : decode cX0_millAheadOfAll 36 = .ok (.areturn, 1) := by decide +kernel
theorem dX0_isAheadOfAllOthers_0 : decode cX0_isAheadOfAllOthers 0 = .ok (.aload_n 0, 1) := by decide +kernel
theorem dX0_isAheadOfAllOthers_1 : decode cX0_isAheadOfAllOthers 1 = .ok (.getfield 53, 3) := by decide +kernel
theorem dX0_isAheadOfAllOthers_4 : decode cX0_isAheadOfAllOthers 4 = .ok (.astore_n 2, 1) := by decide +kernel
theorem dX0_isAheadOfAllOthers_5 : decode cX0_isAheadOfAllOthers 5 = .ok (.aload_n 2, 1) := by decide +kernel
theorem dX0_isAheadOfAllOthers_6 : decode cX0_isAheadOfAllOthers 6 = .ok (.ifnull 35, 3) := by decide +kernel
theorem dX0_isAheadOfAllOthers_9 : decode cX0_isAheadOfAllOthers 9 = .ok (.aload_n 2, 1) := by decide +kernel
theorem dX0_isAheadOfAllOthers_10 : decode cX0_isAheadOfAllOthers 10 = .ok (.aload_n 1, 1) := by decide +kernel
theorem dX0_isAheadOfAllOthers_11 : decode cX0_isAheadOfAllOthers 11 = .ok (.if_acmp .eq 22, 3) := by decide +kernel
theorem dX0_isAheadOfAllOthers_14 : decode cX0_isAheadOfAllOthers 14 = .ok (.aload_n 0, 1) := by decide +kernel
theorem dX0_isAheadOfAllOthers_15 : decode cX0_isAheadOfAllOthers 15 = .ok (.aload_n 2, 1) := by decide +kernel
theorem dX0_isAheadOfAllOthers_16 : decode cX0_isAheadOfAllOthers 16 = .ok (.invokevirtual 105, 3) := by decide +kernel
theorem dX0_isAheadOfAllOthers_19 : decode cX0_isAheadOfAllOthers 19 = .ok (.ifCond .ne 14, 3) := by decide +kernel
theorem dX0_isAheadOfAllOthers_22 : decode cX0_isAheadOfAllOthers 22 = .ok (.aload_n 0, 1) := by decide +kernel
theorem dX0_isAheadOfAllOthers_23 : decode cX0_isAheadOfAllOthers 23 = .ok (.aload_n 2, 1) := by decide +kernel
theorem dX0_isAheadOfAllOthers_24 : decode cX0_isAheadOfAllOthers 24 = .ok (.aload_n 1, 1) := by decide +kernel
theorem dX0_isAheadOfAllOthers_25 : decode cX0_isAheadOfAllOthers 25 = .ok (.invokevirtual 109, 3) := by decide +kernel
theorem dX0_isAheadOfAllOthers_28 : decode cX0_isAheadOfAllOthers 28 = .ok (.ifCond .eq 5, 3) := by decide +kernel
theorem dX0_isAheadOfAllOthers_31 : decode cX0_isAheadOfAllOthers 31 = .ok (.iconst 0, 1) := by decide +kernel
theorem dX0_isAheadOfAllOthers_32 : decode cX0_isAheadOfAllOthers 32 = .ok (.ireturn, 1) := by decide +kernel
theorem dX0_isAheadOfAllOthers_33 : decode cX0_isAheadOfAllOthers 33 = .ok (.aload_n 2, 1) := by decide +kernel
theorem dX0_isAheadOfAllOthers_34 : decode cX0_isAheadOfAllOthers 34 = .ok (.getfield 61, 3) := by decide +kernel
theorem dX0_isAheadOfAllOthers_37 : decode cX0_isAheadOfAllOthers 37 = .ok (.astore_n 2, 1) := by decide +kernel
theorem dX0_isAheadOfAllOthers_38 : decode cX0_isAheadOfAllOthers 38 = .ok (.goto (-33), 3) := by decide +kernel
theorem dX0_isAheadOfAllOthers_41 : decode cX0_isAheadOfAllOthers 41 = .ok (.iconst 1, 1) := by decide +kernel
theorem dX0_isAheadOfAllOthers_42 : decode cX0_isAheadOfAllOthers 42 = .ok (.ireturn, 1) := by decide +kernel
theorem dX0_passHours_0 : decode cX0_passHours 0 = .ok (.iconst 0, 1) := by decide +kernel
theorem dX0_passHours_1 : decode cX0_passHours 1 = .ok (.istore_n 2, 1) := by decide +kernel
theorem dX0_passHours_2 : decode cX0_passHours 2 = .ok (.iload_n 2, 1) := by decide +kernel
theorem dX0_passHours_3 : decode cX0_passHours 3 = .ok (.iload_n 1, 1) := by decide +kernel
theorem dX0_passHours_4 : decode cX0_passHours 4 = .ok (.if_icmp .ge 64, 3) := by decide +kernel
theorem dX0_passHours_7 : decode cX0_passHours 7 = .ok (.aload_n 0, 1) := by decide +kernel
theorem dX0_passHours_8 : decode cX0_passHours 8 = .ok (.dup, 1) := by decide +kernel
theorem dX0_passHours_9 : decode cX0_passHours 9 = .ok (.getfield 21, 3) := by decide +kernel
theorem dX0_passHours_12 : decode cX0_passHours 12 = .ok (.iconst 1, 1) := by decide +kernel
theorem dX0_passHours_13 : decode cX0_passHours 13 = .ok (.iadd, 1) := by decide +kernel
theorem dX0_passHours_14 : decode cX0_passHours 14 = .ok (.putfield 21, 3) := by decide +kernel
theorem dX0_passHours_17 : decode cX0_passHours 17 = .ok (.aload_n 0, 1) := by decide +kernel
theorem dX0_passHours_18 : decode cX0_passHours 18 = .ok (.invokevirtual 116, 3) := by decide +kernel
theorem dX0_passHours_21 : decode cX0_passHours 21 = .ok (.aload_n 0, 1) := by decide +kernel
theorem dX0_passHours_22 : decode cX0_passHours 22 = .ok (.aconst_null, 1) := by decide +kernel
theorem dX0_passHours_23 : decode cX0_passHours 23 = .ok (.invokevirtual 119, 3) := by decide +kernel
theorem dX0_passHours_26 : decode cX0_passHours 26 = .ok (.astore_n 3, 1) := by decide +kernel
theorem dX0_passHours_27 : decode cX0_passHours 27 = .ok (.aload_n 0, 1) := by decide +kernel
theorem dX0_passHours_28 : decode cX0_passHours 28 = .ok (.aload_n 3, 1) := by decide +kernel
theorem dX0_passHours_29 : decode cX0_passHours 29 = .ok (.invokestatic 123, 3) := by decide +kernel
theorem dX0_passHours_32 : decode cX0_passHours 32 = .ok (.putfield 24, 3) := by decide +kernel
theorem dX0_passHours_35 : decode cX0_passHours 35 = .ok (.aload_n 3, 1) := by decide +kernel
theorem dX0_passHours_36 : decode cX0_passHours 36 = .ok (.ifnonnull 16, 3) := by decide +kernel
theorem dX0_passHours_39 : decode cX0_passHours 39 = .ok (.aload_n 0, 1) := by decide +kernel
theorem dX0_passHours_40 : decode cX0_passHours 40 = .ok (.dup, 1) := by decide +kernel
theorem dX0_passHours_41 : decode cX0_passHours 41 = .ok (.getfield 27, 3) := by decide +kernel
theorem dX0_passHours_44 : decode cX0_passHours 44 = .ok (.iconst 1, 1) := by decide +kernel
theorem dX0_passHours_45 : decode cX0_passHours 45 = .ok (.iadd, 1) := by decide +kernel
theorem dX0_passHours_46 : decode cX0_passHours 46 = .ok (.putfield 27, 3) := by decide +kernel
theorem dX0_passHours_49 : decode cX0_passHours 49 = .ok (.goto 13, 3) := by decide +kernel
theorem dX0_passHours_52 : decode cX0_passHours 52 = .ok (.aload_n 0, 1) := by decide +kernel
theorem dX0_passHours_53 : decode cX0_passHours 53 = .ok (.aload_n 3, 1) := by decide +kernel
theorem dX0_passHours_54 : decode cX0_passHours 54 = .ok (.aload_n 0, 1) := by decide +kernel
theorem dX0_passHours_55 : decode cX0_passHours 55 = .ok (.aload_n 3, 1) := by decide +kernel
theorem dX0_passHours_56 : decode cX0_passHours 56 = .ok (.invokevirtual 126, 3) := by decide +kernel
theorem dX0_passHours_59 : decode cX0_passHours 59 = .ok (.invokevirtual 129, 3) := by decide +kernel
theorem dX0_passHours_62 : decode cX0_passHours 62 = .ok (.iinc 2 1, 3) := by decide +kernel
theorem dX0_passHours_65 : decode cX0_passHours 65 = .ok (.goto (-63), 3) := by decide +kernel
theorem dX0_passHours_68 : decode cX0_passHours 68 = .ok (.return_, 1) := by decide +kernel
theorem dX0_letWaterIn_0 : decode cX0_letWaterIn 0 = .ok (.aload_n 0, 1) := by decide +kernel
theorem dX0_letWaterIn_1 : decode cX0_letWaterIn 1 = .ok (.aload_n 0, 1) := by decide +kernel
theorem dX0_letWaterIn_2 : decode cX0_letWaterIn 2 = .ok (.getfield 21, 3) := by decide +kernel
theorem dX0_letWaterIn_5 : decode cX0_letWaterIn 5 = .ok (.invokevirtual 95, 3) := by decide +kernel
theorem dX0_letWaterIn_8 : decode cX0_letWaterIn 8 = .ok (.istore_n 1, 1) := by decide +kernel
theorem dX0_letWaterIn_9 : decode cX0_letWaterIn 9 = .ok (.aload_n 0, 1) := by decide +kernel
theorem dX0_letWaterIn_10 : decode cX0_letWaterIn 10 = .ok (.getfield 53, 3) := by decide +kernel
theorem dX0_letWaterIn_13 : decode cX0_letWaterIn 13 = .ok (.astore_n 2, 1) := by decide +kernel
theorem dX0_letWaterIn_14 : decode cX0_letWaterIn 14 = .ok (.aload_n 2, 1) := by decide +kernel
theorem dX0_letWaterIn_15 : decode cX0_letWaterIn 15 = .ok (.ifnull 29, 3) := by decide +kernel
theorem dX0_letWaterIn_18 : decode cX0_letWaterIn 18 = .ok (.aload_n 0, 1) := by decide +kernel
theorem dX0_letWaterIn_19 : decode cX0_letWaterIn 19 = .ok (.dup, 1) := by decide +kernel
theorem dX0_letWaterIn_20 : decode cX0_letWaterIn 20 = .ok (.getfield 30, 3) := by decide +kernel
theorem dX0_letWaterIn_23 : decode cX0_letWaterIn 23 = .ok (.aload_n 2, 1) := by decide +kernel
theorem dX0_letWaterIn_24 : decode cX0_letWaterIn 24 = .ok (.aload_n 0, 1) := by decide +kernel
theorem dX0_letWaterIn_25 : decode cX0_letWaterIn 25 = .ok (.getfield 21, 3) := by decide +kernel
theorem dX0_letWaterIn_28 : decode cX0_letWaterIn 28 = .ok (.iload_n 1, 1) := by decide +kernel
theorem dX0_letWaterIn_29 : decode cX0_letWaterIn 29 = .ok (.invokevirtual 133, 3) := by decide +kernel
theorem dX0_letWaterIn_32 : decode cX0_letWaterIn 32 = .ok (.iadd, 1) := by decide +kernel
theorem dX0_letWaterIn_33 : decode cX0_letWaterIn 33 = .ok (.putfield 30, 3) := by decide +kernel
theorem dX0_letWaterIn_36 : decode cX0_letWaterIn 36 = .ok (.aload_n 2, 1) := by decide +kernel
theorem dX0_letWaterIn_37 : decode cX0_letWaterIn 37 = .ok (.getfield 61, 3) := by decide +kernel
theorem dX0_letWaterIn_40 : decode cX0_letWaterIn 40 = .ok (.astore_n 2, 1) := by decide +kernel
theorem dX0_letWaterIn_41 : decode cX0_letWaterIn 41 = .ok (.goto (-27), 3) := by decide +kernel
theorem dX0_letWaterIn_44 : decode cX0_letWaterIn 44 = .ok (.return_, 1) := by decide +kernel
theorem dX0_turn_0 : decode cX0_turn 0 = .ok (.aload_n 1, 1) := by decide +kernel
theorem dX0_turn_1 : decode cX0_turn 1 = .ok (.aload_n 1, 1) := by decide +kernel
theorem dX0_turn_2 : decode cX0_turn 2 = .ok (.aload_n 0, 1) := by decide +kernel
theorem dX0_turn_3 : decode cX0_turn 3 = .ok (.aload_n 0, 1) := by decide +kernel
theorem dX0_turn_4 : decode cX0_turn 4 = .ok (.getfield 21, 3) := by decide +kernel
theorem dX0_turn_7 : decode cX0_turn 7 = .ok (.invokevirtual 95, 3) := by decide +kernel
theorem dX0_turn_10 : decode cX0_turn 10 = .ok (.invokevirtual 98, 3) := by decide +kernel
theorem dX0_turn_13 : decode cX0_turn 13 = .ok (.invokevirtual 137, 3) := by decide +kernel
theorem dX0_turn_16 : decode cX0_turn 16 = .ok (.istore_n 2, 1) := by decide +kernel
theorem dX0_turn_17 : decode cX0_turn 17 = .ok (.aload_n 1, 1) := by decide +kernel
theorem dX0_turn_18 : decode cX0_turn 18 = .ok (.dup, 1) := by decide +kernel
theorem dX0_turn_19 : decode cX0_turn 19 = .ok (.getfield 78, 3) := by decide +kernel
theorem dX0_turn_22 : decode cX0_turn 22 = .ok (.aload_n 0, 1) := by decide +kernel
theorem dX0_turn_23 : decode cX0_turn 23 = .ok (.getfield 18, 3) := by decide +kernel
theorem dX0_turn_26 : decode cX0_turn 26 = .ok (.isub, 1) := by decide +kernel
theorem dX0_turn_27 : decode cX0_turn 27 = .ok (.putfield 78, 3) := by decide +kernel
theorem dX0_turn_30 : decode cX0_turn 30 = .ok (.aload_n 0, 1) := by decide +kernel
theorem dX0_turn_31 : decode cX0_turn 31 = .ok (.dup, 1) := by decide +kernel
theorem dX0_turn_32 : decode cX0_turn 32 = .ok (.getfield 33, 3) := by decide +kernel
theorem dX0_turn_35 : decode cX0_turn 35 = .ok (.aload_n 0, 1) := by decide +kernel
theorem dX0_turn_36 : decode cX0_turn 36 = .ok (.getfield 18, 3) := by decide +kernel
theorem dX0_turn_39 : decode cX0_turn 39 = .ok (.iadd, 1) := by decide +kernel
theorem dX0_turn_40 : decode cX0_turn 40 = .ok (.putfield 33, 3) := by decide +kernel
theorem dX0_turn_43 : decode cX0_turn 43 = .ok (.aload_n 1, 1) := by decide +kernel
theorem dX0_turn_44 : decode cX0_turn 44 = .ok (.dup, 1) := by decide +kernel
theorem dX0_turn_45 : decode cX0_turn 45 = .ok (.getfield 140, 3) := by decide +kernel
theorem dX0_turn_48 : decode cX0_turn 48 = .ok (.iconst 1, 1) := by decide +kernel
theorem dX0_turn_49 : decode cX0_turn 49 = .ok (.iadd, 1) := by decide +kernel
theorem dX0_turn_50 : decode cX0_turn 50 = .ok (.putfield 140, 3) := by decide +kernel
theorem dX0_turn_53 : decode cX0_turn 53 = .ok (.iload_n 2, 1) := by decide +kernel
theorem dX0_turn_54 : decode cX0_turn 54 = .ok (.ireturn, 1) := by decide +kernel
theorem dX0_grind_0 : decode cX0_grind 0 = .ok (.iload_n 2, 1) := by decide +kernel
theorem dX0_grind_1 : decode cX0_grind 1 = .ok (.istore_n 3, 1) := by decide +kernel
theorem dX0_grind_2 : decode cX0_grind 2 = .ok (.aload_n 1, 1) := by decide +kernel
theorem dX0_grind_3 : decode cX0_grind 3 = .ok (.getfield 81, 3) := by decide +kernel
theorem dX0_grind_6 : decode cX0_grind 6 = .ok (.istore 4, 2) := by decide +kernel
theorem dX0_grind_8 : decode cX0_grind 8 = .ok (.iload 4, 2) := by decide +kernel
theorem dX0_grind_10 : decode cX0_grind 10 = .ok (.ifCond .le 72, 3) := by decide +kernel
theorem dX0_grind_13 : decode cX0_grind 13 = .ok (.iload_n 3, 1) := by decide +kernel
theorem dX0_grind_14 : decode cX0_grind 14 = .ok (.aload_n 1, 1) := by decide +kernel
theorem dX0_grind_15 : decode cX0_grind 15 = .ok (.iconst 0, 1) := by decide +kernel
theorem dX0_grind_16 : decode cX0_grind 16 = .ok (.invokevirtual 84, 3) := by decide +kernel
theorem dX0_grind_19 : decode cX0_grind 19 = .ok (.if_icmp .lt 63, 3) := by decide +kernel
theorem dX0_grind_22 : decode cX0_grind 22 = .ok (.iload_n 3, 1) := by decide +kernel
theorem dX0_grind_23 : decode cX0_grind 23 = .ok (.aload_n 1, 1) := by decide +kernel
theorem dX0_grind_24 : decode cX0_grind 24 = .ok (.iconst 0, 1) := by decide +kernel
theorem dX0_grind_25 : decode cX0_grind 25 = .ok (.invokevirtual 84, 3) := by decide +kernel
theorem dX0_grind_28 : decode cX0_grind 28 = .ok (.isub, 1) := by decide +kernel
theorem dX0_grind_29 : decode cX0_grind 29 = .ok (.istore_n 3, 1) := by decide +kernel
theorem dX0_grind_30 : decode cX0_grind 30 = .ok (.aload_n 0, 1) := by decide +kernel
theorem dX0_grind_31 : decode cX0_grind 31 = .ok (.getfield 21, 3) := by decide +kernel
theorem dX0_grind_34 : decode cX0_grind 34 = .ok (.aload_n 1, 1) := by decide +kernel
theorem dX0_grind_35 : decode cX0_grind 35 = .ok (.invokevirtual 101, 3) := by decide +kernel
theorem dX0_grind_38 : decode cX0_grind 38 = .ok (.if_icmp .le 13, 3) := by decide +kernel
theorem dX0_grind_41 : decode cX0_grind 41 = .ok (.aload_n 0, 1) := by decide +kernel
theorem dX0_grind_42 : decode cX0_grind 42 = .ok (.dup, 1) := by decide +kernel
theorem dX0_grind_43 : decode cX0_grind 43 = .ok (.getfield 42, 3) := by decide +kernel
theorem dX0_grind_46 : decode cX0_grind 46 = .ok (.iconst 1, 1) := by decide +kernel
theorem dX0_grind_47 : decode cX0_grind 47 = .ok (.iadd, 1) := by decide +kernel
theorem dX0_grind_48 : decode cX0_grind 48 = .ok (.putfield 42, 3) := by decide +kernel
theorem dX0_grind_51 : decode cX0_grind 51 = .ok (.aload_n 0, 1) := by decide +kernel
theorem dX0_grind_52 : decode cX0_grind 52 = .ok (.dup, 1) := by decide +kernel
theorem dX0_grind_53 : decode cX0_grind 53 = .ok (.getfield 39, 3) := by decide +kernel
theorem dX0_grind_56 : decode cX0_grind 56 = .ok (.iconst 1, 1) := by decide +kernel
theorem dX0_grind_57 : decode cX0_grind 57 = .ok (.iadd, 1) := by decide +kernel
theorem dX0_grind_58 : decode cX0_grind 58 = .ok (.putfield 39, 3) := by decide +kernel
theorem dX0_grind_61 : decode cX0_grind 61 = .ok (.aload_n 1, 1) := by decide +kernel
theorem dX0_grind_62 : decode cX0_grind 62 = .ok (.dup, 1) := by decide +kernel
theorem dX0_grind_63 : decode cX0_grind 63 = .ok (.getfield 143, 3) := by decide +kernel
theorem dX0_grind_66 : decode cX0_grind 66 = .ok (.iconst 1, 1) := by decide +kernel
theorem dX0_grind_67 : decode cX0_grind 67 = .ok (.iadd, 1) := by decide +kernel
theorem dX0_grind_68 : decode cX0_grind 68 = .ok (.putfield 143, 3) := by decide +kernel
theorem dX0_grind_71 : decode cX0_grind 71 = .ok (.aload_n 1, 1) := by decide +kernel
theorem dX0_grind_72 : decode cX0_grind 72 = .ok (.iconst 0, 1) := by decide +kernel
theorem dX0_grind_73 : decode cX0_grind 73 = .ok (.invokevirtual 144, 3) := by decide +kernel
theorem dX0_grind_76 : decode cX0_grind 76 = .ok (.iinc 4 (-1), 3) := by decide +kernel
theorem dX0_grind_79 : decode cX0_grind 79 = .ok (.goto (-71), 3) := by decide +kernel
theorem dX0_grind_82 : decode cX0_grind 82 = .ok (.aload_n 1, 1) := by decide +kernel
theorem dX0_grind_83 : decode cX0_grind 83 = .ok (.iload_n 3, 1) := by decide +kernel
theorem dX0_grind_84 : decode cX0_grind 84 = .ok (.invokevirtual 148, 3) := by decide +kernel
theorem dX0_grind_87 : decode cX0_grind 87 = .ok (.return_, 1) := by decide +kernel
theorem dX1_init_0 : decode cX1_init 0 = .ok (.aload_n 0, 1) := by decide +kernel
theorem dX1_init_1 : decode cX1_init 1 = .ok (.invokespecial 3, 3) := by decide +kernel
theorem dX1_init_4 : decode cX1_init 4 = .ok (.aload_n 0, 1) := by decide +kernel
theorem dX1_init_5 : decode cX1_init 5 = .ok (.bipush 6, 2) := by decide +kernel
theorem dX1_init_7 : decode cX1_init 7 = .ok (.anewarray 9, 3) := by decide +kernel
theorem dX1_init_10 : decode cX1_init 10 = .ok (.putfield 11, 3) := by decide +kernel
theorem dX1_init_13 : decode cX1_init 13 = .ok (.aload_n 0, 1) := by decide +kernel
theorem dX1_init_14 : decode cX1_init 14 = .ok (.iconst 0, 1) := by decide +kernel
theorem dX1_init_15 : decode cX1_init 15 = .ok (.putfield 17, 3) := by decide +kernel
theorem dX1_init_18 : decode cX1_init 18 = .ok (.iconst 0, 1) := by decide +kernel
theorem dX1_init_19 : decode cX1_init 19 = .ok (.istore_n 1, 1) := by decide +kernel
theorem dX1_init_20 : decode cX1_init 20 = .ok (.iload_n 1, 1) := by decide +kernel
theorem dX1_init_21 : decode cX1_init 21 = .ok (.bipush 6, 2) := by decide +kernel
theorem dX1_init_23 : decode cX1_init 23 = .ok (.if_icmp .ge 22, 3) := by decide +kernel
theorem dX1_init_26 : decode cX1_init 26 = .ok (.aload_n 0, 1) := by decide +kernel
theorem dX1_init_27 : decode cX1_init 27 = .ok (.getfield 11, 3) := by decide +kernel
theorem dX1_init_30 : decode cX1_init 30 = .ok (.iload_n 1, 1) := by decide +kernel
theorem dX1_init_31 : decode cX1_init 31 = .ok (.new 9, 3) := by decide +kernel
theorem dX1_init_34 : decode cX1_init 34 = .ok (.dup, 1) := by decide +kernel
theorem dX1_init_35 : decode cX1_init 35 = .ok (.invokespecial 21, 3) := by decide +kernel
theorem dX1_init_38 : decode cX1_init 38 = .ok (.aastore, 1) := by decide +kernel
theorem dX1_init_39 : decode cX1_init 39 = .ok (.iinc 1 1, 3) := by decide +kernel
theorem dX1_init_42 : decode cX1_init 42 = .ok (.goto (-22), 3) := by decide +kernel
theorem dX1_init_45 : decode cX1_init 45 = .ok (.return_, 1) := by decide +kernel
theorem dX1_save_0 : decode cX1_save 0 = .ok (.aload_n 0, 1) := by decide +kernel
theorem dX1_save_1 : decode cX1_save 1 = .ok (.getfield 17, 3) := by decide +kernel
theorem dX1_save_4 : decode cX1_save 4 = .ok (.bipush 6, 2) := by decide +kernel
theorem dX1_save_6 : decode cX1_save 6 = .ok (.if_icmp .lt 7, 3) := by decide +kernel
theorem dX1_save_9 : decode cX1_save 9 = .ok (.aload_n 0, 1) := by decide +kernel
theorem dX1_save_10 : decode cX1_save 10 = .ok (.invokevirtual 22, 3) := by decide +kernel
theorem dX1_save_13 : decode cX1_save 13 = .ok (.aload_n 0, 1) := by decide +kernel
theorem dX1_save_14 : decode cX1_save 14 = .ok (.aload_n 0, 1) := by decide +kernel
theorem dX1_save_15 : decode cX1_save 15 = .ok (.getfield 17, 3) := by decide +kernel
theorem dX1_save_18 : decode cX1_save 18 = .ok (.invokevirtual 25, 3) := by decide +kernel
theorem dX1_save_21 : decode cX1_save 21 = .ok (.astore_n 2, 1) := by decide +kernel
theorem dX1_save_22 : decode cX1_save 22 = .ok (.aload_n 2, 1) := by decide +kernel
theorem dX1_save_23 : decode cX1_save 23 = .ok (.ifnull 18, 3) := by decide +kernel
theorem dX1_save_26 : decode cX1_save 26 = .ok (.aload_n 2, 1) := by decide +kernel
theorem dX1_save_27 : decode cX1_save 27 = .ok (.aload_n 1, 1) := by decide +kernel
theorem dX1_save_28 : decode cX1_save 28 = .ok (.invokevirtual 29, 3) := by decide +kernel
theorem dX1_save_31 : decode cX1_save 31 = .ok (.aload_n 0, 1) := by decide +kernel
theorem dX1_save_32 : decode cX1_save 32 = .ok (.dup, 1) := by decide +kernel
theorem dX1_save_33 : decode cX1_save 33 = .ok (.getfield 17, 3) := by decide +kernel
theorem dX1_save_36 : decode cX1_save 36 = .ok (.iconst 1, 1) := by decide +kernel
theorem dX1_save_37 : decode cX1_save 37 = .ok (.iadd, 1) := by decide +kernel
theorem dX1_save_38 : decode cX1_save 38 = .ok (.putfield 17, 3) := by decide +kernel
theorem dX1_save_41 : decode cX1_save 41 = .ok (.return_, 1) := by decide +kernel
theorem dX1_restoreLatest_0 : decode cX1_restoreLatest 0 = .ok (.aload_n 0, 1) := by decide +kernel
theorem dX1_restoreLatest_1 : decode cX1_restoreLatest 1 = .ok (.aload_n 0, 1) := by decide +kernel
theorem dX1_restoreLatest_2 : decode cX1_restoreLatest 2 = .ok (.getfield 17, 3) := by decide +kernel
theorem dX1_restoreLatest_5 : decode cX1_restoreLatest 5 = .ok (.iconst 1, 1) := by decide +kernel
theorem dX1_restoreLatest_6 : decode cX1_restoreLatest 6 = .ok (.isub, 1) := by decide +kernel
theorem dX1_restoreLatest_7 : decode cX1_restoreLatest 7 = .ok (.invokevirtual 25, 3) := by decide +kernel
theorem dX1_restoreLatest_10 : decode cX1_restoreLatest 10 = .ok (.astore_n 2, 1) := by decide +kernel
theorem dX1_restoreLatest_11 : decode cX1_restoreLatest 11 = .ok (.aload_n 2, 1) := by decide +kernel
theorem dX1_restoreLatest_12 : decode cX1_restoreLatest 12 = .ok (.ifnull 18, 3) := by decide +kernel
theorem dX1_restoreLatest_15 : decode cX1_restoreLatest 15 = .ok (.aload_n 1, 1) := by decide +kernel
theorem dX1_restoreLatest_16 : decode cX1_restoreLatest 16 = .ok (.aload_n 2, 1) := by decide +kernel
theorem dX1_restoreLatest_17 : decode cX1_restoreLatest 17 = .ok (.invokevirtual 29, 3) := by decide +kernel
theorem dX1_restoreLatest_20 : decode cX1_restoreLatest 20 = .ok (.aload_n 0, 1) := by decide +kernel
theorem dX1_restoreLatest_21 : decode cX1_restoreLatest 21 = .ok (.dup, 1) := by decide +kernel
theorem dX1_restoreLatest_22 : decode cX1_restoreLatest 22 = .ok (.getfield 17, 3) := by decide +kernel
theorem dX1_restoreLatest_25 : decode cX1_restoreLatest 25 = .ok (.iconst 1, 1) := by decide +kernel
theorem dX1_restoreLatest_26 : decode cX1_restoreLatest 26 = .ok (.isub, 1) := by decide +kernel
theorem dX1_restoreLatest_27 : decode cX1_restoreLatest 27 = .ok (.putfield 17, 3) := by decide +kernel
theorem dX1_restoreLatest_30 : decode cX1_restoreLatest 30 = .ok (.return_, 1) := by decide +kernel
theorem dX1_dropOldest_0 : decode cX1_dropOldest 0 = .ok (.aload_n 0, 1) := by decide +kernel
theorem dX1_dropOldest_1 : decode cX1_dropOldest 1 = .ok (.getfield 11, 3) := by decide +kernel
theorem dX1_dropOldest_4 : decode cX1_dropOldest 4 = .ok (.iconst 0, 1) := by decide +kernel
theorem dX1_dropOldest_5 : decode cX1_dropOldest 5 = .ok (.aaload, 1) := by decide +kernel
theorem dX1_dropOldest_6 : decode cX1_dropOldest 6 = .ok (.astore_n 1, 1) := by decide +kernel
theorem dX1_dropOldest_7 : decode cX1_dropOldest 7 = .ok (.iconst 1, 1) := by decide +kernel
theorem dX1_dropOldest_8 : decode cX1_dropOldest 8 = .ok (.istore_n 2, 1) := by decide +kernel
theorem dX1_dropOldest_9 : decode cX1_dropOldest 9 = .ok (.iload_n 2, 1) := by decide +kernel
theorem dX1_dropOldest_10 : decode cX1_dropOldest 10 = .ok (.bipush 6, 2) := by decide +kernel
theorem dX1_dropOldest_12 : decode cX1_dropOldest 12 = .ok (.if_icmp .ge 23, 3) := by decide +kernel
theorem dX1_dropOldest_15 : decode cX1_dropOldest 15 = .ok (.aload_n 0, 1) := by decide +kernel
theorem dX1_dropOldest_16 : decode cX1_dropOldest 16 = .ok (.getfield 11, 3) := by decide +kernel
theorem dX1_dropOldest_19 : decode cX1_dropOldest 19 = .ok (.iload_n 2, 1) := by decide +kernel
theorem dX1_dropOldest_20 : decode cX1_dropOldest 20 = .ok (.iconst 1, 1) := by decide +kernel
theorem dX1_dropOldest_21 : decode cX1_dropOldest 21 = .ok (.isub, 1) := by decide +kernel
theorem dX1_dropOldest_22 : decode cX1_dropOldest 22 = .ok (.aload_n 0, 1) := by decide +kernel
theorem dX1_dropOldest_23 : decode cX1_dropOldest 23 = .ok (.getfield 11, 3) := by decide +kernel
theorem dX1_dropOldest_26 : decode cX1_dropOldest 26 = .ok (.iload_n 2, 1) := by decide +kernel
theorem dX1_dropOldest_27 : decode cX1_dropOldest 27 = .ok (.aaload, 1) := by decide +kernel
theorem dX1_dropOldest_28 : decode cX1_dropOldest 28 = .ok (.aastore, 1) := by decide +kernel
theorem dX1_dropOldest_29 : decode cX1_dropOldest 29 = .ok (.iinc 2 1, 3) := by decide +kernel
theorem dX1_dropOldest_32 : decode cX1_dropOldest 32 = .ok (.goto (-23), 3) := by decide +kernel
theorem dX1_dropOldest_35 : decode cX1_dropOldest 35 = .ok (.aload_n 0, 1) := by decide +kernel
theorem dX1_dropOldest_36 : decode cX1_dropOldest 36 = .ok (.getfield 11, 3) := by decide +kernel
theorem dX1_dropOldest_39 : decode cX1_dropOldest 39 = .ok (.iconst 5, 1) := by decide +kernel
theorem dX1_dropOldest_40 : decode cX1_dropOldest 40 = .ok (.aload_n 1, 1) := by decide +kernel
theorem dX1_dropOldest_41 : decode cX1_dropOldest 41 = .ok (.aastore, 1) := by decide +kernel
theorem dX1_dropOldest_42 : decode cX1_dropOldest 42 = .ok (.aload_n 0, 1) := by decide +kernel
theorem dX1_dropOldest_43 : decode cX1_dropOldest 43 = .ok (.dup, 1) := by decide +kernel
theorem dX1_dropOldest_44 : decode cX1_dropOldest 44 = .ok (.getfield 17, 3) := by decide +kernel
theorem dX1_dropOldest_47 : decode cX1_dropOldest 47 = .ok (.iconst 1, 1) := by decide +kernel
theorem dX1_dropOldest_48 : decode cX1_dropOldest 48 = .ok (.isub, 1) := by decide +kernel
theorem dX1_dropOldest_49 : decode cX1_dropOldest 49 = .ok (.putfield 17, 3) := by decide +kernel
theorem dX1_dropOldest_52 : decode cX1_dropOldest 52 = .ok (.return_, 1) := by decide +kernel
theorem dX1_stateAt_0 : decode cX1_stateAt 0 = .ok (.iload_n 1, 1) := by decide +kernel
theorem dX1_stateAt_1 : decode cX1_stateAt 1 = .ok (.ifCond .lt 18, 3) := by decide +kernel
theorem dX1_stateAt_4 : decode cX1_stateAt 4 = .ok (.iload_n 1, 1) := by decide +kernel
theorem dX1_stateAt_5 : decode cX1_stateAt 5 = .ok (.bipush 6, 2) := by decide +kernel
theorem dX1_stateAt_7 : decode cX1_stateAt 7 = .ok (.if_icmp .ge 12, 3) := by decide +kernel
theorem dX1_stateAt_10 : decode cX1_stateAt 10 = .ok (.aload_n 0, 1) := by decide +kernel
theorem dX1_stateAt_11 : decode cX1_stateAt 11 = .ok (.getfield 11, 3) := by decide +kernel
theorem dX1_stateAt_14 : decode cX1_stateAt 14 = .ok (.iload_n 1, 1) := by decide +kernel
theorem dX1_stateAt_15 : decode cX1_stateAt 15 = .ok (.aaload, 1) := by decide +kernel
theorem dX1_stateAt_16 : decode cX1_stateAt 16 = .ok (.goto 4, 3) := by decide +kernel
theorem dX1_stateAt_19 : decode cX1_stateAt 19 = .ok (.aconst_null, 1) := by decide +kernel
theorem dX1_stateAt_20 : decode cX1_stateAt 20 = .ok (.areturn, 1) := by decide +kernel
theorem dX2_init_0 : decode cX2_init 0 = .ok (.aload_n 0, 1) := by decide +kernel
theorem dX2_init_1 : decode cX2_init 1 = .ok (.invokespecial 3, 3) := by decide +kernel
theorem dX2_init_4 : decode cX2_init 4 = .ok (.aload_n 0, 1) := by decide +kernel
theorem dX2_init_5 : decode cX2_init 5 = .ok (.sipush 200, 3) := by decide +kernel
theorem dX2_init_8 : decode cX2_init 8 = .ok (.putfield 9, 3) := by decide +kernel
theorem dX2_init_11 : decode cX2_init 11 = .ok (.aload_n 0, 1) := by decide +kernel
theorem dX2_init_12 : decode cX2_init 12 = .ok (.iconst 0, 1) := by decide +kernel
theorem dX2_init_13 : decode cX2_init 13 = .ok (.putfield 15, 3) := by decide +kernel
theorem dX2_init_16 : decode cX2_init 16 = .ok (.aload_n 0, 1) := by decide +kernel
theorem dX2_init_17 : decode cX2_init 17 = .ok (.bipush 20, 2) := by decide +kernel
theorem dX2_init_19 : decode cX2_init 19 = .ok (.putfield 18, 3) := by decide +kernel
theorem dX2_init_22 : decode cX2_init 22 = .ok (.aload_n 0, 1) := by decide +kernel
theorem dX2_init_23 : decode cX2_init 23 = .ok (.iconst 0, 1) := by decide +kernel
theorem dX2_init_24 : decode cX2_init 24 = .ok (.putfield 21, 3) := by decide +kernel
theorem dX2_init_27 : decode cX2_init 27 = .ok (.aload_n 0, 1) := by decide +kernel
theorem dX2_init_28 : decode cX2_init 28 = .ok (.bipush 11, 2) := by decide +kernel
theorem dX2_init_30 : decode cX2_init 30 = .ok (.putfield 24, 3) := by decide +kernel
theorem dX2_init_33 : decode cX2_init 33 = .ok (.aload_n 0, 1) := by decide +kernel
theorem dX2_init_34 : decode cX2_init 34 = .ok (.bipush 40, 2) := by decide +kernel
theorem dX2_init_36 : decode cX2_init 36 = .ok (.putfield 27, 3) := by decide +kernel
theorem dX2_init_39 : decode cX2_init 39 = .ok (.aload_n 0, 1) := by decide +kernel
theorem dX2_init_40 : decode cX2_init 40 = .ok (.bipush 10, 2) := by decide +kernel
theorem dX2_init_42 : decode cX2_init 42 = .ok (.putfield 30, 3) := by decide +kernel
theorem dX2_init_45 : decode cX2_init 45 = .ok (.aload_n 0, 1) := by decide +kernel
theorem dX2_init_46 : decode cX2_init 46 = .ok (.iconst 0, 1) := by decide +kernel
theorem dX2_init_47 : decode cX2_init 47 = .ok (.putfield 33, 3) := by decide +kernel
theorem dX2_init_50 : decode cX2_init 50 = .ok (.aload_n 0, 1) := by decide +kernel
theorem dX2_init_51 : decode cX2_init 51 = .ok (.iconst 0, 1) := by decide +kernel
theorem dX2_init_52 : decode cX2_init 52 = .ok (.putfield 36, 3) := by decide +kernel
theorem dX2_init_55 : decode cX2_init 55 = .ok (.aload_n 0, 1) := by decide +kernel
theorem dX2_init_56 : decode cX2_init 56 = .ok (.iconst 0, 1) := by decide +kernel
theorem dX2_init_57 : decode cX2_init 57 = .ok (.putfield 39, 3) := by decide +kernel
theorem dX2_init_60 : decode cX2_init 60 = .ok (.aload_n 0, 1) := by decide +kernel
theorem dX2_init_61 : decode cX2_init 61 = .ok (.bipush 6, 2) := by decide +kernel
theorem dX2_init_63 : decode cX2_init 63 = .ok (.newarray .int, 2) := by decide +kernel
theorem dX2_init_65 : decode cX2_init 65 = .ok (.putfield 42, 3) := by decide +kernel
theorem dX2_init_68 : decode cX2_init 68 = .ok (.aload_n 0, 1) := by decide +kernel
theorem dX2_init_69 : decode cX2_init 69 = .ok (.bipush 6, 2) := by decide +kernel
theorem dX2_init_71 : decode cX2_init 71 = .ok (.newarray .int, 2) := by decide +kernel
theorem dX2_init_73 : decode cX2_init 73 = .ok (.putfield 46, 3) := by decide +kernel
theorem dX2_init_76 : decode cX2_init 76 = .ok (.aload_n 0, 1) := by decide +kernel
theorem dX2_init_77 : decode cX2_init 77 = .ok (.bipush 6, 2) := by decide +kernel
theorem dX2_init_79 : decode cX2_init 79 = .ok (.newarray .int, 2) := by decide +kernel
theorem dX2_init_81 : decode cX2_init 81 = .ok (.putfield 49, 3) := by decide +kernel
theorem dX2_init_84 : decode cX2_init 84 = .ok (.aload_n 0, 1) := by decide +kernel
theorem dX2_init_85 : decode cX2_init 85 = .ok (.bipush 6, 2) := by decide +kernel
theorem dX2_init_87 : decode cX2_init 87 = .ok (.newarray .int, 2) := by decide +kernel
theorem dX2_init_89 : decode cX2_init 89 = .ok (.putfield 52, 3) := by decide +kernel
theorem dX2_init_92 : decode cX2_init 92 = .ok (.aload_n 0, 1) := by decide +kernel
theorem dX2_init_93 : decode cX2_init 93 = .ok (.iload_n 1, 1) := by decide +kernel
theorem dX2_init_94 : decode cX2_init 94 = .ok (.putfield 55, 3) := by decide +kernel
theorem dX2_init_97 : decode cX2_init 97 = .ok (.aload_n 0, 1) := by decide +kernel
theorem dX2_init_98 : decode cX2_init 98 = .ok (.aload_n 2, 1) := by decide +kernel
theorem dX2_init_99 : decode cX2_init 99 = .ok (.putfield 58, 3) := by decide +kernel
theorem dX2_init_102 : decode cX2_init 102 = .ok (.return_, 1) := by decide +kernel
theorem dX2_copyFrom_0 : decode cX2_copyFrom 0 = .ok (.aload_n 0, 1) := by decide +kernel
theorem dX2_copyFrom_1 : decode cX2_copyFrom 1 = .ok (.aload_n 1, 1) := by decide +kernel
theorem dX2_copyFrom_2 : decode cX2_copyFrom 2 = .ok (.getfield 9, 3) := by decide +kernel
theorem dX2_copyFrom_5 : decode cX2_copyFrom 5 = .ok (.putfield 9, 3) := by decide +kernel
theorem dX2_copyFrom_8 : decode cX2_copyFrom 8 = .ok (.aload_n 0, 1) := by decide +kernel
theorem dX2_copyFrom_9 : decode cX2_copyFrom 9 = .ok (.aload_n 1, 1) := by decide +kernel
theorem dX2_copyFrom_10 : decode cX2_copyFrom 10 = .ok (.getfield 15, 3) := by decide +kernel
theorem dX2_copyFrom_13 : decode cX2_copyFrom 13 = .ok (.putfield 15, 3) := by decide +kernel
theorem dX2_copyFrom_16 : decode cX2_copyFrom 16 = .ok (.aload_n 0, 1) := by decide +kernel
theorem dX2_copyFrom_17 : decode cX2_copyFrom 17 = .ok (.aload_n 1, 1) := by decide +kernel
theorem dX2_copyFrom_18 : decode cX2_copyFrom 18 = .ok (.getfield 18, 3) := by decide +kernel
theorem dX2_copyFrom_21 : decode cX2_copyFrom 21 = .ok (.putfield 18, 3) := by decide +kernel
theorem dX2_copyFrom_24 : decode cX2_copyFrom 24 = .ok (.aload_n 0, 1) := by decide +kernel
theorem dX2_copyFrom_25 : decode cX2_copyFrom 25 = .ok (.aload_n 1, 1) := by decide +kernel
theorem dX2_copyFrom_26 : decode cX2_copyFrom 26 = .ok (.getfield 21, 3) := by decide +kernel
theorem dX2_copyFrom_29 : decode cX2_copyFrom 29 = .ok (.putfield 21, 3) := by decide +kernel
theorem dX2_copyFrom_32 : decode cX2_copyFrom 32 = .ok (.aload_n 0, 1) := by decide +kernel
theorem dX2_copyFrom_33 : decode cX2_copyFrom 33 = .ok (.aload_n 1, 1) := by decide +kernel
theorem dX2_copyFrom_34 : decode cX2_copyFrom 34 = .ok (.getfield 24, 3) := by decide +kernel
theorem dX2_copyFrom_37 : decode cX2_copyFrom 37 = .ok (.putfield 24, 3) := by decide +kernel
theorem dX2_copyFrom_40 : decode cX2_copyFrom 40 = .ok (.aload_n 0, 1) := by decide +kernel
theorem dX2_copyFrom_41 : decode cX2_copyFrom 41 = .ok (.aload_n 1, 1) := by decide +kernel
theorem dX2_copyFrom_42 : decode cX2_copyFrom 42 = .ok (.getfield 27, 3) := by decide +kernel
theorem dX2_copyFrom_45 : decode cX2_copyFrom 45 = .ok (.putfield 27, 3) := by decide +kernel
theorem dX2_copyFrom_48 : decode cX2_copyFrom 48 = .ok (.aload_n 0, 1) := by decide +kernel
theorem dX2_copyFrom_49 : decode cX2_copyFrom 49 = .ok (.aload_n 1, 1) := by decide +kernel
theorem dX2_copyFrom_50 : decode cX2_copyFrom 50 = .ok (.getfield 30, 3) := by decide +kernel
theorem dX2_copyFrom_53 : decode cX2_copyFrom 53 = .ok (.putfield 30, 3) := by decide +kernel
theorem dX2_copyFrom_56 : decode cX2_copyFrom 56 = .ok (.aload_n 0, 1) := by decide +kernel
theorem dX2_copyFrom_57 : decode cX2_copyFrom 57 = .ok (.aload_n 1, 1) := by decide +kernel
theorem dX2_copyFrom_58 : decode cX2_copyFrom 58 = .ok (.getfield 33, 3) := by decide +kernel
theorem dX2_copyFrom_61 : decode cX2_copyFrom 61 = .ok (.putfield 33, 3) := by decide +kernel
theorem dX2_copyFrom_64 : decode cX2_copyFrom 64 = .ok (.aload_n 0, 1) := by decide +kernel
theorem dX2_copyFrom_65 : decode cX2_copyFrom 65 = .ok (.aload_n 1, 1) := by decide +kernel
theorem dX2_copyFrom_66 : decode cX2_copyFrom 66 = .ok (.getfield 36, 3) := by decide +kernel
theorem dX2_copyFrom_69 : decode cX2_copyFrom 69 = .ok (.putfield 36, 3) := by decide +kernel
theorem dX2_copyFrom_72 : decode cX2_copyFrom 72 = .ok (.aload_n 0, 1) := by decide +kernel
theorem dX2_copyFrom_73 : decode cX2_copyFrom 73 = .ok (.aload_n 1, 1) := by decide +kernel
theorem dX2_copyFrom_74 : decode cX2_copyFrom 74 = .ok (.getfield 39, 3) := by decide +kernel
theorem dX2_copyFrom_77 : decode cX2_copyFrom 77 = .ok (.putfield 39, 3) := by decide +kernel
theorem dX2_copyFrom_80 : decode cX2_copyFrom 80 = .ok (.iconst 0, 1) := by decide +kernel
theorem dX2_copyFrom_81 : decode cX2_copyFrom 81 = .ok (.istore_n 2, 1) := by decide +kernel
theorem dX2_copyFrom_82 : decode cX2_copyFrom 82 = .ok (.iload_n 2, 1) := by decide +kernel
theorem dX2_copyFrom_83 : decode cX2_copyFrom 83 = .ok (.bipush 6, 2) := by decide +kernel
theorem dX2_copyFrom_85 : decode cX2_copyFrom 85 = .ok (.if_icmp .ge 57, 3) := by decide +kernel
theorem dX2_copyFrom_88 : decode cX2_copyFrom 88 = .ok (.aload_n 0, 1) := by decide +kernel
theorem dX2_copyFrom_89 : decode cX2_copyFrom 89 = .ok (.getfield 42, 3) := by decide +kernel
theorem dX2_copyFrom_92 : decode cX2_copyFrom 92 = .ok (.iload_n 2, 1) := by decide +kernel
theorem dX2_copyFrom_93 : decode cX2_copyFrom 93 = .ok (.aload_n 1, 1) := by decide +kernel
theorem dX2_copyFrom_94 : decode cX2_copyFrom 94 = .ok (.getfield 42, 3) := by decide +kernel
theorem dX2_copyFrom_97 : decode cX2_copyFrom 97 = .ok (.iload_n 2, 1) := by decide +kernel
theorem dX2_copyFrom_98 : decode cX2_copyFrom 98 = .ok (.iaload, 1) := by decide +kernel
theorem dX2_copyFrom_99 : decode cX2_copyFrom 99 = .ok (.iastore, 1) := by decide +kernel
theorem dX2_copyFrom_100 : decode cX2_copyFrom 100 = .ok (.aload_n 0, 1) := by decide +kernel
theorem dX2_copyFrom_101 : decode cX2_copyFrom 101 = .ok (.getfield 46, 3) := by decide +kernel
theorem dX2_copyFrom_104 : decode cX2_copyFrom 104 = .ok (.iload_n 2, 1) := by decide +kernel
theorem dX2_copyFrom_105 : decode cX2_copyFrom 105 = .ok (.aload_n 1, 1) := by decide +kernel
theorem dX2_copyFrom_106 : decode cX2_copyFrom 106 = .ok (.getfield 46, 3) := by decide +kernel
theorem dX2_copyFrom_109 : decode cX2_copyFrom 109 = .ok (.iload_n 2, 1) := by decide +kernel
theorem dX2_copyFrom_110 : decode cX2_copyFrom 110 = .ok (.iaload, 1) := by decide +kernel
theorem dX2_copyFrom_111 : decode cX2_copyFrom 111 = .ok (.iastore, 1) := by decide +kernel
theorem dX2_copyFrom_112 : decode cX2_copyFrom 112 = .ok (.aload_n 0, 1) := by decide +kernel
theorem dX2_copyFrom_113 : decode cX2_copyFrom 113 = .ok (.getfield 49, 3) := by decide +kernel
theorem dX2_copyFrom_116 : decode cX2_copyFrom 116 = .ok (.iload_n 2, 1) := by decide +kernel
theorem dX2_copyFrom_117 : decode cX2_copyFrom 117 = .ok (.aload_n 1, 1) := by decide +kernel
theorem dX2_copyFrom_118 : decode cX2_copyFrom 118 = .ok (.getfield 49, 3) := by decide +kernel
theorem dX2_copyFrom_121 : decode cX2_copyFrom 121 = .ok (.iload_n 2, 1) := by decide +kernel
theorem dX2_copyFrom_122 : decode cX2_copyFrom 122 = .ok (.iaload, 1) := by decide +kernel
theorem dX2_copyFrom_123 : decode cX2_copyFrom 123 = .ok (.iastore, 1) := by decide +kernel
theorem dX2_copyFrom_124 : decode cX2_copyFrom 124 = .ok (.aload_n 0, 1) := by decide +kernel
theorem dX2_copyFrom_125 : decode cX2_copyFrom 125 = .ok (.getfield 52, 3) := by decide +kernel
theorem dX2_copyFrom_128 : decode cX2_copyFrom 128 = .ok (.iload_n 2, 1) := by decide +kernel
theorem dX2_copyFrom_129 : decode cX2_copyFrom 129 = .ok (.aload_n 1, 1) := by decide +kernel
theorem dX2_copyFrom_130 : decode cX2_copyFrom 130 = .ok (.getfield 52, 3) := by decide +kernel
theorem dX2_copyFrom_133 : decode cX2_copyFrom 133 = .ok (.iload_n 2, 1) := by decide +kernel
theorem dX2_copyFrom_134 : decode cX2_copyFrom 134 = .ok (.iaload, 1) := by decide +kernel
theorem dX2_copyFrom_135 : decode cX2_copyFrom 135 = .ok (.iastore, 1) := by decide +kernel
theorem dX2_copyFrom_136 : decode cX2_copyFrom 136 = .ok (.iinc 2 1, 3) := by decide +kernel
theorem dX2_copyFrom_139 : decode cX2_copyFrom 139 = .ok (.goto (-57), 3) := by decide +kernel
theorem dX2_copyFrom_142 : decode cX2_copyFrom 142 = .ok (.return_, 1) := by decide +kernel
theorem dX2_headAt_0 : decode cX2_headAt 0 = .ok (.aload_n 0, 1) := by decide +kernel
theorem dX2_headAt_1 : decode cX2_headAt 1 = .ok (.getfield 9, 3) := by decide +kernel
theorem dX2_headAt_4 : decode cX2_headAt 4 = .ok (.ifCond .le 18, 3) := by decide +kernel
theorem dX2_headAt_7 : decode cX2_headAt 7 = .ok (.aload_n 0, 1) := by decide +kernel
theorem dX2_headAt_8 : decode cX2_headAt 8 = .ok (.getfield 15, 3) := by decide +kernel
theorem dX2_headAt_11 : decode cX2_headAt 11 = .ok (.bipush 100, 2) := by decide +kernel
theorem dX2_headAt_13 : decode cX2_headAt 13 = .ok (.imul, 1) := by decide +kernel
theorem dX2_headAt_14 : decode cX2_headAt 14 = .ok (.aload_n 0, 1) := by decide +kernel
theorem dX2_headAt_15 : decode cX2_headAt 15 = .ok (.getfield 9, 3) := by decide +kernel
theorem dX2_headAt_18 : decode cX2_headAt 18 = .ok (.idiv, 1) := by decide +kernel
theorem dX2_headAt_19 : decode cX2_headAt 19 = .ok (.goto 4, 3) := by decide +kernel
theorem dX2_headAt_22 : decode cX2_headAt 22 = .ok (.iconst 0, 1) := by decide +kernel
theorem dX2_headAt_23 : decode cX2_headAt 23 = .ok (.istore_n 2, 1) := by decide +kernel
theorem dX2_headAt_24 : decode cX2_headAt 24 = .ok (.iload_n 2, 1) := by decide +kernel
theorem dX2_headAt_25 : decode cX2_headAt 25 = .ok (.iload_n 1, 1) := by decide +kernel
theorem dX2_headAt_26 : decode cX2_headAt 26 = .ok (.isub, 1) := by decide +kernel
theorem dX2_headAt_27 : decode cX2_headAt 27 = .ok (.ireturn, 1) := by decide +kernel
theorem dX2_turnsOfStone_0 : decode cX2_turnsOfStone 0 = .ok (.aload_n 0, 1) := by decide +kernel
theorem dX2_turnsOfStone_1 : decode cX2_turnsOfStone 1 = .ok (.getfield 30, 3) := by decide +kernel
theorem dX2_turnsOfStone_4 : decode cX2_turnsOfStone 4 = .ok (.ifCond .le 17, 3) := by decide +kernel
theorem dX2_turnsOfStone_7 : decode cX2_turnsOfStone 7 = .ok (.iload_n 1, 1) := by decide +kernel
theorem dX2_turnsOfStone_8 : decode cX2_turnsOfStone 8 = .ok (.aload_n 0, 1) := by decide +kernel
theorem dX2_turnsOfStone_9 : decode cX2_turnsOfStone 9 = .ok (.getfield 27, 3) := by decide +kernel
theorem dX2_turnsOfStone_12 : decode cX2_turnsOfStone 12 = .ok (.imul, 1) := by decide +kernel
theorem dX2_turnsOfStone_13 : decode cX2_turnsOfStone 13 = .ok (.aload_n 0, 1) := by decide +kernel
theorem dX2_turnsOfStone_14 : decode cX2_turnsOfStone 14 = .ok (.getfield 30, 3) := by decide +kernel
theorem dX2_turnsOfStone_17 : decode cX2_turnsOfStone 17 = .ok (.idiv, 1) := by decide +kernel
theorem dX2_turnsOfStone_18 : decode cX2_turnsOfStone 18 = .ok (.goto 4, 3) := by decide +kernel
theorem dX2_turnsOfStone_21 : decode cX2_turnsOfStone 21 = .ok (.iconst 0, 1) := by decide +kernel
theorem dX2_turnsOfStone_22 : decode cX2_turnsOfStone 22 = .ok (.ireturn, 1) := by decide +kernel
theorem dX2_letIn_0 : decode cX2_letIn 0 = .ok (.iload_n 1, 1) := by decide +kernel
theorem dX2_letIn_1 : decode cX2_letIn 1 = .ok (.bipush 12, 2) := by decide +kernel
theorem dX2_letIn_3 : decode cX2_letIn 3 = .ok (.irem, 1) := by decide +kernel
theorem dX2_letIn_4 : decode cX2_letIn 4 = .ok (.istore_n 3, 1) := by decide +kernel
theorem dX2_letIn_5 : decode cX2_letIn 5 = .ok (.iload_n 3, 1) := by decide +kernel
theorem dX2_letIn_6 : decode cX2_letIn 6 = .ok (.aload_n 0, 1) := by decide +kernel
theorem dX2_letIn_7 : decode cX2_letIn 7 = .ok (.getfield 21, 3) := by decide +kernel
theorem dX2_letIn_10 : decode cX2_letIn 10 = .ok (.if_icmp .lt 19, 3) := by decide +kernel
theorem dX2_letIn_13 : decode cX2_letIn 13 = .ok (.iload_n 3, 1) := by decide +kernel
theorem dX2_letIn_14 : decode cX2_letIn 14 = .ok (.aload_n 0, 1) := by decide +kernel
theorem dX2_letIn_15 : decode cX2_letIn 15 = .ok (.getfield 24, 3) := by decide +kernel
theorem dX2_letIn_18 : decode cX2_letIn 18 = .ok (.if_icmp .gt 11, 3) := by decide +kernel
theorem dX2_letIn_21 : decode cX2_letIn 21 = .ok (.iload_n 2, 1) := by decide +kernel
theorem dX2_letIn_22 : decode cX2_letIn 22 = .ok (.aload_n 0, 1) := by decide +kernel
theorem dX2_letIn_23 : decode cX2_letIn 23 = .ok (.getfield 18, 3) := by decide +kernel
theorem dX2_letIn_26 : decode cX2_letIn 26 = .ok (.if_icmp .gt 5, 3) := by decide +kernel
theorem dX2_letIn_29 : decode cX2_letIn 29 = .ok (.iconst 0, 1) := by decide +kernel
theorem dX2_letIn_30 : decode cX2_letIn 30 = .ok (.ireturn, 1) := by decide +kernel
theorem dX2_letIn_31 : decode cX2_letIn 31 = .ok (.iconst 2, 1) := by decide +kernel
theorem dX2_letIn_32 : decode cX2_letIn 32 = .ok (.iload_n 2, 1) := by decide +kernel
theorem dX2_letIn_33 : decode cX2_letIn 33 = .ok (.aload_n 0, 1) := by decide +kernel
theorem dX2_letIn_34 : decode cX2_letIn 34 = .ok (.getfield 18, 3) := by decide +kernel
theorem dX2_letIn_37 : decode cX2_letIn 37 = .ok (.isub, 1) := by decide +kernel
theorem dX2_letIn_38 : decode cX2_letIn 38 = .ok (.imul, 1) := by decide +kernel
theorem dX2_letIn_39 : decode cX2_letIn 39 = .ok (.aload_n 0, 1) := by decide +kernel
theorem dX2_letIn_40 : decode cX2_letIn 40 = .ok (.getfield 9, 3) := by decide +kernel
theorem dX2_letIn_43 : decode cX2_letIn 43 = .ok (.aload_n 0, 1) := by decide +kernel
theorem dX2_letIn_44 : decode cX2_letIn 44 = .ok (.getfield 15, 3) := by decide +kernel
theorem dX2_letIn_47 : decode cX2_letIn 47 = .ok (.isub, 1) := by decide +kernel
theorem dX2_letIn_48 : decode cX2_letIn 48 = .ok (.invokestatic 62, 3) := by decide +kernel
theorem dX2_letIn_51 : decode cX2_letIn 51 = .ok (.istore 4, 2) := by decide +kernel
theorem dX2_letIn_53 : decode cX2_letIn 53 = .ok (.aload_n 0, 1) := by decide +kernel
theorem dX2_letIn_54 : decode cX2_letIn 54 = .ok (.dup, 1) := by decide +kernel
theorem dX2_letIn_55 : decode cX2_letIn 55 = .ok (.getfield 15, 3) := by decide +kernel
theorem dX2_letIn_58 : decode cX2_letIn 58 = .ok (.iload 4, 2) := by decide +kernel
theorem dX2_letIn_60 : decode cX2_letIn 60 = .ok (.iadd, 1) := by decide +kernel
theorem dX2_letIn_61 : decode cX2_letIn 61 = .ok (.putfield 15, 3) := by decide +kernel
theorem dX2_letIn_64 : decode cX2_letIn 64 = .ok (.iload 4, 2) := by decide +kernel
theorem dX2_letIn_66 : decode cX2_letIn 66 = .ok (.ireturn, 1) := by decide +kernel
theorem dX2_numberAt_0 : decode cX2_numberAt 0 = .ok (.aload_n 0, 1) := by decide +kernel
theorem dX2_numberAt_1 : decode cX2_numberAt 1 = .ok (.iload_n 1, 1) := by decide +kernel
theorem dX2_numberAt_2 : decode cX2_numberAt 2 = .ok (.invokevirtual 68, 3) := by decide +kernel
theorem dX2_numberAt_5 : decode cX2_numberAt 5 = .ok (.ifCond .eq 12, 3) := by decide +kernel
theorem dX2_numberAt_8 : decode cX2_numberAt 8 = .ok (.aload_n 0, 1) := by decide +kernel
theorem dX2_numberAt_9 : decode cX2_numberAt 9 = .ok (.getfield 42, 3) := by decide +kernel
theorem dX2_numberAt_12 : decode cX2_numberAt 12 = .ok (.iload_n 1, 1) := by decide +kernel
theorem dX2_numberAt_13 : decode cX2_numberAt 13 = .ok (.iaload, 1) := by decide +kernel
theorem dX2_numberAt_14 : decode cX2_numberAt 14 = .ok (.goto 4, 3) := by decide +kernel
theorem dX2_numberAt_17 : decode cX2_numberAt 17 = .ok (.iconst (-1), 1) := by decide +kernel
theorem dX2_numberAt_18 : decode cX2_numberAt 18 = .ok (.ireturn, 1) := by decide +kernel
theorem dX2_hardnessAt_0 : decode cX2_hardnessAt 0 = .ok (.aload_n 0, 1) := by decide +kernel
theorem dX2_hardnessAt_1 : decode cX2_hardnessAt 1 = .ok (.iload_n 1, 1) := by decide +kernel
theorem dX2_hardnessAt_2 : decode cX2_hardnessAt 2 = .ok (.invokevirtual 68, 3) := by decide +kernel
theorem dX2_hardnessAt_5 : decode cX2_hardnessAt 5 = .ok (.ifCond .eq 12, 3) := by decide +kernel
theorem dX2_hardnessAt_8 : decode cX2_hardnessAt 8 = .ok (.aload_n 0, 1) := by decide +kernel
theorem dX2_hardnessAt_9 : decode cX2_hardnessAt 9 = .ok (.getfield 46, 3) := by decide +kernel
theorem dX2_hardnessAt_12 : decode cX2_hardnessAt 12 = .ok (.iload_n 1, 1) := by decide +kernel
theorem dX2_hardnessAt_13 : decode cX2_hardnessAt 13 = .ok (.iaload, 1) := by decide +kernel
theorem dX2_hardnessAt_14 : decode cX2_hardnessAt 14 = .ok (.goto 4, 3) := by decide +kernel
theorem dX2_hardnessAt_17 : decode cX2_hardnessAt 17 = .ok (.iconst (-1), 1) := by decide +kernel
theorem dX2_hardnessAt_18 : decode cX2_hardnessAt 18 = .ok (.ireturn, 1) := by decide +kernel
theorem dX2_restAt_0 : decode cX2_restAt 0 = .ok (.aload_n 0, 1) := by decide +kernel
theorem dX2_restAt_1 : decode cX2_restAt 1 = .ok (.iload_n 1, 1) := by decide +kernel
theorem dX2_restAt_2 : decode cX2_restAt 2 = .ok (.invokevirtual 68, 3) := by decide +kernel
theorem dX2_restAt_5 : decode cX2_restAt 5 = .ok (.ifCond .eq 12, 3) := by decide +kernel
theorem dX2_restAt_8 : decode cX2_restAt 8 = .ok (.aload_n 0, 1) := by decide +kernel
theorem dX2_restAt_9 : decode cX2_restAt 9 = .ok (.getfield 49, 3) := by decide +kernel
theorem dX2_restAt_12 : decode cX2_restAt 12 = .ok (.iload_n 1, 1) := by decide +kernel
theorem dX2_restAt_13 : decode cX2_restAt 13 = .ok (.iaload, 1) := by decide +kernel
theorem dX2_restAt_14 : decode cX2_restAt 14 = .ok (.goto 4, 3) := by decide +kernel
theorem dX2_restAt_17 : decode cX2_restAt 17 = .ok (.iconst (-1), 1) := by decide +kernel
theorem dX2_restAt_18 : decode cX2_restAt 18 = .ok (.ireturn, 1) := by decide +kernel
theorem dX2_dueAt_0 : decode cX2_dueAt 0 = .ok (.aload_n 0, 1) := by decide +kernel
theorem dX2_dueAt_1 : decode cX2_dueAt 1 = .ok (.iload_n 1, 1) := by decide +kernel
theorem dX2_dueAt_2 : decode cX2_dueAt 2 = .ok (.invokevirtual 68, 3) := by decide +kernel
theorem dX2_dueAt_5 : decode cX2_dueAt 5 = .ok (.ifCond .eq 12, 3) := by decide +kernel
theorem dX2_dueAt_8 : decode cX2_dueAt 8 = .ok (.aload_n 0, 1) := by decide +kernel
theorem dX2_dueAt_9 : decode cX2_dueAt 9 = .ok (.getfield 52, 3) := by decide +kernel
theorem dX2_dueAt_12 : decode cX2_dueAt 12 = .ok (.iload_n 1, 1) := by decide +kernel
theorem dX2_dueAt_13 : decode cX2_dueAt 13 = .ok (.iaload, 1) := by decide +kernel
theorem dX2_dueAt_14 : decode cX2_dueAt 14 = .ok (.goto 4, 3) := by decide +kernel
theorem dX2_dueAt_17 : decode cX2_dueAt 17 = .ok (.iconst (-1), 1) := by decide +kernel
theorem dX2_dueAt_18 : decode cX2_dueAt 18 = .ok (.ireturn, 1) := by decide +kernel
theorem dX2_firstDue_0 : decode cX2_firstDue 0 = .ok (.aload_n 0, 1) := by decide +kernel
theorem dX2_firstDue_1 : decode cX2_firstDue 1 = .ok (.getfield 39, 3) := by decide +kernel
theorem dX2_firstDue_4 : decode cX2_firstDue 4 = .ok (.ifCond .le 12, 3) := by decide +kernel
theorem dX2_firstDue_7 : decode cX2_firstDue 7 = .ok (.aload_n 0, 1) := by decide +kernel
theorem dX2_firstDue_8 : decode cX2_firstDue 8 = .ok (.getfield 52, 3) := by decide +kernel
theorem dX2_firstDue_11 : decode cX2_firstDue 11 = .ok (.iconst 0, 1) := by decide +kernel
theorem dX2_firstDue_12 : decode cX2_firstDue 12 = .ok (.iaload, 1) := by decide +kernel
theorem dX2_firstDue_13 : decode cX2_firstDue 13 = .ok (.goto 4, 3) := by decide +kernel
theorem dX2_firstDue_16 : decode cX2_firstDue 16 = .ok (.iconst (-1), 1) := by decide +kernel
theorem dX2_firstDue_17 : decode cX2_firstDue 17 = .ok (.ireturn, 1) := by decide +kernel
theorem dX2_isPlace_0 : decode cX2_isPlace 0 = .ok (.iload_n 1, 1) := by decide +kernel
theorem dX2_isPlace_1 : decode cX2_isPlace 1 = .ok (.ifCond .lt 21, 3) := by decide +kernel
theorem dX2_isPlace_4 : decode cX2_isPlace 4 = .ok (.iload_n 1, 1) := by decide +kernel
theorem dX2_isPlace_5 : decode cX2_isPlace 5 = .ok (.aload_n 0, 1) := by decide +kernel
theorem dX2_isPlace_6 : decode cX2_isPlace 6 = .ok (.getfield 39, 3) := by decide +kernel
theorem dX2_isPlace_9 : decode cX2_isPlace 9 = .ok (.if_icmp .ge 13, 3) := by decide +kernel
theorem dX2_isPlace_12 : decode cX2_isPlace 12 = .ok (.iload_n 1, 1) := by decide +kernel
theorem dX2_isPlace_13 : decode cX2_isPlace 13 = .ok (.bipush 6, 2) := by decide +kernel
theorem dX2_isPlace_15 : decode cX2_isPlace 15 = .ok (.if_icmp .ge 7, 3) := by decide +kernel
theorem dX2_isPlace_18 : decode cX2_isPlace 18 = .ok (.iconst 1, 1) := by decide +kernel
theorem dX2_isPlace_19 : decode cX2_isPlace 19 = .ok (.goto 4, 3) := by decide +kernel
theorem dX2_isPlace_22 : decode cX2_isPlace 22 = .ok (.iconst 0, 1) := by decide +kernel
theorem dX2_isPlace_23 : decode cX2_isPlace 23 = .ok (.ireturn, 1) := by decide +kernel
theorem dX2_placeOf_0 : decode cX2_placeOf 0 = .ok (.iconst 0, 1) := by decide +kernel
theorem dX2_placeOf_1 : decode cX2_placeOf 1 = .ok (.istore_n 2, 1) := by decide +kernel
theorem dX2_placeOf_2 : decode cX2_placeOf 2 = .ok (.iload_n 2, 1) := by decide +kernel
theorem dX2_placeOf_3 : decode cX2_placeOf 3 = .ok (.aload_n 0, 1) := by decide +kernel
theorem dX2_placeOf_4 : decode cX2_placeOf 4 = .ok (.getfield 39, 3) := by decide +kernel
theorem dX2_placeOf_7 : decode cX2_placeOf 7 = .ok (.if_icmp .ge 27, 3) := by decide +kernel
theorem dX2_placeOf_10 : decode cX2_placeOf 10 = .ok (.iload_n 2, 1) := by decide +kernel
theorem dX2_placeOf_11 : decode cX2_placeOf 11 = .ok (.bipush 6, 2) := by decide +kernel
theorem dX2_placeOf_13 : decode cX2_placeOf 13 = .ok (.if_icmp .ge 21, 3) := by decide +kernel
theorem dX2_placeOf_16 : decode cX2_placeOf 16 = .ok (.aload_n 0, 1) := by decide +kernel
theorem dX2_placeOf_17 : decode cX2_placeOf 17 = .ok (.getfield 42, 3) := by decide +kernel
theorem dX2_placeOf_20 : decode cX2_placeOf 20 = .ok (.iload_n 2, 1) := by decide +kernel
theorem dX2_placeOf_21 : decode cX2_placeOf 21 = .ok (.iaload, 1) := by decide +kernel
theorem dX2_placeOf_22 : decode cX2_placeOf 22 = .ok (.iload_n 1, 1) := by decide +kernel
theorem dX2_placeOf_23 : decode cX2_placeOf 23 = .ok (.if_icmp .ne 5, 3) := by decide +kernel
theorem dX2_placeOf_26 : decode cX2_placeOf 26 = .ok (.iload_n 2, 1) := by decide +kernel
theorem dX2_placeOf_27 : decode cX2_placeOf 27 = .ok (.ireturn, 1) := by decide +kernel
theorem dX2_placeOf_28 : decode cX2_placeOf 28 = .ok (.iinc 2 1, 3) := by decide +kernel
theorem dX2_placeOf_31 : decode cX2_placeOf 31 = .ok (.goto (-29), 3) := by decide +kernel
theorem dX2_placeOf_34 : decode cX2_placeOf 34 = .ok (.iconst (-1), 1) := by decide +kernel
theorem dX2_placeOf_35 : decode cX2_placeOf 35 = .ok (.ireturn, 1) := by decide +kernel
theorem dX2_putSack_0 : decode cX2_putSack 0 = .ok (.aload_n 0, 1) := by decide +kernel
theorem dX2_putSack_1 : decode cX2_putSack 1 = .ok (.getfield 39, 3) := by decide +kernel
theorem dX2_putSack_4 : decode cX2_putSack 4 = .ok (.ifCond .lt 12, 3) := by decide +kernel
theorem dX2_putSack_7 : decode cX2_putSack 7 = .ok (.aload_n 0, 1) := by decide +kernel
theorem dX2_putSack_8 : decode cX2_putSack 8 = .ok (.getfield 39, 3) := by decide +kernel
theorem dX2_putSack_11 : decode cX2_putSack 11 = .ok (.bipush 6, 2) := by decide +kernel
theorem dX2_putSack_13 : decode cX2_putSack 13 = .ok (.if_icmp .lt 5, 3) := by decide +kernel
theorem dX2_putSack_16 : decode cX2_putSack 16 = .ok (.iconst (-1), 1) := by decide +kernel
theorem dX2_putSack_17 : decode cX2_putSack 17 = .ok (.ireturn, 1) := by decide +kernel
theorem dX2_putSack_18 : decode cX2_putSack 18 = .ok (.aload_n 0, 1) := by decide +kernel
theorem dX2_putSack_19 : decode cX2_putSack 19 = .ok (.iload_n 1, 1) := by decide +kernel
theorem dX2_putSack_20 : decode cX2_putSack 20 = .ok (.iload 4, 2) := by decide +kernel
theorem dX2_putSack_22 : decode cX2_putSack 22 = .ok (.invokevirtual 72, 3) := by decide +kernel
theorem dX2_putSack_25 : decode cX2_putSack 25 = .ok (.istore 5, 2) := by decide +kernel
theorem dX2_putSack_27 : decode cX2_putSack 27 = .ok (.aload_n 0, 1) := by decide +kernel
theorem dX2_putSack_28 : decode cX2_putSack 28 = .ok (.getfield 39, 3) := by decide +kernel
theorem dX2_putSack_31 : decode cX2_putSack 31 = .ok (.istore 6, 2) := by decide +kernel
theorem dX2_putSack_33 : decode cX2_putSack 33 = .ok (.iload 6, 2) := by decide +kernel
theorem dX2_putSack_35 : decode cX2_putSack 35 = .ok (.iload 5, 2) := by decide +kernel
theorem dX2_putSack_37 : decode cX2_putSack 37 = .ok (.if_icmp .le 19, 3) := by decide +kernel
theorem dX2_putSack_40 : decode cX2_putSack 40 = .ok (.aload_n 0, 1) := by decide +kernel
theorem dX2_putSack_41 : decode cX2_putSack 41 = .ok (.iload 6, 2) := by decide +kernel
theorem dX2_putSack_43 : decode cX2_putSack 43 = .ok (.iconst 1, 1) := by decide +kernel
theorem dX2_putSack_44 : decode cX2_putSack 44 = .ok (.isub, 1) := by decide +kernel
theorem dX2_putSack_45 : decode cX2_putSack 45 = .ok (.iload 6, 2) := by decide +kernel
theorem dX2_putSack_47 : decode cX2_putSack 47 = .ok (.invokevirtual 75, 3) := by decide +kernel
theorem dX2_putSack_50 : decode cX2_putSack 50 = .ok (.iinc 6 (-1), 3) := by decide +kernel
theorem dX2_putSack_53 : decode cX2_putSack 53 = .ok (.goto (-20), 3) := by decide +kernel
theorem dX2_putSack_56 : decode cX2_putSack 56 = .ok (.aload_n 0, 1) := by decide +kernel
theorem dX2_putSack_57 : decode cX2_putSack 57 = .ok (.dup, 1) := by decide +kernel
theorem dX2_putSack_58 : decode cX2_putSack 58 = .ok (.getfield 39, 3) := by decide +kernel
theorem dX2_putSack_61 : decode cX2_putSack 61 = .ok (.iconst 1, 1) := by decide +kernel
theorem dX2_putSack_62 : decode cX2_putSack 62 = .ok (.iadd, 1) := by decide +kernel
theorem dX2_putSack_63 : decode cX2_putSack 63 = .ok (.putfield 39, 3) := by decide +kernel
theorem dX2_putSack_66 : decode cX2_putSack 66 = .ok (.aload_n 0, 1) := by decide +kernel
theorem dX2_putSack_67 : decode cX2_putSack 67 = .ok (.iload 5, 2) := by decide +kernel
theorem dX2_putSack_69 : decode cX2_putSack 69 = .ok (.invokevirtual 68, 3) := by decide +kernel
theorem dX2_putSack_72 : decode cX2_putSack 72 = .ok (.ifCond .eq 36, 3) := by decide +kernel
theorem dX2_putSack_75 : decode cX2_putSack 75 = .ok (.aload_n 0, 1) := by decide +kernel
theorem dX2_putSack_76 : decode cX2_putSack 76 = .ok (.getfield 42, 3) := by decide +kernel
theorem dX2_putSack_79 : decode cX2_putSack 79 = .ok (.iload 5, 2) := by decide +kernel
theorem dX2_putSack_81 : decode cX2_putSack 81 = .ok (.iload_n 1, 1) := by decide +kernel
theorem dX2_putSack_82 : decode cX2_putSack 82 = .ok (.iastore, 1) := by decide +kernel
theorem dX2_putSack_83 : decode cX2_putSack 83 = .ok (.aload_n 0, 1) := by decide +kernel
theorem dX2_putSack_84 : decode cX2_putSack 84 = .ok (.getfield 46, 3) := by decide +kernel
theorem dX2_putSack_87 : decode cX2_putSack 87 = .ok (.iload 5, 2) := by decide +kernel
theorem dX2_putSack_89 : decode cX2_putSack 89 = .ok (.iload_n 2, 1) := by decide +kernel
theorem dX2_putSack_90 : decode cX2_putSack 90 = .ok (.iastore, 1) := by decide +kernel
theorem dX2_putSack_91 : decode cX2_putSack 91 = .ok (.aload_n 0, 1) := by decide +kernel
theorem dX2_putSack_92 : decode cX2_putSack 92 = .ok (.getfield 49, 3) := by decide +kernel
theorem dX2_putSack_95 : decode cX2_putSack 95 = .ok (.iload 5, 2) := by decide +kernel
theorem dX2_putSack_97 : decode cX2_putSack 97 = .ok (.iload_n 3, 1) := by decide +kernel
theorem dX2_putSack_98 : decode cX2_putSack 98 = .ok (.iastore, 1) := by decide +kernel
theorem dX2_putSack_99 : decode cX2_putSack 99 = .ok (.aload_n 0, 1) := by decide +kernel
theorem dX2_putSack_100 : decode cX2_putSack 100 = .ok (.getfield 52, 3) := by decide +kernel
theorem dX2_putSack_103 : decode cX2_putSack 103 = .ok (.iload 5, 2) := by decide +kernel
theorem dX2_putSack_105 : decode cX2_putSack 105 = .ok (.iload 4, 2) := by decide +kernel
theorem dX2_putSack_107 : decode cX2_putSack 107 = .ok (.iastore, 1) := by decide +kernel
theorem dX2_putSack_108 : decode cX2_putSack 108 = .ok (.iload 5, 2) := by decide +kernel
theorem dX2_putSack_110 : decode cX2_putSack 110 = .ok (.ireturn, 1) := by decide +kernel
theorem dX2_placeFor_0 : decode cX2_placeFor 0 = .ok (.iconst 0, 1) := by decide +kernel
theorem dX2_placeFor_1 : decode cX2_placeFor 1 = .ok (.istore_n 3, 1) := by decide +kernel
theorem dX2_placeFor_2 : decode cX2_placeFor 2 = .ok (.iload_n 3, 1) := by decide +kernel
theorem dX2_placeFor_3 : decode cX2_placeFor 3 = .ok (.aload_n 0, 1) := by decide +kernel
theorem dX2_placeFor_4 : decode cX2_placeFor 4 = .ok (.getfield 39, 3) := by decide +kernel
theorem dX2_placeFor_7 : decode cX2_placeFor 7 = .ok (.if_icmp .ge 45, 3) := by decide +kernel
theorem dX2_placeFor_10 : decode cX2_placeFor 10 = .ok (.iload_n 3, 1) := by decide +kernel
theorem dX2_placeFor_11 : decode cX2_placeFor 11 = .ok (.bipush 6, 2) := by decide +kernel
theorem dX2_placeFor_13 : decode cX2_placeFor 13 = .ok (.if_icmp .ge 39, 3) := by decide +kernel
theorem dX2_placeFor_16 : decode cX2_placeFor 16 = .ok (.aload_n 0, 1) := by decide +kernel
theorem dX2_placeFor_17 : decode cX2_placeFor 17 = .ok (.getfield 52, 3) := by decide +kernel
theorem dX2_placeFor_20 : decode cX2_placeFor 20 = .ok (.iload_n 3, 1) := by decide +kernel
theorem dX2_placeFor_21 : decode cX2_placeFor 21 = .ok (.iaload, 1) := by decide +kernel
theorem dX2_placeFor_22 : decode cX2_placeFor 22 = .ok (.iload_n 2, 1) := by decide +kernel
theorem dX2_placeFor_23 : decode cX2_placeFor 23 = .ok (.if_icmp .lt 23, 3) := by decide +kernel
theorem dX2_placeFor_26 : decode cX2_placeFor 26 = .ok (.aload_n 0, 1) := by decide +kernel
theorem dX2_placeFor_27 : decode cX2_placeFor 27 = .ok (.getfield 52, 3) := by decide +kernel
theorem dX2_placeFor_30 : decode cX2_placeFor 30 = .ok (.iload_n 3, 1) := by decide +kernel
theorem dX2_placeFor_31 : decode cX2_placeFor 31 = .ok (.iaload, 1) := by decide +kernel
theorem dX2_placeFor_32 : decode cX2_placeFor 32 = .ok (.iload_n 2, 1) := by decide +kernel
theorem dX2_placeFor_33 : decode cX2_placeFor 33 = .ok (.if_icmp .ne 19, 3) := by decide +kernel
theorem dX2_placeFor_36 : decode cX2_placeFor 36 = .ok (.aload_n 0, 1) := by decide +kernel
theorem dX2_placeFor_37 : decode cX2_placeFor 37 = .ok (.getfield 42, 3) := by decide +kernel
theorem dX2_placeFor_40 : decode cX2_placeFor 40 = .ok (.iload_n 3, 1) := by decide +kernel
theorem dX2_placeFor_41 : decode cX2_placeFor 41 = .ok (.iaload, 1) := by decide +kernel
theorem dX2_placeFor_42 : decode cX2_placeFor 42 = .ok (.iload_n 1, 1) := by decide +kernel
theorem dX2_placeFor_43 : decode cX2_placeFor 43 = .ok (.if_icmp .ge 9, 3) := by decide +kernel
theorem dX2_placeFor_46 : decode cX2_placeFor 46 = .ok (.iinc 3 1, 3) := by decide +kernel
theorem dX2_placeFor_49 : decode cX2_placeFor 49 = .ok (.goto (-47), 3) := by decide +kernel
theorem dX2_placeFor_52 : decode cX2_placeFor 52 = .ok (.iload_n 3, 1) := by decide +kernel
theorem dX2_placeFor_53 : decode cX2_placeFor 53 = .ok (.ireturn, 1) := by decide +kernel
theorem dX2_dropSack_0 : decode cX2_dropSack 0 = .ok (.aload_n 0, 1) := by decide +kernel
theorem dX2_dropSack_1 : decode cX2_dropSack 1 = .ok (.iload_n 1, 1) := by decide +kernel
theorem dX2_dropSack_2 : decode cX2_dropSack 2 = .ok (.invokevirtual 68, 3) := by decide +kernel
theorem dX2_dropSack_5 : decode cX2_dropSack 5 = .ok (.ifCond .ne 4, 3) := by decide +kernel
theorem dX2_dropSack_8 : decode cX2_dropSack 8 = .ok (.return_, 1) := by decide +kernel
theorem dX2_dropSack_9 : decode cX2_dropSack 9 = .ok (.iload_n 1, 1) := by decide +kernel
theorem dX2_dropSack_10 : decode cX2_dropSack 10 = .ok (.istore_n 2, 1) := by decide +kernel
theorem dX2_dropSack_11 : decode cX2_dropSack 11 = .ok (.iload_n 2, 1) := by decide +kernel
theorem dX2_dropSack_12 : decode cX2_dropSack 12 = .ok (.aload_n 0, 1) := by decide +kernel
theorem dX2_dropSack_13 : decode cX2_dropSack 13 = .ok (.getfield 39, 3) := by decide +kernel
theorem dX2_dropSack_16 : decode cX2_dropSack 16 = .ok (.iconst 1, 1) := by decide +kernel
theorem dX2_dropSack_17 : decode cX2_dropSack 17 = .ok (.isub, 1) := by decide +kernel
theorem dX2_dropSack_18 : decode cX2_dropSack 18 = .ok (.if_icmp .ge 17, 3) := by decide +kernel
theorem dX2_dropSack_21 : decode cX2_dropSack 21 = .ok (.aload_n 0, 1) := by decide +kernel
theorem dX2_dropSack_22 : decode cX2_dropSack 22 = .ok (.iload_n 2, 1) := by decide +kernel
theorem dX2_dropSack_23 : decode cX2_dropSack 23 = .ok (.iconst 1, 1) := by decide +kernel
theorem dX2_dropSack_24 : decode cX2_dropSack 24 = .ok (.iadd, 1) := by decide +kernel
theorem dX2_dropSack_25 : decode cX2_dropSack 25 = .ok (.iload_n 2, 1) := by decide +kernel
theorem dX2_dropSack_26 : decode cX2_dropSack 26 = .ok (.invokevirtual 75, 3) := by decide +kernel
theorem dX2_dropSack_29 : decode cX2_dropSack 29 = .ok (.iinc 2 1, 3) := by decide +kernel
theorem dX2_dropSack_32 : decode cX2_dropSack 32 = .ok (.goto (-21), 3) := by decide +kernel
theorem dX2_dropSack_35 : decode cX2_dropSack 35 = .ok (.aload_n 0, 1) := by decide +kernel
theorem dX2_dropSack_36 : decode cX2_dropSack 36 = .ok (.dup, 1) := by decide +kernel
theorem dX2_dropSack_37 : decode cX2_dropSack 37 = .ok (.getfield 39, 3) := by decide +kernel
theorem dX2_dropSack_40 : decode cX2_dropSack 40 = .ok (.iconst 1, 1) := by decide +kernel
theorem dX2_dropSack_41 : decode cX2_dropSack 41 = .ok (.isub, 1) := by decide +kernel
theorem dX2_dropSack_42 : decode cX2_dropSack 42 = .ok (.putfield 39, 3) := by decide +kernel
theorem dX2_dropSack_45 : decode cX2_dropSack 45 = .ok (.return_, 1) := by decide +kernel
theorem dX2_moveSack_0 : decode cX2_moveSack 0 = .ok (.iload_n 1, 1) := by decide +kernel
theorem dX2_moveSack_1 : decode cX2_moveSack 1 = .ok (.ifCond .lt 19, 3) := by decide +kernel
theorem dX2_moveSack_4 : decode cX2_moveSack 4 = .ok (.iload_n 1, 1) := by decide +kernel
theorem dX2_moveSack_5 : decode cX2_moveSack 5 = .ok (.bipush 6, 2) := by decide +kernel
theorem dX2_moveSack_7 : decode cX2_moveSack 7 = .ok (.if_icmp .ge 13, 3) := by decide +kernel
theorem dX2_moveSack_10 : decode cX2_moveSack 10 = .ok (.iload_n 2, 1) := by decide +kernel
theorem dX2_moveSack_11 : decode cX2_moveSack 11 = .ok (.ifCond .lt 9, 3) := by decide +kernel
theorem dX2_moveSack_14 : decode cX2_moveSack 14 = .ok (.iload_n 2, 1) := by decide +kernel
theorem dX2_moveSack_15 : decode cX2_moveSack 15 = .ok (.bipush 6, 2) := by decide +kernel
theorem dX2_moveSack_17 : decode cX2_moveSack 17 = .ok (.if_icmp .lt 4, 3) := by decide +kernel
theorem dX2_moveSack_20 : decode cX2_moveSack 20 = .ok (.return_, 1) := by decide +kernel
theorem dX2_moveSack_21 : decode cX2_moveSack 21 = .ok (.aload_n 0, 1) := by decide +kernel
theorem dX2_moveSack_22 : decode cX2_moveSack 22 = .ok (.getfield 42, 3) := by decide +kernel
theorem dX2_moveSack_25 : decode cX2_moveSack 25 = .ok (.iload_n 2, 1) := by decide +kernel
theorem dX2_moveSack_26 : decode cX2_moveSack 26 = .ok (.aload_n 0, 1) := by decide +kernel
theorem dX2_moveSack_27 : decode cX2_moveSack 27 = .ok (.getfield 42, 3) := by decide +kernel
theorem dX2_moveSack_30 : decode cX2_moveSack 30 = .ok (.iload_n 1, 1) := by decide +kernel
theorem dX2_moveSack_31 : decode cX2_moveSack 31 = .ok (.iaload, 1) := by decide +kernel
theorem dX2_moveSack_32 : decode cX2_moveSack 32 = .ok (.iastore, 1) := by decide +kernel
theorem dX2_moveSack_33 : decode cX2_moveSack 33 = .ok (.aload_n 0, 1) := by decide +kernel
theorem dX2_moveSack_34 : decode cX2_moveSack 34 = .ok (.getfield 46, 3) := by decide +kernel
theorem dX2_moveSack_37 : decode cX2_moveSack 37 = .ok (.iload_n 2, 1) := by decide +kernel
theorem dX2_moveSack_38 : decode cX2_moveSack 38 = .ok (.aload_n 0, 1) := by decide +kernel
theorem dX2_moveSack_39 : decode cX2_moveSack 39 = .ok (.getfield 46, 3) := by decide +kernel
theorem dX2_moveSack_42 : decode cX2_moveSack 42 = .ok (.iload_n 1, 1) := by decide +kernel
theorem dX2_moveSack_43 : decode cX2_moveSack 43 = .ok (.iaload, 1) := by decide +kernel
theorem dX2_moveSack_44 : decode cX2_moveSack 44 = .ok (.iastore, 1) := by decide +kernel
theorem dX2_moveSack_45 : decode cX2_moveSack 45 = .ok (.aload_n 0, 1) := by decide +kernel
theorem dX2_moveSack_46 : decode cX2_moveSack 46 = .ok (.getfield 49, 3) := by decide +kernel
theorem dX2_moveSack_49 : decode cX2_moveSack 49 = .ok (.iload_n 2, 1) := by decide +kernel
theorem dX2_moveSack_50 : decode cX2_moveSack 50 = .ok (.aload_n 0, 1) := by decide +kernel
theorem dX2_moveSack_51 : decode cX2_moveSack 51 = .ok (.getfield 49, 3) := by decide +kernel
theorem dX2_moveSack_54 : decode cX2_moveSack 54 = .ok (.iload_n 1, 1) := by decide +kernel
theorem dX2_moveSack_55 : decode cX2_moveSack 55 = .ok (.iaload, 1) := by decide +kernel
theorem dX2_moveSack_56 : decode cX2_moveSack 56 = .ok (.iastore, 1) := by decide +kernel
theorem dX2_moveSack_57 : decode cX2_moveSack 57 = .ok (.aload_n 0, 1) := by decide +kernel
theorem dX2_moveSack_58 : decode cX2_moveSack 58 = .ok (.getfield 52, 3) := by decide +kernel
theorem dX2_moveSack_61 : decode cX2_moveSack 61 = .ok (.iload_n 2, 1) := by decide +kernel
theorem dX2_moveSack_62 : decode cX2_moveSack 62 = .ok (.aload_n 0, 1) := by decide +kernel
theorem dX2_moveSack_63 : decode cX2_moveSack 63 = .ok (.getfield 52, 3) := by decide +kernel
theorem dX2_moveSack_66 : decode cX2_moveSack 66 = .ok (.iload_n 1, 1) := by decide +kernel
theorem dX2_moveSack_67 : decode cX2_moveSack 67 = .ok (.iaload, 1) := by decide +kernel
theorem dX2_moveSack_68 : decode cX2_moveSack 68 = .ok (.iastore, 1) := by decide +kernel
theorem dX2_moveSack_69 : decode cX2_moveSack 69 = .ok (.return_, 1) := by decide +kernel
theorem dX2_grindFirst_0 : decode cX2_grindFirst 0 = .ok (.aload_n 0, 1) := by decide +kernel
theorem dX2_grindFirst_1 : decode cX2_grindFirst 1 = .ok (.iconst 0, 1) := by decide +kernel
theorem dX2_grindFirst_2 : decode cX2_grindFirst 2 = .ok (.invokevirtual 68, 3) := by decide +kernel
theorem dX2_grindFirst_5 : decode cX2_grindFirst 5 = .ok (.ifCond .eq 13, 3) := by decide +kernel
theorem dX2_grindFirst_8 : decode cX2_grindFirst 8 = .ok (.aload_n 0, 1) := by decide +kernel
theorem dX2_grindFirst_9 : decode cX2_grindFirst 9 = .ok (.getfield 49, 3) := by decide +kernel
theorem dX2_grindFirst_12 : decode cX2_grindFirst 12 = .ok (.iconst 0, 1) := by decide +kernel
theorem dX2_grindFirst_13 : decode cX2_grindFirst 13 = .ok (.dup2, 1) := by decide +kernel
theorem dX2_grindFirst_14 : decode cX2_grindFirst 14 = .ok (.iaload, 1) := by decide +kernel
theorem dX2_grindFirst_15 : decode cX2_grindFirst 15 = .ok (.iload_n 1, 1) := by decide +kernel
theorem dX2_grindFirst_16 : decode cX2_grindFirst 16 = .ok (.isub, 1) := by decide +kernel
theorem dX2_grindFirst_17 : decode cX2_grindFirst 17 = .ok (.iastore, 1) := by decide +kernel
theorem dX2_grindFirst_18 : decode cX2_grindFirst 18 = .ok (.return_, 1) := by decide +kernel
theorem dX3_init_0 : decode cX3_init 0 = .ok (.aload_n 0, 1) := by decide +kernel
theorem dX3_init_1 : decode cX3_init 1 = .ok (.invokespecial 3, 3) := by decide +kernel
theorem dX3_init_4 : decode cX3_init 4 = .ok (.aload_n 0, 1) := by decide +kernel
theorem dX3_init_5 : decode cX3_init 5 = .ok (.iconst (-1), 1) := by decide +kernel
theorem dX3_init_6 : decode cX3_init 6 = .ok (.putfield 9, 3) := by decide +kernel
theorem dX3_init_9 : decode cX3_init 9 = .ok (.aload_n 0, 1) := by decide +kernel
theorem dX3_init_10 : decode cX3_init 10 = .ok (.iconst 3, 1) := by decide +kernel
theorem dX3_init_11 : decode cX3_init 11 = .ok (.newarray .int, 2) := by decide +kernel
theorem dX3_init_13 : decode cX3_init 13 = .ok (.putfield 15, 3) := by decide +kernel
theorem dX3_init_16 : decode cX3_init 16 = .ok (.aload_n 0, 1) := by decide +kernel
theorem dX3_init_17 : decode cX3_init 17 = .ok (.iconst 0, 1) := by decide +kernel
theorem dX3_init_18 : decode cX3_init 18 = .ok (.putfield 19, 3) := by decide +kernel
theorem dX3_init_21 : decode cX3_init 21 = .ok (.aload_n 0, 1) := by decide +kernel
theorem dX3_init_22 : decode cX3_init 22 = .ok (.iconst 0, 1) := by decide +kernel
theorem dX3_init_23 : decode cX3_init 23 = .ok (.putfield 22, 3) := by decide +kernel
theorem dX3_init_26 : decode cX3_init 26 = .ok (.return_, 1) := by decide +kernel
theorem dX4_init_0 : decode cX4_init 0 = .ok (.aload_n 0, 1) := by decide +kernel
theorem dX4_init_1 : decode cX4_init 1 = .ok (.invokespecial 1, 3) := by decide +kernel
theorem dX4_init_4 : decode cX4_init 4 = .ok (.aload_n 0, 1) := by decide +kernel
theorem dX4_init_5 : decode cX4_init 5 = .ok (.new 7, 3) := by decide +kernel
theorem dX4_init_8 : decode cX4_init 8 = .ok (.dup, 1) := by decide +kernel
theorem dX4_init_9 : decode cX4_init 9 = .ok (.invokespecial 9, 3) := by decide +kernel
theorem dX4_init_12 : decode cX4_init 12 = .ok (.putfield 10, 3) := by decide +kernel
theorem dX4_init_15 : decode cX4_init 15 = .ok (.aload_n 0, 1) := by decide +kernel
theorem dX4_init_16 : decode cX4_init 16 = .ok (.new 7, 3) := by decide +kernel
theorem dX4_init_19 : decode cX4_init 19 = .ok (.dup, 1) := by decide +kernel
theorem dX4_init_20 : decode cX4_init 20 = .ok (.invokespecial 9, 3) := by decide +kernel
theorem dX4_init_23 : decode cX4_init 23 = .ok (.putfield 16, 3) := by decide +kernel
theorem dX4_init_26 : decode cX4_init 26 = .ok (.aload_n 0, 1) := by decide +kernel
theorem dX4_init_27 : decode cX4_init 27 = .ok (.new 7, 3) := by decide +kernel
theorem dX4_init_30 : decode cX4_init 30 = .ok (.dup, 1) := by decide +kernel
theorem dX4_init_31 : decode cX4_init 31 = .ok (.invokespecial 9, 3) := by decide +kernel
theorem dX4_init_34 : decode cX4_init 34 = .ok (.putfield 19, 3) := by decide +kernel
theorem dX4_init_37 : decode cX4_init 37 = .ok (.aload_n 0, 1) := by decide +kernel
theorem dX4_init_38 : decode cX4_init 38 = .ok (.iconst 0, 1) := by decide +kernel
theorem dX4_init_39 : decode cX4_init 39 = .ok (.putfield 22, 3) := by decide +kernel
theorem dX4_init_42 : decode cX4_init 42 = .ok (.aload_n 0, 1) := by decide +kernel
theorem dX4_init_43 : decode cX4_init 43 = .ok (.new 26, 3) := by decide +kernel
theorem dX4_init_46 : decode cX4_init 46 = .ok (.dup, 1) := by decide +kernel
theorem dX4_init_47 : decode cX4_init 47 = .ok (.invokespecial 28, 3) := by decide +kernel
theorem dX4_init_50 : decode cX4_init 50 = .ok (.putfield 29, 3) := by decide +kernel
theorem dX4_init_53 : decode cX4_init 53 = .ok (.aload_n 0, 1) := by decide +kernel
theorem dX4_init_54 : decode cX4_init 54 = .ok (.bipush 60, 2) := by decide +kernel
theorem dX4_init_56 : decode cX4_init 56 = .ok (.newarray .int, 2) := by decide +kernel
theorem dX4_init_58 : decode cX4_init 58 = .ok (.putfield 33, 3) := by decide +kernel
theorem dX4_init_61 : decode cX4_init 61 = .ok (.aload_n 0, 1) := by decide +kernel
theorem dX4_init_62 : decode cX4_init 62 = .ok (.iconst 0, 1) := by decide +kernel
theorem dX4_init_63 : decode cX4_init 63 = .ok (.putfield 37, 3) := by decide +kernel
theorem dX4_init_66 : decode cX4_init 66 = .ok (.aload_n 0, 1) := by decide +kernel
theorem dX4_init_67 : decode cX4_init 67 = .ok (.new 41, 3) := by decide +kernel
theorem dX4_init_70 : decode cX4_init 70 = .ok (.dup, 1) := by decide +kernel
theorem dX4_init_71 : decode cX4_init 71 = .ok (.invokespecial 43, 3) := by decide +kernel
theorem dX4_init_74 : decode cX4_init 74 = .ok (.putfield 44, 3) := by decide +kernel
theorem dX4_init_77 : decode cX4_init 77 = .ok (.return_, 1) := by decide +kernel
theorem dX4_pond_0 : decode cX4_pond 0 = .ok (.aload_n 0, 1) := by decide +kernel
theorem dX4_pond_1 : decode cX4_pond 1 = .ok (.iload_n 1, 1) := by decide +kernel
theorem dX4_pond_2 : decode cX4_pond 2 = .ok (.invokevirtual 48, 3) := by decide +kernel
theorem dX4_pond_5 : decode cX4_pond 5 = .ok (.astore 4, 2) := by decide +kernel
theorem dX4_pond_7 : decode cX4_pond 7 = .ok (.iload_n 2, 1) := by decide +kernel
theorem dX4_pond_8 : decode cX4_pond 8 = .ok (.bipush 50, 2) := by decide +kernel
theorem dX4_pond_10 : decode cX4_pond 10 = .ok (.sipush 500, 3) := by decide +kernel
theorem dX4_pond_13 : decode cX4_pond 13 = .ok (.invokestatic 52, 3) := by decide +kernel
theorem dX4_pond_16 : decode cX4_pond 16 = .ok (.iload_n 3, 1) := by decide +kernel
theorem dX4_pond_17 : decode cX4_pond 17 = .ok (.iconst 0, 1) := by decide +kernel
theorem dX4_pond_18 : decode cX4_pond 18 = .ok (.bipush 60, 2) := by decide +kernel
theorem dX4_pond_20 : decode cX4_pond 20 = .ok (.invokestatic 52, 3) := by decide +kernel
theorem dX4_pond_23 : decode cX4_pond 23 = .ok (.aload 4, 2) := by decide +kernel
theorem dX4_pond_25 : decode cX4_pond 25 = .ok (.getfield 56, 3) := by decide +kernel
theorem dX4_pond_28 : decode cX4_pond 28 = .ok (.iload_n 2, 1) := by decide +kernel
theorem dX4_pond_29 : decode cX4_pond 29 = .ok (.if_icmp .gt 7, 3) := by decide +kernel
theorem dX4_pond_32 : decode cX4_pond 32 = .ok (.iconst 1, 1) := by decide +kernel
theorem dX4_pond_33 : decode cX4_pond 33 = .ok (.goto 4, 3) := by decide +kernel
theorem dX4_pond_36 : decode cX4_pond 36 = .ok (.iconst 0, 1) := by decide +kernel
theorem dX4_pond_37 : decode cX4_pond 37 = .ok (.invokestatic 61, 3) := by decide +kernel
theorem dX4_pond_40 : decode cX4_pond 40 = .ok (.aload_n 0, 1) := by decide +kernel
theorem dX4_pond_41 : decode cX4_pond 41 = .ok (.getfield 29, 3) := by decide +kernel
theorem dX4_pond_44 : decode cX4_pond 44 = .ok (.aload_n 0, 1) := by decide +kernel
theorem dX4_pond_45 : decode cX4_pond 45 = .ok (.getfield 10, 3) := by decide +kernel
theorem dX4_pond_48 : decode cX4_pond 48 = .ok (.invokevirtual 65, 3) := by decide +kernel
theorem dX4_pond_51 : decode cX4_pond 51 = .ok (.aload 4, 2) := by decide +kernel
theorem dX4_pond_53 : decode cX4_pond 53 = .ok (.getfield 69, 3) := by decide +kernel
theorem dX4_pond_56 : decode cX4_pond 56 = .ok (.istore 5, 2) := by decide +kernel
theorem dX4_pond_58 : decode cX4_pond 58 = .ok (.aload 4, 2) := by decide +kernel
theorem dX4_pond_60 : decode cX4_pond 60 = .ok (.iload_n 2, 1) := by decide +kernel
theorem dX4_pond_61 : decode cX4_pond 61 = .ok (.putfield 69, 3) := by decide +kernel
theorem dX4_pond_64 : decode cX4_pond 64 = .ok (.aload 4, 2) := by decide +kernel
theorem dX4_pond_66 : decode cX4_pond 66 = .ok (.iload_n 3, 1) := by decide +kernel
theorem dX4_pond_67 : decode cX4_pond 67 = .ok (.putfield 72, 3) := by decide +kernel
theorem dX4_pond_70 : decode cX4_pond 70 = .ok (.iload 5, 2) := by decide +kernel
theorem dX4_pond_72 : decode cX4_pond 72 = .ok (.ireturn, 1) := by decide +kernel
theorem dX4_gate_0 : decode cX4_gate 0 = .ok (.aload_n 0, 1) := by decide +kernel
theorem dX4_gate_1 : decode cX4_gate 1 = .ok (.iload_n 1, 1) := by decide +kernel
theorem dX4_gate_2 : decode cX4_gate 2 = .ok (.invokevirtual 48, 3) := by decide +kernel
theorem dX4_gate_5 : decode cX4_gate 5 = .ok (.astore 4, 2) := by decide +kernel
theorem dX4_gate_7 : decode cX4_gate 7 = .ok (.iload_n 2, 1) := by decide +kernel
theorem dX4_gate_8 : decode cX4_gate 8 = .ok (.iconst 0, 1) := by decide +kernel
theorem dX4_gate_9 : decode cX4_gate 9 = .ok (.bipush 11, 2) := by decide +kernel
theorem dX4_gate_11 : decode cX4_gate 11 = .ok (.invokestatic 52, 3) := by decide +kernel
theorem dX4_gate_14 : decode cX4_gate 14 = .ok (.iload_n 3, 1) := by decide +kernel
theorem dX4_gate_15 : decode cX4_gate 15 = .ok (.iload_n 2, 1) := by decide +kernel
theorem dX4_gate_16 : decode cX4_gate 16 = .ok (.bipush 11, 2) := by decide +kernel
theorem dX4_gate_18 : decode cX4_gate 18 = .ok (.invokestatic 52, 3) := by decide +kernel
theorem dX4_gate_21 : decode cX4_gate 21 = .ok (.aload_n 0, 1) := by decide +kernel
theorem dX4_gate_22 : decode cX4_gate 22 = .ok (.getfield 29, 3) := by decide +kernel
theorem dX4_gate_25 : decode cX4_gate 25 = .ok (.aload_n 0, 1) := by decide +kernel
theorem dX4_gate_26 : decode cX4_gate 26 = .ok (.getfield 10, 3) := by decide +kernel
theorem dX4_gate_29 : decode cX4_gate 29 = .ok (.invokevirtual 65, 3) := by decide +kernel
theorem dX4_gate_32 : decode cX4_gate 32 = .ok (.aload 4, 2) := by decide +kernel
theorem dX4_gate_34 : decode cX4_gate 34 = .ok (.getfield 75, 3) := by decide +kernel
theorem dX4_gate_37 : decode cX4_gate 37 = .ok (.aload 4, 2) := by decide +kernel
theorem dX4_gate_39 : decode cX4_gate 39 = .ok (.getfield 78, 3) := by decide +kernel
theorem dX4_gate_42 : decode cX4_gate 42 = .ok (.isub, 1) := by decide +kernel
theorem dX4_gate_43 : decode cX4_gate 43 = .ok (.iconst 1, 1) := by decide +kernel
theorem dX4_gate_44 : decode cX4_gate 44 = .ok (.iadd, 1) := by decide +kernel
theorem dX4_gate_45 : decode cX4_gate 45 = .ok (.istore 5, 2) := by decide +kernel
theorem dX4_gate_47 : decode cX4_gate 47 = .ok (.aload 4, 2) := by decide +kernel
theorem dX4_gate_49 : decode cX4_gate 49 = .ok (.iload_n 2, 1) := by decide +kernel
theorem dX4_gate_50 : decode cX4_gate 50 = .ok (.putfield 78, 3) := by decide +kernel
theorem dX4_gate_53 : decode cX4_gate 53 = .ok (.aload 4, 2) := by decide +kernel
theorem dX4_gate_55 : decode cX4_gate 55 = .ok (.iload_n 3, 1) := by decide +kernel
theorem dX4_gate_56 : decode cX4_gate 56 = .ok (.putfield 75, 3) := by decide +kernel
theorem dX4_gate_59 : decode cX4_gate 59 = .ok (.iload 5, 2) := by decide +kernel
theorem dX4_gate_61 : decode cX4_gate 61 = .ok (.ireturn, 1) := by decide +kernel
theorem dX4_gear_0 : decode cX4_gear 0 = .ok (.aload_n 0, 1) := by decide +kernel
theorem dX4_gear_1 : decode cX4_gear 1 = .ok (.iload_n 1, 1) := by decide +kernel
theorem dX4_gear_2 : decode cX4_gear 2 = .ok (.invokevirtual 48, 3) := by decide +kernel
theorem dX4_gear_5 : decode cX4_gear 5 = .ok (.astore 4, 2) := by decide +kernel
theorem dX4_gear_7 : decode cX4_gear 7 = .ok (.iload_n 2, 1) := by decide +kernel
theorem dX4_gear_8 : decode cX4_gear 8 = .ok (.bipush 8, 2) := by decide +kernel
theorem dX4_gear_10 : decode cX4_gear 10 = .ok (.bipush 60, 2) := by decide +kernel
theorem dX4_gear_12 : decode cX4_gear 12 = .ok (.invokestatic 52, 3) := by decide +kernel
theorem dX4_gear_15 : decode cX4_gear 15 = .ok (.iload_n 3, 1) := by decide +kernel
theorem dX4_gear_16 : decode cX4_gear 16 = .ok (.bipush 8, 2) := by decide +kernel
theorem dX4_gear_18 : decode cX4_gear 18 = .ok (.bipush 60, 2) := by decide +kernel
theorem dX4_gear_20 : decode cX4_gear 20 = .ok (.invokestatic 52, 3) := by decide +kernel
theorem dX4_gear_23 : decode cX4_gear 23 = .ok (.aload_n 0, 1) := by decide +kernel
theorem dX4_gear_24 : decode cX4_gear 24 = .ok (.getfield 29, 3) := by decide +kernel
theorem dX4_gear_27 : decode cX4_gear 27 = .ok (.aload_n 0, 1) := by decide +kernel
theorem dX4_gear_28 : decode cX4_gear 28 = .ok (.getfield 10, 3) := by decide +kernel
theorem dX4_gear_31 : decode cX4_gear 31 = .ok (.invokevirtual 65, 3) := by decide +kernel
theorem dX4_gear_34 : decode cX4_gear 34 = .ok (.aload 4, 2) := by decide +kernel
theorem dX4_gear_36 : decode cX4_gear 36 = .ok (.iload_n 2, 1) := by decide +kernel
theorem dX4_gear_37 : decode cX4_gear 37 = .ok (.putfield 81, 3) := by decide +kernel
theorem dX4_gear_40 : decode cX4_gear 40 = .ok (.aload 4, 2) := by decide +kernel
theorem dX4_gear_42 : decode cX4_gear 42 = .ok (.iload_n 3, 1) := by decide +kernel
theorem dX4_gear_43 : decode cX4_gear 43 = .ok (.putfield 84, 3) := by decide +kernel
theorem dX4_gear_46 : decode cX4_gear 46 = .ok (.aload 4, 2) := by decide +kernel
theorem dX4_gear_48 : decode cX4_gear 48 = .ok (.bipush 100, 2) := by decide +kernel
theorem dX4_gear_50 : decode cX4_gear 50 = .ok (.invokevirtual 87, 3) := by decide +kernel
theorem dX4_gear_53 : decode cX4_gear 53 = .ok (.ireturn, 1) := by decide +kernel
theorem dX4_set_0 : decode cX4_set 0 = .ok (.iload_n 1, 1) := by decide +kernel
theorem dX4_set_1 : decode cX4_set 1 = .ok (.ifCond .lt 8, 3) := by decide +kernel
theorem dX4_set_4 : decode cX4_set 4 = .ok (.iload_n 1, 1) := by decide +kernel
theorem dX4_set_5 : decode cX4_set 5 = .ok (.iconst 2, 1) := by decide +kernel
theorem dX4_set_6 : decode cX4_set 6 = .ok (.if_icmp .le 13, 3) := by decide +kernel
theorem dX4_set_9 : decode cX4_set 9 = .ok (.new 91, 3) := by decide +kernel
theorem dX4_set_12 : decode cX4_set 12 = .ok (.dup, 1) := by decide +kernel
theorem dX4_set_13 : decode cX4_set 13 = .ok (.ldc 93, 2) := by decide +kernel
theorem dX4_set_15 : decode cX4_set 15 = .ok (.invokespecial 95, 3) := by decide +kernel
theorem dX4_set_18 : decode cX4_set 18 = .ok (.athrow, 1) := by decide +kernel
theorem dX4_set_19 : decode cX4_set 19 = .ok (.iload_n 2, 1) := by decide +kernel
theorem dX4_set_20 : decode cX4_set 20 = .ok (.iload_n 1, 1) := by decide +kernel
theorem dX4_set_21 : decode cX4_set 21 = .ok (.invokestatic 98, 3) := by decide +kernel
theorem dX4_set_24 : decode cX4_set 24 = .ok (.iload_n 1, 1) := by decide +kernel
theorem dX4_set_25 : decode cX4_set 25 = .ok (.invokestatic 101, 3) := by decide +kernel
theorem dX4_set_28 : decode cX4_set 28 = .ok (.invokestatic 52, 3) := by decide +kernel
theorem dX4_set_31 : decode cX4_set 31 = .ok (.aload_n 0, 1) := by decide +kernel
theorem dX4_set_32 : decode cX4_set 32 = .ok (.getfield 29, 3) := by decide +kernel
theorem dX4_set_35 : decode cX4_set 35 = .ok (.aload_n 0, 1) := by decide +kernel
theorem dX4_set_36 : decode cX4_set 36 = .ok (.getfield 10, 3) := by decide +kernel
theorem dX4_set_39 : decode cX4_set 39 = .ok (.invokevirtual 65, 3) := by decide +kernel
theorem dX4_set_42 : decode cX4_set 42 = .ok (.aload_n 0, 1) := by decide +kernel
theorem dX4_set_43 : decode cX4_set 43 = .ok (.getfield 10, 3) := by decide +kernel
theorem dX4_set_46 : decode cX4_set 46 = .ok (.iload_n 1, 1) := by decide +kernel
theorem dX4_set_47 : decode cX4_set 47 = .ok (.invokevirtual 104, 3) := by decide +kernel
theorem dX4_set_50 : decode cX4_set 50 = .ok (.istore_n 3, 1) := by decide +kernel
theorem dX4_set_51 : decode cX4_set 51 = .ok (.aload_n 0, 1) := by decide +kernel
theorem dX4_set_52 : decode cX4_set 52 = .ok (.getfield 10, 3) := by decide +kernel
theorem dX4_set_55 : decode cX4_set 55 = .ok (.iload_n 1, 1) := by decide +kernel
theorem dX4_set_56 : decode cX4_set 56 = .ok (.iload_n 2, 1) := by decide +kernel
theorem dX4_set_57 : decode cX4_set 57 = .ok (.invokevirtual 107, 3) := by decide +kernel
theorem dX4_set_60 : decode cX4_set 60 = .ok (.iload_n 3, 1) := by decide +kernel
theorem dX4_set_61 : decode cX4_set 61 = .ok (.ireturn, 1) := by decide +kernel
theorem dX4_pass_0 : decode cX4_pass 0 = .ok (.iload_n 1, 1) := by decide +kernel
theorem dX4_pass_1 : decode cX4_pass 1 = .ok (.iconst 1, 1) := by decide +kernel
theorem dX4_pass_2 : decode cX4_pass 2 = .ok (.bipush 48, 2) := by decide +kernel
theorem dX4_pass_4 : decode cX4_pass 4 = .ok (.invokestatic 52, 3) := by decide +kernel
theorem dX4_pass_7 : decode cX4_pass 7 = .ok (.aload_n 0, 1) := by decide +kernel
theorem dX4_pass_8 : decode cX4_pass 8 = .ok (.getfield 29, 3) := by decide +kernel
theorem dX4_pass_11 : decode cX4_pass 11 = .ok (.aload_n 0, 1) := by decide +kernel
theorem dX4_pass_12 : decode cX4_pass 12 = .ok (.getfield 10, 3) := by decide +kernel
theorem dX4_pass_15 : decode cX4_pass 15 = .ok (.invokevirtual 65, 3) := by decide +kernel
theorem dX4_pass_18 : decode cX4_pass 18 = .ok (.aload_n 0, 1) := by decide +kernel
theorem dX4_pass_19 : decode cX4_pass 19 = .ok (.getfield 10, 3) := by decide +kernel
theorem dX4_pass_22 : decode cX4_pass 22 = .ok (.getfield 111, 3) := by decide +kernel
theorem dX4_pass_25 : decode cX4_pass 25 = .ok (.istore_n 2, 1) := by decide +kernel
theorem dX4_pass_26 : decode cX4_pass 26 = .ok (.aload_n 0, 1) := by decide +kernel
theorem dX4_pass_27 : decode cX4_pass 27 = .ok (.getfield 10, 3) := by decide +kernel
theorem dX4_pass_30 : decode cX4_pass 30 = .ok (.iload_n 1, 1) := by decide +kernel
theorem dX4_pass_31 : decode cX4_pass 31 = .ok (.invokevirtual 114, 3) := by decide +kernel
theorem dX4_pass_34 : decode cX4_pass 34 = .ok (.aload_n 0, 1) := by decide +kernel
theorem dX4_pass_35 : decode cX4_pass 35 = .ok (.getfield 10, 3) := by decide +kernel
theorem dX4_pass_38 : decode cX4_pass 38 = .ok (.getfield 111, 3) := by decide +kernel
theorem dX4_pass_41 : decode cX4_pass 41 = .ok (.iload_n 2, 1) := by decide +kernel
theorem dX4_pass_42 : decode cX4_pass 42 = .ok (.isub, 1) := by decide +kernel
theorem dX4_pass_43 : decode cX4_pass 43 = .ok (.ireturn, 1) := by decide +kernel
theorem dX4_sack_0 : decode cX4_sack 0 = .ok (.aload_n 0, 1) := by decide +kernel
theorem dX4_sack_1 : decode cX4_sack 1 = .ok (.iload_n 1, 1) := by decide +kernel
theorem dX4_sack_2 : decode cX4_sack 2 = .ok (.invokevirtual 48, 3) := by decide +kernel
theorem dX4_sack_5 : decode cX4_sack 5 = .ok (.astore 4, 2) := by decide +kernel
theorem dX4_sack_7 : decode cX4_sack 7 = .ok (.iload_n 2, 1) := by decide +kernel
theorem dX4_sack_8 : decode cX4_sack 8 = .ok (.iconst 1, 1) := by decide +kernel
theorem dX4_sack_9 : decode cX4_sack 9 = .ok (.sipush 999, 3) := by decide +kernel
theorem dX4_sack_12 : decode cX4_sack 12 = .ok (.invokestatic 52, 3) := by decide +kernel
theorem dX4_sack_15 : decode cX4_sack 15 = .ok (.iload_n 3, 1) := by decide +kernel
theorem dX4_sack_16 : decode cX4_sack 16 = .ok (.iconst 1, 1) := by decide +kernel
theorem dX4_sack_17 : decode cX4_sack 17 = .ok (.sipush 9999, 3) := by decide +kernel
theorem dX4_sack_20 : decode cX4_sack 20 = .ok (.invokestatic 52, 3) := by decide +kernel
theorem dX4_sack_23 : decode cX4_sack 23 = .ok (.aload_n 0, 1) := by decide +kernel
theorem dX4_sack_24 : decode cX4_sack 24 = .ok (.getfield 10, 3) := by decide +kernel
theorem dX4_sack_27 : decode cX4_sack 27 = .ok (.aload 4, 2) := by decide +kernel
theorem dX4_sack_29 : decode cX4_sack 29 = .ok (.invokevirtual 118, 3) := by decide +kernel
theorem dX4_sack_32 : decode cX4_sack 32 = .ok (.invokestatic 61, 3) := by decide +kernel
theorem dX4_sack_35 : decode cX4_sack 35 = .ok (.aload_n 0, 1) := by decide +kernel
theorem dX4_sack_36 : decode cX4_sack 36 = .ok (.getfield 29, 3) := by decide +kernel
theorem dX4_sack_39 : decode cX4_sack 39 = .ok (.aload_n 0, 1) := by decide +kernel
theorem dX4_sack_40 : decode cX4_sack 40 = .ok (.getfield 10, 3) := by decide +kernel
theorem dX4_sack_43 : decode cX4_sack 43 = .ok (.invokevirtual 65, 3) := by decide +kernel
theorem dX4_sack_46 : decode cX4_sack 46 = .ok (.aload_n 0, 1) := by decide +kernel
theorem dX4_sack_47 : decode cX4_sack 47 = .ok (.getfield 10, 3) := by decide +kernel
theorem dX4_sack_50 : decode cX4_sack 50 = .ok (.aload 4, 2) := by decide +kernel
theorem dX4_sack_52 : decode cX4_sack 52 = .ok (.iload_n 2, 1) := by decide +kernel
theorem dX4_sack_53 : decode cX4_sack 53 = .ok (.iload_n 3, 1) := by decide +kernel
theorem dX4_sack_54 : decode cX4_sack 54 = .ok (.invokevirtual 122, 3) := by decide +kernel
theorem dX4_sack_57 : decode cX4_sack 57 = .ok (.ireturn, 1) := by decide +kernel
theorem dX4_carry_0 : decode cX4_carry 0 = .ok (.aload_n 0, 1) := by decide +kernel
theorem dX4_carry_1 : decode cX4_carry 1 = .ok (.iload_n 2, 1) := by decide +kernel
theorem dX4_carry_2 : decode cX4_carry 2 = .ok (.invokevirtual 48, 3) := by decide +kernel
theorem dX4_carry_5 : decode cX4_carry 5 = .ok (.astore_n 3, 1) := by decide +kernel
theorem dX4_carry_6 : decode cX4_carry 6 = .ok (.aload_n 0, 1) := by decide +kernel
theorem dX4_carry_7 : decode cX4_carry 7 = .ok (.iload_n 1, 1) := by decide +kernel
theorem dX4_carry_8 : decode cX4_carry 8 = .ok (.invokevirtual 126, 3) := by decide +kernel
theorem dX4_carry_11 : decode cX4_carry 11 = .ok (.astore 4, 2) := by decide +kernel
theorem dX4_carry_13 : decode cX4_carry 13 = .ok (.aload 4, 2) := by decide +kernel
theorem dX4_carry_15 : decode cX4_carry 15 = .ok (.aload_n 3, 1) := by decide +kernel
theorem dX4_carry_16 : decode cX4_carry 16 = .ok (.if_acmp .eq 16, 3) := by decide +kernel
theorem dX4_carry_19 : decode cX4_carry 19 = .ok (.aload_n 3, 1) := by decide +kernel
theorem dX4_carry_20 : decode cX4_carry 20 = .ok (.getfield 129, 3) := by decide +kernel
theorem dX4_carry_23 : decode cX4_carry 23 = .ok (.bipush 6, 2) := by decide +kernel
theorem dX4_carry_25 : decode cX4_carry 25 = .ok (.if_icmp .ge 7, 3) := by decide +kernel
theorem dX4_carry_28 : decode cX4_carry 28 = .ok (.iconst 1, 1) := by decide +kernel
theorem dX4_carry_29 : decode cX4_carry 29 = .ok (.goto 4, 3) := by decide +kernel
theorem dX4_carry_32 : decode cX4_carry 32 = .ok (.iconst 0, 1) := by decide +kernel
theorem dX4_carry_33 : decode cX4_carry 33 = .ok (.invokestatic 61, 3) := by decide +kernel
theorem dX4_carry_36 : decode cX4_carry 36 = .ok (.aload_n 0, 1) := by decide +kernel
theorem dX4_carry_37 : decode cX4_carry 37 = .ok (.getfield 29, 3) := by decide +kernel
theorem dX4_carry_40 : decode cX4_carry 40 = .ok (.aload_n 0, 1) := by decide +kernel
theorem dX4_carry_41 : decode cX4_carry 41 = .ok (.getfield 10, 3) := by decide +kernel
theorem dX4_carry_44 : decode cX4_carry 44 = .ok (.invokevirtual 65, 3) := by decide +kernel
theorem dX4_carry_47 : decode cX4_carry 47 = .ok (.aload 4, 2) := by decide +kernel
theorem dX4_carry_49 : decode cX4_carry 49 = .ok (.iload_n 1, 1) := by decide +kernel
theorem dX4_carry_50 : decode cX4_carry 50 = .ok (.invokevirtual 132, 3) := by decide +kernel
theorem dX4_carry_53 : decode cX4_carry 53 = .ok (.istore 5, 2) := by decide +kernel
theorem dX4_carry_55 : decode cX4_carry 55 = .ok (.aload_n 3, 1) := by decide +kernel
theorem dX4_carry_56 : decode cX4_carry 56 = .ok (.iload_n 1, 1) := by decide +kernel
theorem dX4_carry_57 : decode cX4_carry 57 = .ok (.aload 4, 2) := by decide +kernel
theorem dX4_carry_59 : decode cX4_carry 59 = .ok (.iload 5, 2) := by decide +kernel
theorem dX4_carry_61 : decode cX4_carry 61 = .ok (.invokevirtual 135, 3) := by decide +kernel
theorem dX4_carry_64 : decode cX4_carry 64 = .ok (.aload 4, 2) := by decide +kernel
theorem dX4_carry_66 : decode cX4_carry 66 = .ok (.iload 5, 2) := by decide +kernel
theorem dX4_carry_68 : decode cX4_carry 68 = .ok (.invokevirtual 138, 3) := by decide +kernel
theorem dX4_carry_71 : decode cX4_carry 71 = .ok (.aload 4, 2) := by decide +kernel
theorem dX4_carry_73 : decode cX4_carry 73 = .ok (.iload 5, 2) := by decide +kernel
theorem dX4_carry_75 : decode cX4_carry 75 = .ok (.invokevirtual 141, 3) := by decide +kernel
theorem dX4_carry_78 : decode cX4_carry 78 = .ok (.invokevirtual 144, 3) := by decide +kernel
theorem dX4_carry_81 : decode cX4_carry 81 = .ok (.istore 6, 2) := by decide +kernel
theorem dX4_carry_83 : decode cX4_carry 83 = .ok (.aload 4, 2) := by decide +kernel
theorem dX4_carry_85 : decode cX4_carry 85 = .ok (.iload 5, 2) := by decide +kernel
theorem dX4_carry_87 : decode cX4_carry 87 = .ok (.invokevirtual 148, 3) := by decide +kernel
theorem dX4_carry_90 : decode cX4_carry 90 = .ok (.iload 6, 2) := by decide +kernel
theorem dX4_carry_92 : decode cX4_carry 92 = .ok (.ireturn, 1) := by decide +kernel
theorem dX4_back_0 : decode cX4_back 0 = .ok (.aload_n 0, 1) := by decide +kernel
theorem dX4_back_1 : decode cX4_back 1 = .ok (.iload_n 1, 1) := by decide +kernel
theorem dX4_back_2 : decode cX4_back 2 = .ok (.invokevirtual 126, 3) := by decide +kernel
theorem dX4_back_5 : decode cX4_back 5 = .ok (.astore_n 2, 1) := by decide +kernel
theorem dX4_back_6 : decode cX4_back 6 = .ok (.aload_n 0, 1) := by decide +kernel
theorem dX4_back_7 : decode cX4_back 7 = .ok (.getfield 29, 3) := by decide +kernel
theorem dX4_back_10 : decode cX4_back 10 = .ok (.aload_n 0, 1) := by decide +kernel
theorem dX4_back_11 : decode cX4_back 11 = .ok (.getfield 10, 3) := by decide +kernel
theorem dX4_back_14 : decode cX4_back 14 = .ok (.invokevirtual 65, 3) := by decide +kernel
theorem dX4_back_17 : decode cX4_back 17 = .ok (.aload_n 2, 1) := by decide +kernel
theorem dX4_back_18 : decode cX4_back 18 = .ok (.iload_n 1, 1) := by decide +kernel
theorem dX4_back_19 : decode cX4_back 19 = .ok (.invokevirtual 132, 3) := by decide +kernel
theorem dX4_back_22 : decode cX4_back 22 = .ok (.istore_n 3, 1) := by decide +kernel
theorem dX4_back_23 : decode cX4_back 23 = .ok (.aload_n 2, 1) := by decide +kernel
theorem dX4_back_24 : decode cX4_back 24 = .ok (.iload_n 3, 1) := by decide +kernel
theorem dX4_back_25 : decode cX4_back 25 = .ok (.invokevirtual 138, 3) := by decide +kernel
theorem dX4_back_28 : decode cX4_back 28 = .ok (.istore 4, 2) := by decide +kernel
theorem dX4_back_30 : decode cX4_back 30 = .ok (.aload_n 2, 1) := by decide +kernel
theorem dX4_back_31 : decode cX4_back 31 = .ok (.iload_n 3, 1) := by decide +kernel
theorem dX4_back_32 : decode cX4_back 32 = .ok (.invokevirtual 148, 3) := by decide +kernel
theorem dX4_back_35 : decode cX4_back 35 = .ok (.aload_n 0, 1) := by decide +kernel
theorem dX4_back_36 : decode cX4_back 36 = .ok (.getfield 10, 3) := by decide +kernel
theorem dX4_back_39 : decode cX4_back 39 = .ok (.dup, 1) := by decide +kernel
theorem dX4_back_40 : decode cX4_back 40 = .ok (.getfield 151, 3) := by decide +kernel
theorem dX4_back_43 : decode cX4_back 43 = .ok (.iconst 1, 1) := by decide +kernel
theorem dX4_back_44 : decode cX4_back 44 = .ok (.iadd, 1) := by decide +kernel
theorem dX4_back_45 : decode cX4_back 45 = .ok (.putfield 151, 3) := by decide +kernel
theorem dX4_back_48 : decode cX4_back 48 = .ok (.iload 4, 2) := by decide +kernel
theorem dX4_back_50 : decode cX4_back 50 = .ok (.ireturn, 1) := by decide +kernel
theorem dX4_undo_0 : decode cX4_undo 0 = .ok (.aload_n 0, 1) := by decide +kernel
theorem dX4_undo_1 : decode cX4_undo 1 = .ok (.getfield 29, 3) := by decide +kernel
theorem dX4_undo_4 : decode cX4_undo 4 = .ok (.getfield 175, 3) := by decide +kernel
theorem dX4_undo_7 : decode cX4_undo 7 = .ok (.ifCond .le 7, 3) := by decide +kernel
theorem dX4_undo_10 : decode cX4_undo 10 = .ok (.iconst 1, 1) := by decide +kernel
theorem dX4_undo_11 : decode cX4_undo 11 = .ok (.goto 4, 3) := by decide +kernel
theorem dX4_undo_14 : decode cX4_undo 14 = .ok (.iconst 0, 1) := by decide +kernel
theorem dX4_undo_15 : decode cX4_undo 15 = .ok (.invokestatic 61, 3) := by decide +kernel
theorem dX4_undo_18 : decode cX4_undo 18 = .ok (.aload_n 0, 1) := by decide +kernel
theorem dX4_undo_19 : decode cX4_undo 19 = .ok (.getfield 29, 3) := by decide +kernel
theorem dX4_undo_22 : decode cX4_undo 22 = .ok (.aload_n 0, 1) := by decide +kernel
theorem dX4_undo_23 : decode cX4_undo 23 = .ok (.getfield 10, 3) := by decide +kernel
theorem dX4_undo_26 : decode cX4_undo 26 = .ok (.invokevirtual 178, 3) := by decide +kernel
theorem dX4_undo_29 : decode cX4_undo 29 = .ok (.aload_n 0, 1) := by decide +kernel
theorem dX4_undo_30 : decode cX4_undo 30 = .ok (.getfield 29, 3) := by decide +kernel
theorem dX4_undo_33 : decode cX4_undo 33 = .ok (.getfield 175, 3) := by decide +kernel
theorem dX4_undo_36 : decode cX4_undo 36 = .ok (.ireturn, 1) := by decide +kernel
theorem dX4_keep_0 : decode cX4_keep 0 = .ok (.aload_n 0, 1) := by decide +kernel
theorem dX4_keep_1 : decode cX4_keep 1 = .ok (.getfield 19, 3) := by decide +kernel
theorem dX4_keep_4 : decode cX4_keep 4 = .ok (.aload_n 0, 1) := by decide +kernel
theorem dX4_keep_5 : decode cX4_keep 5 = .ok (.getfield 10, 3) := by decide +kernel
theorem dX4_keep_8 : decode cX4_keep 8 = .ok (.invokevirtual 181, 3) := by decide +kernel
theorem dX4_keep_11 : decode cX4_keep 11 = .ok (.aload_n 0, 1) := by decide +kernel
theorem dX4_keep_12 : decode cX4_keep 12 = .ok (.iconst 1, 1) := by decide +kernel
theorem dX4_keep_13 : decode cX4_keep 13 = .ok (.putfield 22, 3) := by decide +kernel
theorem dX4_keep_16 : decode cX4_keep 16 = .ok (.aload_n 0, 1) := by decide +kernel
theorem dX4_keep_17 : decode cX4_keep 17 = .ok (.getfield 10, 3) := by decide +kernel
theorem dX4_keep_20 : decode cX4_keep 20 = .ok (.getfield 184, 3) := by decide +kernel
theorem dX4_keep_23 : decode cX4_keep 23 = .ok (.ireturn, 1) := by decide +kernel
theorem dX4_restore_0 : decode cX4_restore 0 = .ok (.aload_n 0, 1) := by decide +kernel
theorem dX4_restore_1 : decode cX4_restore 1 = .ok (.getfield 22, 3) := by decide +kernel
theorem dX4_restore_4 : decode cX4_restore 4 = .ok (.invokestatic 61, 3) := by decide +kernel
theorem dX4_restore_7 : decode cX4_restore 7 = .ok (.aload_n 0, 1) := by decide +kernel
theorem dX4_restore_8 : decode cX4_restore 8 = .ok (.getfield 29, 3) := by decide +kernel
theorem dX4_restore_11 : decode cX4_restore 11 = .ok (.aload_n 0, 1) := by decide +kernel
theorem dX4_restore_12 : decode cX4_restore 12 = .ok (.getfield 10, 3) := by decide +kernel
theorem dX4_restore_15 : decode cX4_restore 15 = .ok (.invokevirtual 65, 3) := by decide +kernel
theorem dX4_restore_18 : decode cX4_restore 18 = .ok (.aload_n 0, 1) := by decide +kernel
theorem dX4_restore_19 : decode cX4_restore 19 = .ok (.getfield 10, 3) := by decide +kernel
theorem dX4_restore_22 : decode cX4_restore 22 = .ok (.aload_n 0, 1) := by decide +kernel
theorem dX4_restore_23 : decode cX4_restore 23 = .ok (.getfield 19, 3) := by decide +kernel
theorem dX4_restore_26 : decode cX4_restore 26 = .ok (.invokevirtual 181, 3) := by decide +kernel
theorem dX4_restore_29 : decode cX4_restore 29 = .ok (.aload_n 0, 1) := by decide +kernel
theorem dX4_restore_30 : decode cX4_restore 30 = .ok (.getfield 10, 3) := by decide +kernel
theorem dX4_restore_33 : decode cX4_restore 33 = .ok (.getfield 184, 3) := by decide +kernel
theorem dX4_restore_36 : decode cX4_restore 36 = .ok (.ireturn, 1) := by decide +kernel
theorem dX4_mill_0 : decode cX4_mill 0 = .ok (.aload_n 0, 1) := by decide +kernel
theorem dX4_mill_1 : decode cX4_mill 1 = .ok (.iload_n 1, 1) := by decide +kernel
theorem dX4_mill_2 : decode cX4_mill 2 = .ok (.invokevirtual 48, 3) := by decide +kernel
theorem dX4_mill_5 : decode cX4_mill 5 = .ok (.astore_n 3, 1) := by decide +kernel
theorem dX4_mill_6 : decode cX4_mill 6 = .ok (.iload_n 2, 1) := by decide +kernel
theorem dX4_mill_7 : decode cX4_mill 7 = .ok (.iconst 0, 1) := by decide +kernel
theorem dX4_mill_8 : decode cX4_mill 8 = .ok (.bipush 10, 2) := by decide +kernel
theorem dX4_mill_10 : decode cX4_mill 10 = .ok (.invokestatic 52, 3) := by decide +kernel
theorem dX4_mill_13 : decode cX4_mill 13 = .ok (.aload_n 0, 1) := by decide +kernel
theorem dX4_mill_14 : decode cX4_mill 14 = .ok (.aload_n 3, 1) := by decide +kernel
theorem dX4_mill_15 : decode cX4_mill 15 = .ok (.iload_n 2, 1) := by decide +kernel
theorem dX4_mill_16 : decode cX4_mill 16 = .ok (.invokevirtual 187, 3) := by decide +kernel
theorem dX4_mill_19 : decode cX4_mill 19 = .ok (.ireturn, 1) := by decide +kernel
theorem dX4_sackAt_0 : decode cX4_sackAt 0 = .ok (.aload_n 0, 1) := by decide +kernel
theorem dX4_sackAt_1 : decode cX4_sackAt 1 = .ok (.iload_n 1, 1) := by decide +kernel
theorem dX4_sackAt_2 : decode cX4_sackAt 2 = .ok (.invokevirtual 48, 3) := by decide +kernel
theorem dX4_sackAt_5 : decode cX4_sackAt 5 = .ok (.astore_n 3, 1) := by decide +kernel
theorem dX4_sackAt_6 : decode cX4_sackAt 6 = .ok (.iload_n 2, 1) := by decide +kernel
theorem dX4_sackAt_7 : decode cX4_sackAt 7 = .ok (.invokestatic 191, 3) := by decide +kernel
theorem dX4_sackAt_10 : decode cX4_sackAt 10 = .ok (.aload_n 3, 1) := by decide +kernel
theorem dX4_sackAt_11 : decode cX4_sackAt 11 = .ok (.iload_n 2, 1) := by decide +kernel
theorem dX4_sackAt_12 : decode cX4_sackAt 12 = .ok (.invokevirtual 194, 3) := by decide +kernel
theorem dX4_sackAt_15 : decode cX4_sackAt 15 = .ok (.ireturn, 1) := by decide +kernel
theorem dX4_sackOf_0 : decode cX4_sackOf 0 = .ok (.iload_n 2, 1) := by decide +kernel
theorem dX4_sackOf_1 : decode cX4_sackOf 1 = .ok (.iconst 0, 1) := by decide +kernel
theorem dX4_sackOf_2 : decode cX4_sackOf 2 = .ok (.iconst 4, 1) := by decide +kernel
theorem dX4_sackOf_3 : decode cX4_sackOf 3 = .ok (.invokestatic 52, 3) := by decide +kernel
theorem dX4_sackOf_6 : decode cX4_sackOf 6 = .ok (.aload_n 0, 1) := by decide +kernel
theorem dX4_sackOf_7 : decode cX4_sackOf 7 = .ok (.getfield 10, 3) := by decide +kernel
theorem dX4_sackOf_10 : decode cX4_sackOf 10 = .ok (.iload_n 1, 1) := by decide +kernel
theorem dX4_sackOf_11 : decode cX4_sackOf 11 = .ok (.invokevirtual 197, 3) := by decide +kernel
theorem dX4_sackOf_14 : decode cX4_sackOf 14 = .ok (.astore_n 3, 1) := by decide +kernel
theorem dX4_sackOf_15 : decode cX4_sackOf 15 = .ok (.aload_n 3, 1) := by decide +kernel
theorem dX4_sackOf_16 : decode cX4_sackOf 16 = .ok (.ifnonnull 7, 3) := by decide +kernel
theorem dX4_sackOf_19 : decode cX4_sackOf 19 = .ok (.iconst (-1), 1) := by decide +kernel
theorem dX4_sackOf_20 : decode cX4_sackOf 20 = .ok (.goto 13, 3) := by decide +kernel
theorem dX4_sackOf_23 : decode cX4_sackOf 23 = .ok (.aload_n 3, 1) := by decide +kernel
theorem dX4_sackOf_24 : decode cX4_sackOf 24 = .ok (.aload_n 3, 1) := by decide +kernel
theorem dX4_sackOf_25 : decode cX4_sackOf 25 = .ok (.iload_n 1, 1) := by decide +kernel
theorem dX4_sackOf_26 : decode cX4_sackOf 26 = .ok (.invokevirtual 132, 3) := by decide +kernel
theorem dX4_sackOf_29 : decode cX4_sackOf 29 = .ok (.iload_n 2, 1) := by decide +kernel
theorem dX4_sackOf_30 : decode cX4_sackOf 30 = .ok (.invokestatic 200, 3) := by decide +kernel
theorem dX4_sackOf_33 : decode cX4_sackOf 33 = .ok (.ireturn, 1) := by decide +kernel
theorem dX4_whyNot_0 : decode cX4_whyNot 0 = .ok (.aload_n 0, 1) := by decide +kernel
theorem dX4_whyNot_1 : decode cX4_whyNot 1 = .ok (.getfield 10, 3) := by decide +kernel
theorem dX4_whyNot_4 : decode cX4_whyNot 4 = .ok (.aload_n 0, 1) := by decide +kernel
theorem dX4_whyNot_5 : decode cX4_whyNot 5 = .ok (.iload_n 1, 1) := by decide +kernel
theorem dX4_whyNot_6 : decode cX4_whyNot 6 = .ok (.invokevirtual 48, 3) := by decide +kernel
theorem dX4_whyNot_9 : decode cX4_whyNot 9 = .ok (.invokevirtual 203, 3) := by decide +kernel
theorem dX4_whyNot_12 : decode cX4_whyNot 12 = .ok (.ireturn, 1) := by decide +kernel
theorem dX4_tide_0 : decode cX4_tide 0 = .ok (.iload_n 1, 1) := by decide +kernel
theorem dX4_tide_1 : decode cX4_tide 1 = .ok (.invokestatic 191, 3) := by decide +kernel
theorem dX4_tide_4 : decode cX4_tide 4 = .ok (.aload_n 0, 1) := by decide +kernel
theorem dX4_tide_5 : decode cX4_tide 5 = .ok (.getfield 10, 3) := by decide +kernel
theorem dX4_tide_8 : decode cX4_tide 8 = .ok (.iload_n 1, 1) := by decide +kernel
theorem dX4_tide_9 : decode cX4_tide 9 = .ok (.invokevirtual 207, 3) := by decide +kernel
theorem dX4_tide_12 : decode cX4_tide 12 = .ok (.ireturn, 1) := by decide +kernel
theorem dX4_count_0 : decode cX4_count 0 = .ok (.iload_n 1, 1) := by decide +kernel
theorem dX4_count_1 : decode cX4_count 1 = .ok (.iconst 0, 1) := by decide +kernel
theorem dX4_count_2 : decode cX4_count 2 = .ok (.bipush 14, 2) := by decide +kernel
theorem dX4_count_4 : decode cX4_count 4 = .ok (.invokestatic 52, 3) := by decide +kernel
theorem dX4_count_7 : decode cX4_count 7 = .ok (.aload_n 0, 1) := by decide +kernel
theorem dX4_count_8 : decode cX4_count 8 = .ok (.iload_n 1, 1) := by decide +kernel
theorem dX4_count_9 : decode cX4_count 9 = .ok (.invokevirtual 210, 3) := by decide +kernel
theorem dX4_count_12 : decode cX4_count 12 = .ok (.ireturn, 1) := by decide +kernel
theorem dX4_next_0 : decode cX4_next 0 = .ok (.iload_n 1, 1) := by decide +kernel
theorem dX4_next_1 : decode cX4_next 1 = .ok (.invokestatic 191, 3) := by decide +kernel
theorem dX4_next_4 : decode cX4_next 4 = .ok (.aload_n 0, 1) := by decide +kernel
theorem dX4_next_5 : decode cX4_next 5 = .ok (.iload_n 1, 1) := by decide +kernel
theorem dX4_next_6 : decode cX4_next 6 = .ok (.invokevirtual 213, 3) := by decide +kernel
theorem dX4_next_9 : decode cX4_next 9 = .ok (.ireturn, 1) := by decide +kernel
theorem dX4_chosen_0 : decode cX4_chosen 0 = .ok (.aload_n 0, 1) := by decide +kernel
theorem dX4_chosen_1 : decode cX4_chosen 1 = .ok (.getfield 10, 3) := by decide +kernel
theorem dX4_chosen_4 : decode cX4_chosen 4 = .ok (.invokevirtual 216, 3) := by decide +kernel
theorem dX4_chosen_7 : decode cX4_chosen 7 = .ok (.invokestatic 220, 3) := by decide +kernel
theorem dX4_chosen_10 : decode cX4_chosen 10 = .ok (.ireturn, 1) := by decide +kernel
theorem dX4_ifPassed_0 : decode cX4_ifPassed 0 = .ok (.iload_n 1, 1) := by decide +kernel
theorem dX4_ifPassed_1 : decode cX4_ifPassed 1 = .ok (.iconst 1, 1) := by decide +kernel
theorem dX4_ifPassed_2 : decode cX4_ifPassed 2 = .ok (.bipush 48, 2) := by decide +kernel
theorem dX4_ifPassed_4 : decode cX4_ifPassed 4 = .ok (.invokestatic 52, 3) := by decide +kernel
theorem dX4_ifPassed_7 : decode cX4_ifPassed 7 = .ok (.iload_n 2, 1) := by decide +kernel
theorem dX4_ifPassed_8 : decode cX4_ifPassed 8 = .ok (.iconst 0, 1) := by decide +kernel
theorem dX4_ifPassed_9 : decode cX4_ifPassed 9 = .ok (.iconst 3, 1) := by decide +kernel
theorem dX4_ifPassed_10 : decode cX4_ifPassed 10 = .ok (.invokestatic 52, 3) := by decide +kernel
theorem dX4_ifPassed_13 : decode cX4_ifPassed 13 = .ok (.aload_n 0, 1) := by decide +kernel
theorem dX4_ifPassed_14 : decode cX4_ifPassed 14 = .ok (.iload_n 1, 1) := by decide +kernel
theorem dX4_ifPassed_15 : decode cX4_ifPassed 15 = .ok (.iload_n 2, 1) := by decide +kernel
theorem dX4_ifPassed_16 : decode cX4_ifPassed 16 = .ok (.invokevirtual 223, 3) := by decide +kernel
theorem dX4_ifPassed_19 : decode cX4_ifPassed 19 = .ok (.ireturn, 1) := by decide +kernel
theorem dX4_groundIn_0 : decode cX4_groundIn 0 = .ok (.aload_n 0, 1) := by decide +kernel
theorem dX4_groundIn_1 : decode cX4_groundIn 1 = .ok (.iload_n 1, 1) := by decide +kernel
theorem dX4_groundIn_2 : decode cX4_groundIn 2 = .ok (.invokevirtual 227, 3) := by decide +kernel
theorem dX4_groundIn_5 : decode cX4_groundIn 5 = .ok (.ireturn, 1) := by decide +kernel
theorem dX4_bestStone_0 : decode cX4_bestStone 0 = .ok (.aload_n 0, 1) := by decide +kernel
theorem dX4_bestStone_1 : decode cX4_bestStone 1 = .ok (.aload_n 0, 1) := by decide +kernel
theorem dX4_bestStone_2 : decode cX4_bestStone 2 = .ok (.iload_n 1, 1) := by decide +kernel
theorem dX4_bestStone_3 : decode cX4_bestStone 3 = .ok (.invokevirtual 48, 3) := by decide +kernel
theorem dX4_bestStone_6 : decode cX4_bestStone 6 = .ok (.invokevirtual 230, 3) := by decide +kernel
theorem dX4_bestStone_9 : decode cX4_bestStone 9 = .ok (.ireturn, 1) := by decide +kernel
theorem dX4_inTime_0 : decode cX4_inTime 0 = .ok (.aload_n 0, 1) := by decide +kernel
theorem dX4_inTime_1 : decode cX4_inTime 1 = .ok (.invokevirtual 233, 3) := by decide +kernel
theorem dX4_inTime_4 : decode cX4_inTime 4 = .ok (.dreturn, 1) := by decide +kernel
theorem dX4_millOrThrow_0 : decode cX4_millOrThrow 0 = .ok (.aload_n 0, 1) := by decide +kernel
theorem dX4_millOrThrow_1 : decode cX4_millOrThrow 1 = .ok (.getfield 10, 3) := by decide +kernel
theorem dX4_millOrThrow_4 : decode cX4_millOrThrow 4 = .ok (.iload_n 1, 1) := by decide +kernel
theorem dX4_millOrThrow_5 : decode cX4_millOrThrow 5 = .ok (.invokevirtual 256, 3) := by decide +kernel
theorem dX4_millOrThrow_8 : decode cX4_millOrThrow 8 = .ok (.astore_n 2, 1) := by decide +kernel
theorem dX4_millOrThrow_9 : decode cX4_millOrThrow 9 = .ok (.aload_n 2, 1) := by decide +kernel
theorem dX4_millOrThrow_10 : decode cX4_millOrThrow 10 = .ok (.ifnonnull 14, 3) := by decide +kernel
theorem dX4_millOrThrow_13 : decode cX4_millOrThrow 13 = .ok (.new 91, 3) := by decide +kernel
theorem dX4_millOrThrow_16 : decode cX4_millOrThrow 16 = .ok (.dup, 1) := by decide +kernel
theorem dX4_millOrThrow_17 : decode cX4_millOrThrow 17 = .ok (.ldc_w 259, 3) := by decide +kernel
theorem dX4_millOrThrow_20 : decode cX4_millOrThrow 20 = .ok (.invokespecial 95, 3) := by decide +kernel
theorem dX4_millOrThrow_23 : decode cX4_millOrThrow 23 = .ok (.athrow, 1) := by decide +kernel
theorem dX4_millOrThrow_24 : decode cX4_millOrThrow 24 = .ok (.aload_n 2, 1) := by decide +kernel
theorem dX4_millOrThrow_25 : decode cX4_millOrThrow 25 = .ok (.areturn, 1) := by decide +kernel
theorem dX4_millOfSackOrThrow_0 : decode cX4_millOfSackOrThrow 0 = .ok (.aload_n 0, 1) := by decide +kernel
theorem dX4_millOfSackOrThrow_1 : decode cX4_millOfSackOrThrow 1 = .ok (.getfield 10, 3) := by decide +kernel
theorem dX4_millOfSackOrThrow_4 : decode cX4_millOfSackOrThrow 4 = .ok (.iload_n 1, 1) := by decide +kernel
theorem dX4_millOfSackOrThrow_5 : decode cX4_millOfSackOrThrow 5 = .ok (.invokevirtual 197, 3) := by decide +kernel
theorem dX4_millOfSackOrThrow_8 : decode cX4_millOfSackOrThrow 8 = .ok (.astore_n 2, 1) := by decide +kernel
theorem dX4_millOfSackOrThrow_9 : decode cX4_millOfSackOrThrow 9 = .ok (.aload_n 2, 1) := by decide +kernel
theorem dX4_millOfSackOrThrow_10 : decode cX4_millOfSackOrThrow 10 = .ok (.ifnonnull 14, 3) := by decide +kernel
theorem dX4_millOfSackOrThrow_13 : decode cX4_millOfSackOrThrow 13 = .ok (.new 154, 3) := by decide +kernel
theorem dX4_millOfSackOrThrow_16 : decode cX4_millOfSackOrThrow 16 = .ok (.dup, 1) := by decide +kernel
theorem dX4_millOfSackOrThrow_17 : decode cX4_millOfSackOrThrow 17 = .ok (.ldc_w 261, 3) := by decide +kernel
theorem dX4_millOfSackOrThrow_20 : decode cX4_millOfSackOrThrow 20 = .ok (.invokespecial 158, 3) := by decide +kernel
theorem dX4_millOfSackOrThrow_23 : decode cX4_millOfSackOrThrow 23 = .ok (.athrow, 1) := by decide +kernel
theorem dX4_millOfSackOrThrow_24 : decode cX4_millOfSackOrThrow 24 = .ok (.aload_n 2, 1) := by decide +kernel
theorem dX4_millOfSackOrThrow_25 : decode cX4_millOfSackOrThrow 25 = .ok (.areturn, 1) := by decide +kernel
theorem dX4_requireRange_0 : decode cX4_requireRange 0 = .ok (.iload_n 0, 1) := by decide +kernel
theorem dX4_requireRange_1 : decode cX4_requireRange 1 = .ok (.iload_n 1, 1) := by decide +kernel
theorem dX4_requireRange_2 : decode cX4_requireRange 2 = .ok (.if_icmp .lt 8, 3) := by decide +kernel
theorem dX4_requireRange_5 : decode cX4_requireRange 5 = .ok (.iload_n 0, 1) := by decide +kernel
theorem dX4_requireRange_6 : decode cX4_requireRange 6 = .ok (.iload_n 2, 1) := by decide +kernel
theorem dX4_requireRange_7 : decode cX4_requireRange 7 = .ok (.if_icmp .le 14, 3) := by decide +kernel
theorem dX4_requireRange_10 : decode cX4_requireRange 10 = .ok (.new 167, 3) := by decide +kernel
theorem dX4_requireRange_13 : decode cX4_requireRange 13 = .ok (.dup, 1) := by decide +kernel
theorem dX4_requireRange_14 : decode cX4_requireRange 14 = .ok (.ldc_w 263, 3) := by decide +kernel
theorem dX4_requireRange_17 : decode cX4_requireRange 17 = .ok (.invokespecial 171, 3) := by decide +kernel
theorem dX4_requireRange_20 : decode cX4_requireRange 20 = .ok (.athrow, 1) := by decide +kernel
theorem dX4_requireRange_21 : decode cX4_requireRange 21 = .ok (.return_, 1) := by decide +kernel
theorem dX4_requireNotBelowZero_0 : decode cX4_requireNotBelowZero 0 = .ok (.iload_n 0, 1) := by decide +kernel
theorem dX4_requireNotBelowZero_1 : decode cX4_requireNotBelowZero 1 = .ok (.ifCond .ge 14, 3) := by decide +kernel
theorem dX4_requireNotBelowZero_4 : decode cX4_requireNotBelowZero 4 = .ok (.new 167, 3) := by decide +kernel
theorem dX4_requireNotBelowZero_7 : decode cX4_requireNotBelowZero 7 = .ok (.dup, 1) := by decide +kernel
theorem dX4_requireNotBelowZero_8 : decode cX4_requireNotBelowZero 8 = .ok (.ldc_w 265, 3) := by decide +kernel
theorem dX4_requireNotBelowZero_11 : decode cX4_requireNotBelowZero 11 = .ok (.invokespecial 171, 3) := by decide +kernel
theorem dX4_requireNotBelowZero_14 : decode cX4_requireNotBelowZero 14 = .ok (.athrow, 1) := by decide +kernel
theorem dX4_requireNotBelowZero_15 : decode cX4_requireNotBelowZero 15 = .ok (.return_, 1) := by decide +kernel
theorem dX4_requireState_0 : decode cX4_requireState 0 = .ok (.iload_n 0, 1) := by decide +kernel
theorem dX4_requireState_1 : decode cX4_requireState 1 = .ok (.ifCond .ne 14, 3) := by decide +kernel
theorem dX4_requireState_4 : decode cX4_requireState 4 = .ok (.new 154, 3) := by decide +kernel
theorem dX4_requireState_7 : decode cX4_requireState 7 = .ok (.dup, 1) := by decide +kernel
theorem dX4_requireState_8 : decode cX4_requireState 8 = .ok (.ldc_w 267, 3) := by decide +kernel
theorem dX4_requireState_11 : decode cX4_requireState 11 = .ok (.invokespecial 158, 3) := by decide +kernel
theorem dX4_requireState_14 : decode cX4_requireState 14 = .ok (.athrow, 1) := by decide +kernel
theorem dX4_requireState_15 : decode cX4_requireState 15 = .ok (.return_, 1) := by decide +kernel
theorem dX4_leastOfSetting_0 : decode cX4_leastOfSetting 0 = .ok (.iload_n 0, 1) := by decide +kernel
theorem dX4_leastOfSetting_1 : decode cX4_leastOfSetting 1 = .ok (.lookupswitch 31 #[(0, 27), (1, 29)], 27) := by decide +kernel
theorem dX4_leastOfSetting_28 : decode cX4_leastOfSetting 28 = .ok (.iconst 1, 1) := by decide +kernel
theorem dX4_leastOfSetting_29 : decode cX4_leastOfSetting 29 = .ok (.ireturn, 1) := by decide +kernel
theorem dX4_leastOfSetting_30 : decode cX4_leastOfSetting 30 = .ok (.iconst 0, 1) := by decide +kernel
theorem dX4_leastOfSetting_31 : decode cX4_leastOfSetting 31 = .ok (.ireturn, 1) := by decide +kernel
theorem dX4_leastOfSetting_32 : decode cX4_leastOfSetting 32 = .ok (.iconst 5, 1) := by decide +kernel
theorem dX4_leastOfSetting_33 : decode cX4_leastOfSetting 33 = .ok (.ireturn, 1) := by decide +kernel
theorem dX4_mostOfSetting_0 : decode cX4_mostOfSetting 0 = .ok (.iload_n 0, 1) := by decide +kernel
theorem dX4_mostOfSetting_1 : decode cX4_mostOfSetting 1 = .ok (.ifCond .ne 8, 3) := by decide +kernel
theorem dX4_mostOfSetting_4 : decode cX4_mostOfSetting 4 = .ok (.bipush 15, 2) := by decide +kernel
theorem dX4_mostOfSetting_6 : decode cX4_mostOfSetting 6 = .ok (.goto 5, 3) := by decide +kernel
theorem dX4_mostOfSetting_9 : decode cX4_mostOfSetting 9 = .ok (.bipush 100, 2) := by decide +kernel
theorem dX4_mostOfSetting_11 : decode cX4_mostOfSetting 11 = .ok (.ireturn, 1) := by decide +kernel
