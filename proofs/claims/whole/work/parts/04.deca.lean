theorem dX0_init_0 : decode cX0_init 0 = .ok (.aload_n 0, 1) := by decide +kernel
theorem dX0_init_1 : decode cX0_init 1 = .ok (.invokespecial 3, 3) := by decide +kernel
theorem dX0_init_4 : decode cX0_init 4 = .ok (.aload_n 0, 1) := by decide +kernel
theorem dX0_init_5 : decode cX0_init 5 = .ok (.bipush 10, 2) := by decide +kernel
theorem dX0_init_7 : decode cX0_init 7 = .ok (.putfield 9, 3) := by decide +kernel
theorem dX0_init_10 : decode cX0_init 10 = .ok (.aload_n 0, 1) := by decide +kernel
theorem dX0_init_11 : decode cX0_init 11 = .ok (.bipush 20, 2) := by decide +kernel
theorem dX0_init_13 : decode cX0_init 13 = .ok (.putfield 15, 3) := by decide +kernel
theorem dX0_init_16 : decode cX0_init 16 = .ok (.aload_n 0, 1) := by decide +kernel
theorem dX0_init_17 : decode cX0_init 17 = .ok (.bipush 20, 2) := by decide +kernel
theorem dX0_init_19 : decode cX0_init 19 = .ok (.putfield 18, 3) := by decide +kernel
theorem dX0_init_22 : decode cX0_init 22 = .ok (.aload_n 0, 1) := by decide +kernel
theorem dX0_init_23 : decode cX0_init 23 = .ok (.iconst 0, 1) := by decide +kernel
theorem dX0_init_24 : decode cX0_init 24 = .ok (.putfield 21, 3) := by decide +kernel
theorem dX0_init_27 : decode cX0_init 27 = .ok (.aload_n 0, 1) := by decide +kernel
theorem dX0_init_28 : decode cX0_init 28 = .ok (.iconst (-1), 1) := by decide +kernel
theorem dX0_init_29 : decode cX0_init 29 = .ok (.putfield 24, 3) := by decide +kernel
theorem dX0_init_32 : decode cX0_init 32 = .ok (.aload_n 0, 1) := by decide +kernel
theorem dX0_init_33 : decode cX0_init 33 = .ok (.iconst 0, 1) := by decide +kernel
theorem dX0_init_34 : decode cX0_init 34 = .ok (.putfield 27, 3) := by decide +kernel
theorem dX0_init_37 : decode cX0_init 37 = .ok (.aload_n 0, 1) := by decide +kernel
theorem dX0_init_38 : decode cX0_init 38 = .ok (.iconst 0, 1) := by decide +kernel
theorem dX0_init_39 : decode cX0_init 39 = .ok (.putfield 30, 3) := by decide +kernel
theorem dX0_init_42 : decode cX0_init 42 = .ok (.aload_n 0, 1) := by decide +kernel
theorem dX0_init_43 : decode cX0_init 43 = .ok (.iconst 0, 1) := by decide +kernel
theorem dX0_init_44 : decode cX0_init 44 = .ok (.putfield 33, 3) := by decide +kernel
theorem dX0_init_47 : decode cX0_init 47 = .ok (.aload_n 0, 1) := by decide +kernel
theorem dX0_init_48 : decode cX0_init 48 = .ok (.iconst 0, 1) := by decide +kernel
theorem dX0_init_49 : decode cX0_init 49 = .ok (.putfield 36, 3) := by decide +kernel
theorem dX0_init_52 : decode cX0_init 52 = .ok (.aload_n 0, 1) := by decide +kernel
theorem dX0_init_53 : decode cX0_init 53 = .ok (.iconst 0, 1) := by decide +kernel
theorem dX0_init_54 : decode cX0_init 54 = .ok (.putfield 39, 3) := by decide +kernel
theorem dX0_init_57 : decode cX0_init 57 = .ok (.aload_n 0, 1) := by decide +kernel
theorem dX0_init_58 : decode cX0_init 58 = .ok (.iconst 0, 1) := by decide +kernel
theorem dX0_init_59 : decode cX0_init 59 = .ok (.putfield 42, 3) := by decide +kernel
theorem dX0_init_62 : decode cX0_init 62 = .ok (.aload_n 0, 1) := by decide +kernel
theorem dX0_init_63 : decode cX0_init 63 = .ok (.iconst 0, 1) := by decide +kernel
theorem dX0_init_64 : decode cX0_init 64 = .ok (.putfield 45, 3) := by decide +kernel
theorem dX0_init_67 : decode cX0_init 67 = .ok (.aconst_null, 1) := by decide +kernel
theorem dX0_init_68 : decode cX0_init 68 = .ok (.astore_n 1, 1) := by decide +kernel
theorem dX0_init_69 : decode cX0_init 69 = .ok (.iconst 4, 1) := by decide +kernel
theorem dX0_init_70 : decode cX0_init 70 = .ok (.istore_n 2, 1) := by decide +kernel
theorem dX0_init_71 : decode cX0_init 71 = .ok (.iload_n 2, 1) := by decide +kernel
theorem dX0_init_72 : decode cX0_init 72 = .ok (.ifCond .lt 19, 3) := by decide +kernel
theorem dX0_init_75 : decode cX0_init 75 = .ok (.new 48, 3) := by decide +kernel
theorem dX0_init_78 : decode cX0_init 78 = .ok (.dup, 1) := by decide +kernel
theorem dX0_init_79 : decode cX0_init 79 = .ok (.iload_n 2, 1) := by decide +kernel
theorem dX0_init_80 : decode cX0_init 80 = .ok (.aload_n 1, 1) := by decide +kernel
theorem dX0_init_81 : decode cX0_init 81 = .ok (.invokespecial 50, 3) := by decide +kernel
theorem dX0_init_84 : decode cX0_init 84 = .ok (.astore_n 1, 1) := by decide +kernel
theorem dX0_init_85 : decode cX0_init 85 = .ok (.iinc 2 (-1), 3) := by decide +kernel
theorem dX0_init_88 : decode cX0_init 88 = .ok (.goto (-17), 3) := by decide +kernel
theorem dX0_init_91 : decode cX0_init 91 = .ok (.aload_n 0, 1) := by decide +kernel
theorem dX0_init_92 : decode cX0_init 92 = .ok (.aload_n 1, 1) := by decide +kernel
theorem dX0_init_93 : decode cX0_init 93 = .ok (.putfield 53, 3) := by decide +kernel
theorem dX0_init_96 : decode cX0_init 96 = .ok (.return_, 1) := by decide +kernel
theorem dX0_copyFrom_0 : decode cX0_copyFrom 0 = .ok (.aload_n 0, 1) := by decide +kernel
theorem dX0_copyFrom_1 : decode cX0_copyFrom 1 = .ok (.aload_n 1, 1) := by decide +kernel
theorem dX0_copyFrom_2 : decode cX0_copyFrom 2 = .ok (.getfield 9, 3) := by decide +kernel
theorem dX0_copyFrom_5 : decode cX0_copyFrom 5 = .ok (.putfield 9, 3) := by decide +kernel
theorem dX0_copyFrom_8 : decode cX0_copyFrom 8 = .ok (.aload_n 0, 1) := by decide +kernel
theorem dX0_copyFrom_9 : decode cX0_copyFrom 9 = .ok (.aload_n 1, 1) := by decide +kernel
theorem dX0_copyFrom_10 : decode cX0_copyFrom 10 = .ok (.getfield 15, 3) := by decide +kernel
theorem dX0_copyFrom_13 : decode cX0_copyFrom 13 = .ok (.putfield 15, 3) := by decide +kernel
theorem dX0_copyFrom_16 : decode cX0_copyFrom 16 = .ok (.aload_n 0, 1) := by decide +kernel
theorem dX0_copyFrom_17 : decode cX0_copyFrom 17 = .ok (.aload_n 1, 1) := by decide +kernel
theorem dX0_copyFrom_18 : decode cX0_copyFrom 18 = .ok (.getfield 18, 3) := by decide +kernel
theorem dX0_copyFrom_21 : decode cX0_copyFrom 21 = .ok (.putfield 18, 3) := by decide +kernel
theorem dX0_copyFrom_24 : decode cX0_copyFrom 24 = .ok (.aload_n 0, 1) := by decide +kernel
theorem dX0_copyFrom_25 : decode cX0_copyFrom 25 = .ok (.aload_n 1, 1) := by decide +kernel
theorem dX0_copyFrom_26 : decode cX0_copyFrom 26 = .ok (.getfield 21, 3) := by decide +kernel
theorem dX0_copyFrom_29 : decode cX0_copyFrom 29 = .ok (.putfield 21, 3) := by decide +kernel
theorem dX0_copyFrom_32 : decode cX0_copyFrom 32 = .ok (.aload_n 0, 1) := by decide +kernel
theorem dX0_copyFrom_33 : decode cX0_copyFrom 33 = .ok (.aload_n 1, 1) := by decide +kernel
theorem dX0_copyFrom_34 : decode cX0_copyFrom 34 = .ok (.getfield 24, 3) := by decide +kernel
theorem dX0_copyFrom_37 : decode cX0_copyFrom 37 = .ok (.putfield 24, 3) := by decide +kernel
theorem dX0_copyFrom_40 : decode cX0_copyFrom 40 = .ok (.aload_n 0, 1) := by decide +kernel
theorem dX0_copyFrom_41 : decode cX0_copyFrom 41 = .ok (.aload_n 1, 1) := by decide +kernel
theorem dX0_copyFrom_42 : decode cX0_copyFrom 42 = .ok (.getfield 27, 3) := by decide +kernel
theorem dX0_copyFrom_45 : decode cX0_copyFrom 45 = .ok (.putfield 27, 3) := by decide +kernel
theorem dX0_copyFrom_48 : decode cX0_copyFrom 48 = .ok (.aload_n 0, 1) := by decide +kernel
theorem dX0_copyFrom_49 : decode cX0_copyFrom 49 = .ok (.aload_n 1, 1) := by decide +kernel
theorem dX0_copyFrom_50 : decode cX0_copyFrom 50 = .ok (.getfield 30, 3) := by decide +kernel
theorem dX0_copyFrom_53 : decode cX0_copyFrom 53 = .ok (.putfield 30, 3) := by decide +kernel
theorem dX0_copyFrom_56 : decode cX0_copyFrom 56 = .ok (.aload_n 0, 1) := by decide +kernel
theorem dX0_copyFrom_57 : decode cX0_copyFrom 57 = .ok (.aload_n 1, 1) := by decide +kernel
theorem dX0_copyFrom_58 : decode cX0_copyFrom 58 = .ok (.getfield 33, 3) := by decide +kernel
theorem dX0_copyFrom_61 : decode cX0_copyFrom 61 = .ok (.putfield 33, 3) := by decide +kernel
theorem dX0_copyFrom_64 : decode cX0_copyFrom 64 = .ok (.aload_n 0, 1) := by decide +kernel
theorem dX0_copyFrom_65 : decode cX0_copyFrom 65 = .ok (.aload_n 1, 1) := by decide +kernel
theorem dX0_copyFrom_66 : decode cX0_copyFrom 66 = .ok (.getfield 36, 3) := by decide +kernel
theorem dX0_copyFrom_69 : decode cX0_copyFrom 69 = .ok (.putfield 36, 3) := by decide +kernel
theorem dX0_copyFrom_72 : decode cX0_copyFrom 72 = .ok (.aload_n 0, 1) := by decide +kernel
theorem dX0_copyFrom_73 : decode cX0_copyFrom 73 = .ok (.aload_n 1, 1) := by decide +kernel
theorem dX0_copyFrom_74 : decode cX0_copyFrom 74 = .ok (.getfield 39, 3) := by decide +kernel
theorem dX0_copyFrom_77 : decode cX0_copyFrom 77 = .ok (.putfield 39, 3) := by decide +kernel
theorem dX0_copyFrom_80 : decode cX0_copyFrom 80 = .ok (.aload_n 0, 1) := by decide +kernel
theorem dX0_copyFrom_81 : decode cX0_copyFrom 81 = .ok (.aload_n 1, 1) := by decide +kernel
theorem dX0_copyFrom_82 : decode cX0_copyFrom 82 = .ok (.getfield 42, 3) := by decide +kernel
theorem dX0_copyFrom_85 : decode cX0_copyFrom 85 = .ok (.putfield 42, 3) := by decide +kernel
theorem dX0_copyFrom_88 : decode cX0_copyFrom 88 = .ok (.aload_n 0, 1) := by decide +kernel
theorem dX0_copyFrom_89 : decode cX0_copyFrom 89 = .ok (.aload_n 1, 1) := by decide +kernel
theorem dX0_copyFrom_90 : decode cX0_copyFrom 90 = .ok (.getfield 45, 3) := by decide +kernel
theorem dX0_copyFrom_93 : decode cX0_copyFrom 93 = .ok (.putfield 45, 3) := by decide +kernel
theorem dX0_copyFrom_96 : decode cX0_copyFrom 96 = .ok (.aload_n 1, 1) := by decide +kernel
theorem dX0_copyFrom_97 : decode cX0_copyFrom 97 = .ok (.getfield 53, 3) := by decide +kernel
theorem dX0_copyFrom_100 : decode cX0_copyFrom 100 = .ok (.astore_n 2, 1) := by decide +kernel
theorem dX0_copyFrom_101 : decode cX0_copyFrom 101 = .ok (.aload_n 0, 1) := by decide +kernel
theorem dX0_copyFrom_102 : decode cX0_copyFrom 102 = .ok (.getfield 53, 3) := by decide +kernel
theorem dX0_copyFrom_105 : decode cX0_copyFrom 105 = .ok (.astore_n 3, 1) := by decide +kernel
theorem dX0_copyFrom_106 : decode cX0_copyFrom 106 = .ok (.aload_n 3, 1) := by decide +kernel
theorem dX0_copyFrom_107 : decode cX0_copyFrom 107 = .ok (.ifnull 25, 3) := by decide +kernel
theorem dX0_copyFrom_110 : decode cX0_copyFrom 110 = .ok (.aload_n 2, 1) := by decide +kernel
theorem dX0_copyFrom_111 : decode cX0_copyFrom 111 = .ok (.ifnull 21, 3) := by decide +kernel
theorem dX0_copyFrom_114 : decode cX0_copyFrom 114 = .ok (.aload_n 3, 1) := by decide +kernel
theorem dX0_copyFrom_115 : decode cX0_copyFrom 115 = .ok (.aload_n 2, 1) := by decide +kernel
theorem dX0_copyFrom_116 : decode cX0_copyFrom 116 = .ok (.invokevirtual 57, 3) := by decide +kernel
theorem dX0_copyFrom_119 : decode cX0_copyFrom 119 = .ok (.aload_n 2, 1) := by decide +kernel
theorem dX0_copyFrom_120 : decode cX0_copyFrom 120 = .ok (.getfield 61, 3) := by decide +kernel
theorem dX0_copyFrom_123 : decode cX0_copyFrom 123 = .ok (.astore_n 2, 1) := by decide +kernel
theorem dX0_copyFrom_124 : decode cX0_copyFrom 124 = .ok (.aload_n 3, 1) := by decide +kernel
theorem dX0_copyFrom_125 : decode cX0_copyFrom 125 = .ok (.getfield 61, 3) := by decide +kernel
theorem dX0_copyFrom_128 : decode cX0_copyFrom 128 = .ok (.astore_n 3, 1) := by decide +kernel
theorem dX0_copyFrom_129 : decode cX0_copyFrom 129 = .ok (.goto (-23), 3) := by decide +kernel
theorem dX0_copyFrom_132 : decode cX0_copyFrom 132 = .ok (.return_, 1) := by decide +kernel
theorem dX0_millAt_0 : decode cX0_millAt 0 = .ok (.aload_n 0, 1) := by decide +kernel
theorem dX0_millAt_1 : decode cX0_millAt 1 = .ok (.getfield 53, 3) := by decide +kernel
theorem dX0_millAt_4 : decode cX0_millAt 4 = .ok (.astore_n 2, 1) := by decide +kernel
theorem dX0_millAt_5 : decode cX0_millAt 5 = .ok (.aload_n 2, 1) := by decide +kernel
theorem dX0_millAt_6 : decode cX0_millAt 6 = .ok (.ifnull 21, 3) := by decide +kernel
theorem dX0_millAt_9 : decode cX0_millAt 9 = .ok (.aload_n 2, 1) := by decide +kernel
theorem dX0_millAt_10 : decode cX0_millAt 10 = .ok (.getfield 64, 3) := by decide +kernel
theorem dX0_millAt_13 : decode cX0_millAt 13 = .ok (.iload_n 1, 1) := by decide +kernel
theorem dX0_millAt_14 : decode cX0_millAt 14 = .ok (.if_icmp .ne 5, 3) := by decide +kernel
theorem dX0_millAt_17 : decode cX0_millAt 17 = .ok (.aload_n 2, 1) := by decide +kernel
theorem dX0_millAt_18 : decode cX0_millAt 18 = .ok (.areturn, 1) := by decide +kernel
theorem dX0_millAt_19 : decode cX0_millAt 19 = .ok (.aload_n 2, 1) := by decide +kernel
theorem dX0_millAt_20 : decode cX0_millAt 20 = .ok (.getfield 61, 3) := by decide +kernel
theorem dX0_millAt_23 : decode cX0_millAt 23 = .ok (.astore_n 2, 1) := by decide +kernel
theorem dX0_millAt_24 : decode cX0_millAt 24 = .ok (.goto (-19), 3) := by decide +kernel
theorem dX0_millAt_27 : decode cX0_millAt 27 = .ok (.aconst_null, 1) := by decide +kernel
theorem dX0_millAt_28 : decode cX0_millAt 28 = .ok (.areturn, 1) := by decide +kernel
theorem dX0_millOfSack_0 : decode cX0_millOfSack 0 = .ok (.aload_n 0, 1) := by decide +kernel
theorem dX0_millOfSack_1 : decode cX0_millOfSack 1 = .ok (.getfield 53, 3) := by decide +kernel
theorem dX0_millOfSack_4 : decode cX0_millOfSack 4 = .ok (.astore_n 2, 1) := by decide +kernel
theorem dX0_millOfSack_5 : decode cX0_millOfSack 5 = .ok (.aload_n 2, 1) := by decide +kernel
theorem dX0_millOfSack_6 : decode cX0_millOfSack 6 = .ok (.ifnull 22, 3) := by decide +kernel
theorem dX0_millOfSack_9 : decode cX0_millOfSack 9 = .ok (.aload_n 2, 1) := by decide +kernel
theorem dX0_millOfSack_10 : decode cX0_millOfSack 10 = .ok (.iload_n 1, 1) := by decide +kernel
theorem dX0_millOfSack_11 : decode cX0_millOfSack 11 = .ok (.invokevirtual 67, 3) := by decide +kernel
theorem dX0_millOfSack_14 : decode cX0_millOfSack 14 = .ok (.iconst (-1), 1) := by decide +kernel
theorem dX0_millOfSack_15 : decode cX0_millOfSack 15 = .ok (.if_icmp .eq 5, 3) := by decide +kernel
theorem dX0_millOfSack_18 : decode cX0_millOfSack 18 = .ok (.aload_n 2, 1) := by decide +kernel
theorem dX0_millOfSack_19 : decode cX0_millOfSack 19 = .ok (.areturn, 1) := by decide +kernel
theorem dX0_millOfSack_20 : decode cX0_millOfSack 20 = .ok (.aload_n 2, 1) := by decide +kernel
theorem dX0_millOfSack_21 : decode cX0_millOfSack 21 = .ok (.getfield 61, 3) := by decide +kernel
theorem dX0_millOfSack_24 : decode cX0_millOfSack 24 = .ok (.astore_n 2, 1) := by decide +kernel
theorem dX0_millOfSack_25 : decode cX0_millOfSack 25 = .ok (.goto (-20), 3) := by decide +kernel
theorem dX0_millOfSack_28 : decode cX0_millOfSack 28 = .ok (.aconst_null, 1) := by decide +kernel
theorem dX0_millOfSack_29 : decode cX0_millOfSack 29 = .ok (.areturn, 1) := by decide +kernel
theorem dX0_settingAt_0 : decode cX0_settingAt 0 = .ok (.iload_n 1, 1) := by decide +kernel
theorem dX0_settingAt_1 : decode cX0_settingAt 1 = .ok (.lookupswitch 37 #[(0, 27), (1, 32)], 27) := by decide +kernel
theorem dX0_settingAt_28 : decode cX0_settingAt 28 = .ok (.aload_n 0, 1) := by decide +kernel
theorem dX0_settingAt_29 : decode cX0_settingAt 29 = .ok (.getfield 9, 3) := by decide +kernel
theorem dX0_settingAt_32 : decode cX0_settingAt 32 = .ok (.ireturn, 1) := by decide +kernel
theorem dX0_settingAt_33 : decode cX0_settingAt 33 = .ok (.aload_n 0, 1) := by decide +kernel
theorem dX0_settingAt_34 : decode cX0_settingAt 34 = .ok (.getfield 15, 3) := by decide +kernel
theorem dX0_settingAt_37 : decode cX0_settingAt 37 = .ok (.ireturn, 1) := by decide +kernel
theorem dX0_settingAt_38 : decode cX0_settingAt 38 = .ok (.aload_n 0, 1) := by decide +kernel
theorem dX0_settingAt_39 : decode cX0_settingAt 39 = .ok (.getfield 18, 3) := by decide +kernel
theorem dX0_settingAt_42 : decode cX0_settingAt 42 = .ok (.ireturn, 1) := by decide +kernel
theorem dX0_changeSetting_0 : decode cX0_changeSetting 0 = .ok (.iload_n 1, 1) := by decide +kernel
theorem dX0_changeSetting_1 : decode cX0_changeSetting 1 = .ok (.lookupswitch 43 #[(0, 27), (1, 35)], 27) := by decide +kernel
theorem dX0_changeSetting_28 : decode cX0_changeSetting 28 = .ok (.aload_n 0, 1) := by decide +kernel
theorem dX0_changeSetting_29 : decode cX0_changeSetting 29 = .ok (.iload_n 2, 1) := by decide +kernel
theorem dX0_changeSetting_30 : decode cX0_changeSetting 30 = .ok (.putfield 9, 3) := by decide +kernel
theorem dX0_changeSetting_33 : decode cX0_changeSetting 33 = .ok (.goto 16, 3) := by decide +kernel
theorem dX0_changeSetting_36 : decode cX0_changeSetting 36 = .ok (.aload_n 0, 1) := by decide +kernel
theorem dX0_changeSetting_37 : decode cX0_changeSetting 37 = .ok (.iload_n 2, 1) := by decide +kernel
theorem dX0_changeSetting_38 : decode cX0_changeSetting 38 = .ok (.putfield 15, 3) := by decide +kernel
theorem dX0_changeSetting_41 : decode cX0_changeSetting 41 = .ok (.goto 8, 3) := by decide +kernel
theorem dX0_changeSetting_44 : decode cX0_changeSetting 44 = .ok (.aload_n 0, 1) := by decide +kernel
theorem dX0_changeSetting_45 : decode cX0_changeSetting 45 = .ok (.iload_n 2, 1) := by decide +kernel
theorem dX0_changeSetting_46 : decode cX0_changeSetting 46 = .ok (.putfield 18, 3) := by decide +kernel
theorem dX0_changeSetting_49 : decode cX0_changeSetting 49 = .ok (.return_, 1) := by decide +kernel
theorem dX0_changeStone_0 : decode cX0_changeStone 0 = .ok (.aload_n 0, 1) := by decide +kernel
theorem dX0_changeStone_1 : decode cX0_changeStone 1 = .ok (.iload_n 1, 1) := by decide +kernel
theorem dX0_changeStone_2 : decode cX0_changeStone 2 = .ok (.invokevirtual 71, 3) := by decide +kernel
theorem dX0_changeStone_5 : decode cX0_changeStone 5 = .ok (.astore_n 3, 1) := by decide +kernel
theorem dX0_changeStone_6 : decode cX0_changeStone 6 = .ok (.aload_n 3, 1) := by decide +kernel
theorem dX0_changeStone_7 : decode cX0_changeStone 7 = .ok (.ifnull 8, 3) := by decide +kernel
theorem dX0_changeStone_10 : decode cX0_changeStone 10 = .ok (.aload_n 3, 1) := by decide +kernel
theorem dX0_changeStone_11 : decode cX0_changeStone 11 = .ok (.iload_n 2, 1) := by decide +kernel
theorem dX0_changeStone_12 : decode cX0_changeStone 12 = .ok (.putfield 75, 3) := by decide +kernel
theorem dX0_changeStone_15 : decode cX0_changeStone 15 = .ok (.return_, 1) := by decide +kernel
theorem dX0_tideIn_0 : decode cX0_tideIn 0 = .ok (.iload_n 1, 1) := by decide +kernel
theorem dX0_tideIn_1 : decode cX0_tideIn 1 = .ok (.bipush 12, 2) := by decide +kernel
theorem dX0_tideIn_3 : decode cX0_tideIn 3 = .ok (.irem, 1) := by decide +kernel
theorem dX0_tideIn_4 : decode cX0_tideIn 4 = .ok (.istore_n 2, 1) := by decide +kernel
theorem dX0_tideIn_5 : decode cX0_tideIn 5 = .ok (.aload_n 0, 1) := by decide +kernel
theorem dX0_tideIn_6 : decode cX0_tideIn 6 = .ok (.getfield 9, 3) := by decide +kernel
theorem dX0_tideIn_9 : decode cX0_tideIn 9 = .ok (.iload_n 2, 1) := by decide +kernel
theorem dX0_tideIn_10 : decode cX0_tideIn 10 = .ok (.bipush 6, 2) := by decide +kernel
theorem dX0_tideIn_12 : decode cX0_tideIn 12 = .ok (.if_icmp .ge 10, 3) := by decide +kernel
theorem dX0_tideIn_15 : decode cX0_tideIn 15 = .ok (.bipush 6, 2) := by decide +kernel
theorem dX0_tideIn_17 : decode cX0_tideIn 17 = .ok (.iload_n 2, 1) := by decide +kernel
theorem dX0_tideIn_18 : decode cX0_tideIn 18 = .ok (.isub, 1) := by decide +kernel
theorem dX0_tideIn_19 : decode cX0_tideIn 19 = .ok (.goto 7, 3) := by decide +kernel
theorem dX0_tideIn_22 : decode cX0_tideIn 22 = .ok (.iload_n 2, 1) := by decide +kernel
theorem dX0_tideIn_23 : decode cX0_tideIn 23 = .ok (.bipush 6, 2) := by decide +kernel
theorem dX0_tideIn_25 : decode cX0_tideIn 25 = .ok (.isub, 1) := by decide +kernel
theorem dX0_tideIn_26 : decode cX0_tideIn 26 = .ok (.imul, 1) := by decide +kernel
theorem dX0_tideIn_27 : decode cX0_tideIn 27 = .ok (.ireturn, 1) := by decide +kernel
theorem dX0_waterInPonds_0 : decode cX0_waterInPonds 0 = .ok (.iconst 0, 1) := by decide +kernel
theorem dX0_waterInPonds_1 : decode cX0_waterInPonds 1 = .ok (.istore_n 1, 1) := by decide +kernel
theorem dX0_waterInPonds_2 : decode cX0_waterInPonds 2 = .ok (.aload_n 0, 1) := by decide +kernel
theorem dX0_waterInPonds_3 : decode cX0_waterInPonds 3 = .ok (.getfield 53, 3) := by decide +kernel
theorem dX0_waterInPonds_6 : decode cX0_waterInPonds 6 = .ok (.astore_n 2, 1) := by decide +kernel
theorem dX0_waterInPonds_7 : decode cX0_waterInPonds 7 = .ok (.aload_n 2, 1) := by decide +kernel
theorem dX0_waterInPonds_8 : decode cX0_waterInPonds 8 = .ok (.ifnull 18, 3) := by decide +kernel
theorem dX0_waterInPonds_11 : decode cX0_waterInPonds 11 = .ok (.iload_n 1, 1) := by decide +kernel
theorem dX0_waterInPonds_12 : decode cX0_waterInPonds 12 = .ok (.aload_n 2, 1) := by decide +kernel
theorem dX0_waterInPonds_13 : decode cX0_waterInPonds 13 = .ok (.getfield 78, 3) := by decide +kernel
theorem dX0_waterInPonds_16 : decode cX0_waterInPonds 16 = .ok (.iadd, 1) := by decide +kernel
theorem dX0_waterInPonds_17 : decode cX0_waterInPonds 17 = .ok (.istore_n 1, 1) := by decide +kernel
theorem dX0_waterInPonds_18 : decode cX0_waterInPonds 18 = .ok (.aload_n 2, 1) := by decide +kernel
theorem dX0_waterInPonds_19 : decode cX0_waterInPonds 19 = .ok (.getfield 61, 3) := by decide +kernel
theorem dX0_waterInPonds_22 : decode cX0_waterInPonds 22 = .ok (.astore_n 2, 1) := by decide +kernel
theorem dX0_waterInPonds_23 : decode cX0_waterInPonds 23 = .ok (.goto (-16), 3) := by decide +kernel
theorem dX0_waterInPonds_26 : decode cX0_waterInPonds 26 = .ok (.iload_n 1, 1) := by decide +kernel
theorem dX0_waterInPonds_27 : decode cX0_waterInPonds 27 = .ok (.ireturn, 1) := by decide +kernel
theorem dX0_sacksAtMills_0 : decode cX0_sacksAtMills 0 = .ok (.iconst 0, 1) := by decide +kernel
theorem dX0_sacksAtMills_1 : decode cX0_sacksAtMills 1 = .ok (.istore_n 1, 1) := by decide +kernel
theorem dX0_sacksAtMills_2 : decode cX0_sacksAtMills 2 = .ok (.aload_n 0, 1) := by decide +kernel
theorem dX0_sacksAtMills_3 : decode cX0_sacksAtMills 3 = .ok (.getfield 53, 3) := by decide +kernel
theorem dX0_sacksAtMills_6 : decode cX0_sacksAtMills 6 = .ok (.astore_n 2, 1) := by decide +kernel
theorem dX0_sacksAtMills_7 : decode cX0_sacksAtMills 7 = .ok (.aload_n 2, 1) := by decide +kernel
theorem dX0_sacksAtMills_8 : decode cX0_sacksAtMills 8 = .ok (.ifnull 18, 3) := by decide +kernel
theorem dX0_sacksAtMills_11 : decode cX0_sacksAtMills 11 = .ok (.iload_n 1, 1) := by decide +kernel
theorem dX0_sacksAtMills_12 : decode cX0_sacksAtMills 12 = .ok (.aload_n 2, 1) := by decide +kernel
theorem dX0_sacksAtMills_13 : decode cX0_sacksAtMills 13 = .ok (.getfield 81, 3) := by decide +kernel
theorem dX0_sacksAtMills_16 : decode cX0_sacksAtMills 16 = .ok (.iadd, 1) := by decide +kernel
theorem dX0_sacksAtMills_17 : decode cX0_sacksAtMills 17 = .ok (.istore_n 1, 1) := by decide +kernel
theorem dX0_sacksAtMills_18 : decode cX0_sacksAtMills 18 = .ok (.aload_n 2, 1) := by decide +kernel
theorem dX0_sacksAtMills_19 : decode cX0_sacksAtMills 19 = .ok (.getfield 61, 3) := by decide +kernel
theorem dX0_sacksAtMills_22 : decode cX0_sacksAtMills 22 = .ok (.astore_n 2, 1) := by decide +kernel
theorem dX0_sacksAtMills_23 : decode cX0_sacksAtMills 23 = .ok (.goto (-16), 3) := by decide +kernel
theorem dX0_sacksAtMills_26 : decode cX0_sacksAtMills 26 = .ok (.iload_n 1, 1) := by decide +kernel
theorem dX0_sacksAtMills_27 : decode cX0_sacksAtMills 27 = .ok (.ireturn, 1) := by decide +kernel
theorem dX0_restsOfAll_0 : decode cX0_restsOfAll 0 = .ok (.iconst 0, 1) := by decide +kernel
theorem dX0_restsOfAll_1 : decode cX0_restsOfAll 1 = .ok (.istore_n 1, 1) := by decide +kernel
theorem dX0_restsOfAll_2 : decode cX0_restsOfAll 2 = .ok (.aload_n 0, 1) := by decide +kernel
theorem dX0_restsOfAll_3 : decode cX0_restsOfAll 3 = .ok (.getfield 53, 3) := by decide +kernel
theorem dX0_restsOfAll_6 : decode cX0_restsOfAll 6 = .ok (.astore_n 2, 1) := by decide +kernel
theorem dX0_restsOfAll_7 : decode cX0_restsOfAll 7 = .ok (.aload_n 2, 1) := by decide +kernel
theorem dX0_restsOfAll_8 : decode cX0_restsOfAll 8 = .ok (.ifnull 35, 3) := by decide +kernel
theorem dX0_restsOfAll_11 : decode cX0_restsOfAll 11 = .ok (.iconst 0, 1) := by decide +kernel
theorem dX0_restsOfAll_12 : decode cX0_restsOfAll 12 = .ok (.istore_n 3, 1) := by decide +kernel
theorem dX0_restsOfAll_13 : decode cX0_restsOfAll 13 = .ok (.iload_n 3, 1) := by decide +kernel
theorem dX0_restsOfAll_14 : decode cX0_restsOfAll 14 = .ok (.aload_n 2, 1) := by decide +kernel
theorem dX0_restsOfAll_15 : decode cX0_restsOfAll 15 = .ok (.getfield 81, 3) := by decide +kernel
theorem dX0_restsOfAll_18 : decode cX0_restsOfAll 18 = .ok (.if_icmp .ge 17, 3) := by decide +kernel
theorem dX0_restsOfAll_21 : decode cX0_restsOfAll 21 = .ok (.iload_n 1, 1) := by decide +kernel
theorem dX0_restsOfAll_22 : decode cX0_restsOfAll 22 = .ok (.aload_n 2, 1) := by decide +kernel
theorem dX0_restsOfAll_23 : decode cX0_restsOfAll 23 = .ok (.iload_n 3, 1) := by decide +kernel
theorem dX0_restsOfAll_24 : decode cX0_restsOfAll 24 = .ok (.invokevirtual 84, 3) := by decide +kernel
theorem dX0_restsOfAll_27 : decode cX0_restsOfAll 27 = .ok (.iadd, 1) := by decide +kernel
theorem dX0_restsOfAll_28 : decode cX0_restsOfAll 28 = .ok (.istore_n 1, 1) := by decide +kernel
theorem dX0_restsOfAll_29 : decode cX0_restsOfAll 29 = .ok (.iinc 3 1, 3) := by decide +kernel
theorem dX0_restsOfAll_32 : decode cX0_restsOfAll 32 = .ok (.goto (-19), 3) := by decide +kernel
theorem dX0_restsOfAll_35 : decode cX0_restsOfAll 35 = .ok (.aload_n 2, 1) := by decide +kernel
theorem dX0_restsOfAll_36 : decode cX0_restsOfAll 36 = .ok (.getfield 61, 3) := by decide +kernel
theorem dX0_restsOfAll_39 : decode cX0_restsOfAll 39 = .ok (.astore_n 2, 1) := by decide +kernel
theorem dX0_restsOfAll_40 : decode cX0_restsOfAll 40 = .ok (.goto (-33), 3) := by decide +kernel
theorem dX0_restsOfAll_43 : decode cX0_restsOfAll 43 = .ok (.iload_n 1, 1) := by decide +kernel
theorem dX0_restsOfAll_44 : decode cX0_restsOfAll 44 = .ok (.ireturn, 1) := by decide +kernel
theorem dX0_hasRoomForSack_0 : decode cX0_hasRoomForSack 0 = .ok (.aload_n 1, 1) := by decide +kernel
theorem dX0_hasRoomForSack_1 : decode cX0_hasRoomForSack 1 = .ok (.getfield 81, 3) := by decide +kernel
theorem dX0_hasRoomForSack_4 : decode cX0_hasRoomForSack 4 = .ok (.bipush 6, 2) := by decide +kernel
theorem dX0_hasRoomForSack_6 : decode cX0_hasRoomForSack 6 = .ok (.if_icmp .ge 17, 3) := by decide +kernel
theorem dX0_hasRoomForSack_9 : decode cX0_hasRoomForSack 9 = .ok (.aload_n 0, 1) := by decide +kernel
theorem dX0_hasRoomForSack_10 : decode cX0_hasRoomForSack 10 = .ok (.getfield 36, 3) := by decide +kernel
theorem dX0_hasRoomForSack_13 : decode cX0_hasRoomForSack 13 = .ok (.sipush 999, 3) := by decide +kernel
theorem dX0_hasRoomForSack_16 : decode cX0_hasRoomForSack 16 = .ok (.if_icmp .ge 7, 3) := by decide +kernel
theorem dX0_hasRoomForSack_19 : decode cX0_hasRoomForSack 19 = .ok (.iconst 1, 1) := by decide +kernel
theorem dX0_hasRoomForSack_20 : decode cX0_hasRoomForSack 20 = .ok (.goto 4, 3) := by decide +kernel
theorem dX0_hasRoomForSack_23 : decode cX0_hasRoomForSack 23 = .ok (.iconst 0, 1) := by decide +kernel
theorem dX0_hasRoomForSack_24 : decode cX0_hasRoomForSack 24 = .ok (.ireturn, 1) := by decide +kernel
theorem dX0_bringSack_0 : decode cX0_bringSack 0 = .ok (.aload_n 0, 1) := by decide +kernel
theorem dX0_bringSack_1 : decode cX0_bringSack 1 = .ok (.aload_n 1, 1) := by decide +kernel
theorem dX0_bringSack_2 : decode cX0_bringSack 2 = .ok (.invokevirtual 87, 3) := by decide +kernel
theorem dX0_bringSack_5 : decode cX0_bringSack 5 = .ok (.ifCond .ne 5, 3) := by decide +kernel
theorem dX0_bringSack_8 : decode cX0_bringSack 8 = .ok (.iconst (-1), 1) := by decide +kernel
theorem dX0_bringSack_9 : decode cX0_bringSack 9 = .ok (.ireturn, 1) := by decide +kernel
theorem dX0_bringSack_10 : decode cX0_bringSack 10 = .ok (.aload_n 0, 1) := by decide +kernel
theorem dX0_bringSack_11 : decode cX0_bringSack 11 = .ok (.getfield 36, 3) := by decide +kernel
theorem dX0_bringSack_14 : decode cX0_bringSack 14 = .ok (.istore 4, 2) := by decide +kernel
theorem dX0_bringSack_16 : decode cX0_bringSack 16 = .ok (.aload_n 1, 1) := by decide +kernel
theorem dX0_bringSack_17 : decode cX0_bringSack 17 = .ok (.iload 4, 2) := by decide +kernel
theorem dX0_bringSack_19 : decode cX0_bringSack 19 = .ok (.iload_n 2, 1) := by decide +kernel
theorem dX0_bringSack_20 : decode cX0_bringSack 20 = .ok (.iload_n 2, 1) := by decide +kernel
theorem dX0_bringSack_21 : decode cX0_bringSack 21 = .ok (.iload_n 3, 1) := by decide +kernel
theorem dX0_bringSack_22 : decode cX0_bringSack 22 = .ok (.invokevirtual 91, 3) := by decide +kernel
theorem dX0_bringSack_25 : decode cX0_bringSack 25 = .ok (.pop, 1) := by decide +kernel
theorem dX0_bringSack_26 : decode cX0_bringSack 26 = .ok (.aload_n 0, 1) := by decide +kernel
theorem dX0_bringSack_27 : decode cX0_bringSack 27 = .ok (.dup, 1) := by decide +kernel
theorem dX0_bringSack_28 : decode cX0_bringSack 28 = .ok (.getfield 36, 3) := by decide +kernel
theorem dX0_bringSack_31 : decode cX0_bringSack 31 = .ok (.iconst 1, 1) := by decide +kernel
theorem dX0_bringSack_32 : decode cX0_bringSack 32 = .ok (.iadd, 1) := by decide +kernel
theorem dX0_bringSack_33 : decode cX0_bringSack 33 = .ok (.putfield 36, 3) := by decide +kernel
theorem dX0_bringSack_36 : decode cX0_bringSack 36 = .ok (.iload 4, 2) := by decide +kernel
theorem dX0_bringSack_38 : decode cX0_bringSack 38 = .ok (.ireturn, 1) := by decide +kernel
theorem dX0_reasonToRest_0 : decode cX0_reasonToRest 0 = .ok (.aload_n 1, 1) := by decide +kernel
theorem dX0_reasonToRest_1 : decode cX0_reasonToRest 1 = .ok (.getfield 81, 3) := by decide +kernel
theorem dX0_reasonToRest_4 : decode cX0_reasonToRest 4 = .ok (.ifCond .ne 5, 3) := by decide +kernel
theorem dX0_reasonToRest_7 : decode cX0_reasonToRest 7 = .ok (.iconst 1, 1) := by decide +kernel
theorem dX0_reasonToRest_8 : decode cX0_reasonToRest 8 = .ok (.ireturn, 1) := by decide +kernel
theorem dX0_reasonToRest_9 : decode cX0_reasonToRest 9 = .ok (.aload_n 1, 1) := by decide +kernel
theorem dX0_reasonToRest_10 : decode cX0_reasonToRest 10 = .ok (.aload_n 0, 1) := by decide +kernel
theorem dX0_reasonToRest_11 : decode cX0_reasonToRest 11 = .ok (.aload_n 0, 1) := by decide +kernel
theorem dX0_reasonToRest_12 : decode cX0_reasonToRest 12 = .ok (.getfield 21, 3) := by decide +kernel
theorem dX0_reasonToRest_15 : decode cX0_reasonToRest 15 = .ok (.invokevirtual 95, 3) := by decide +kernel
theorem dX0_reasonToRest_18 : decode cX0_reasonToRest 18 = .ok (.invokevirtual 98, 3) := by decide +kernel
theorem dX0_reasonToRest_21 : decode cX0_reasonToRest 21 = .ok (.aload_n 0, 1) := by decide +kernel
theorem dX0_reasonToRest_22 : decode cX0_reasonToRest 22 = .ok (.getfield 15, 3) := by decide +kernel
theorem dX0_reasonToRest_25 : decode cX0_reasonToRest 25 = .ok (.if_icmp .ge 5, 3) := by decide +kernel
theorem dX0_reasonToRest_28 : decode cX0_reasonToRest 28 = .ok (.iconst 2, 1) := by decide +kernel
theorem dX0_reasonToRest_29 : decode cX0_reasonToRest 29 = .ok (.ireturn, 1) := by decide +kernel
theorem dX0_reasonToRest_30 : decode cX0_reasonToRest 30 = .ok (.aload_n 1, 1) := by decide +kernel
theorem dX0_reasonToRest_31 : decode cX0_reasonToRest 31 = .ok (.getfield 78, 3) := by decide +kernel
theorem dX0_reasonToRest_34 : decode cX0_reasonToRest 34 = .ok (.aload_n 0, 1) := by decide +kernel
theorem dX0_reasonToRest_35 : decode cX0_reasonToRest 35 = .ok (.getfield 18, 3) := by decide +kernel
theorem dX0_reasonToRest_38 : decode cX0_reasonToRest 38 = .ok (.if_icmp .ge 7, 3) := by decide +kernel
theorem dX0_reasonToRest_41 : decode cX0_reasonToRest 41 = .ok (.iconst 3, 1) := by decide +kernel
theorem dX0_reasonToRest_42 : decode cX0_reasonToRest 42 = .ok (.goto 4, 3) := by decide +kernel
theorem dX0_reasonToRest_45 : decode cX0_reasonToRest 45 = .ok (.iconst 0, 1) := by decide +kernel
theorem dX0_reasonToRest_46 : decode cX0_reasonToRest 46 = .ok (.ireturn, 1) := by decide +kernel
theorem dX0_turnsAheadOf_0 : decode cX0_turnsAheadOf 0 = .ok (.aload_n 1, 1) := by decide +kernel
theorem dX0_turnsAheadOf_1 : decode cX0_turnsAheadOf 1 = .ok (.invokevirtual 101, 3) := by decide +kernel
theorem dX0_turnsAheadOf_4 : decode cX0_turnsAheadOf 4 = .ok (.istore_n 3, 1) := by decide +kernel
theorem dX0_turnsAheadOf_5 : decode cX0_turnsAheadOf 5 = .ok (.aload_n 2, 1) := by decide +kernel
theorem dX0_turnsAheadOf_6 : decode cX0_turnsAheadOf 6 = .ok (.invokevirtual 101, 3) := by decide +kernel
theorem dX0_turnsAheadOf_9 : decode cX0_turnsAheadOf 9 = .ok (.istore 4, 2) := by decide +kernel
theorem dX0_turnsAheadOf_11 : decode cX0_turnsAheadOf 11 = .ok (.iload_n 3, 1) := by decide +kernel
theorem dX0_turnsAheadOf_12 : decode cX0_turnsAheadOf 12 = .ok (.iload 4, 2) := by decide +kernel
theorem dX0_turnsAheadOf_14 : decode cX0_turnsAheadOf 14 = .ok (.if_icmp .eq 15, 3) := by decide +kernel
theorem dX0_turnsAheadOf_17 : decode cX0_turnsAheadOf 17 = .ok (.iload_n 3, 1) := by decide +kernel
theorem dX0_turnsAheadOf_18 : decode cX0_turnsAheadOf 18 = .ok (.iload 4, 2) := by decide +kernel
theorem dX0_turnsAheadOf_20 : decode cX0_turnsAheadOf 20 = .ok (.if_icmp .ge 7, 3) := by decide +kernel
theorem dX0_turnsAheadOf_23 : decode cX0_turnsAheadOf 23 = .ok (.iconst 1, 1) := by decide +kernel
theorem dX0_turnsAheadOf_24 : decode cX0_turnsAheadOf 24 = .ok (.goto 4, 3) := by decide +kernel
theorem dX0_turnsAheadOf_27 : decode cX0_turnsAheadOf 27 = .ok (.iconst 0, 1) := by decide +kernel
theorem dX0_turnsAheadOf_28 : decode cX0_turnsAheadOf 28 = .ok (.ireturn, 1) := by decide +kernel
theorem dX0_turnsAheadOf_29 : decode cX0_turnsAheadOf 29 = .ok (.aload_n 0, 1) := by decide +kernel
theorem dX0_turnsAheadOf_30 : decode cX0_turnsAheadOf 30 = .ok (.aload_n 0, 1) := by decide +kernel
theorem dX0_turnsAheadOf_31 : decode cX0_turnsAheadOf 31 = .ok (.getfield 21, 3) := by decide +kernel
theorem dX0_turnsAheadOf_34 : decode cX0_turnsAheadOf 34 = .ok (.invokevirtual 95, 3) := by decide +kernel
theorem dX0_turnsAheadOf_37 : decode cX0_turnsAheadOf 37 = .ok (.istore 5, 2) := by decide +kernel
theorem dX0_turnsAheadOf_39 : decode cX0_turnsAheadOf 39 = .ok (.aload_n 1, 1) := by decide +kernel
theorem dX0_turnsAheadOf_40 : decode cX0_turnsAheadOf 40 = .ok (.iload 5, 2) := by decide +kernel
theorem dX0_turnsAheadOf_42 : decode cX0_turnsAheadOf 42 = .ok (.invokevirtual 98, 3) := by decide +kernel
theorem dX0_turnsAheadOf_45 : decode cX0_turnsAheadOf 45 = .ok (.istore 6, 2) := by decide +kernel
theorem dX0_turnsAheadOf_47 : decode cX0_turnsAheadOf 47 = .ok (.aload_n 2, 1) := by decide +kernel
theorem dX0_turnsAheadOf_48 : decode cX0_turnsAheadOf 48 = .ok (.iload 5, 2) := by decide +kernel
theorem dX0_turnsAheadOf_50 : decode cX0_turnsAheadOf 50 = .ok (.invokevirtual 98, 3) := by decide +kernel
theorem dX0_turnsAheadOf_53 : decode cX0_turnsAheadOf 53 = .ok (.istore 7, 2) := by decide +kernel
theorem dX0_turnsAheadOf_55 : decode cX0_turnsAheadOf 55 = .ok (.iload 6, 2) := by decide +kernel
theorem dX0_turnsAheadOf_57 : decode cX0_turnsAheadOf 57 = .ok (.iload 7, 2) := by decide +kernel
theorem dX0_turnsAheadOf_59 : decode cX0_turnsAheadOf 59 = .ok (.if_icmp .ne 22, 3) := by decide +kernel
theorem dX0_turnsAheadOf_62 : decode cX0_turnsAheadOf 62 = .ok (.aload_n 1, 1) := by decide +kernel
theorem dX0_turnsAheadOf_63 : decode cX0_turnsAheadOf 63 = .ok (.getfield 64, 3) := by decide +kernel
theorem dX0_turnsAheadOf_66 : decode cX0_turnsAheadOf 66 = .ok (.aload_n 2, 1) := by decide +kernel
theorem dX0_turnsAheadOf_67 : decode cX0_turnsAheadOf 67 = .ok (.getfield 64, 3) := by decide +kernel
theorem dX0_turnsAheadOf_70 : decode cX0_turnsAheadOf 70 = .ok (.if_icmp .ge 7, 3) := by decide +kernel
theorem dX0_turnsAheadOf_73 : decode cX0_turnsAheadOf 73 = .ok (.iconst 1, 1) := by decide +kernel
theorem dX0_turnsAheadOf_74 : decode cX0_turnsAheadOf 74 = .ok (.goto 19, 3) := by decide +kernel
theorem dX0_turnsAheadOf_77 : decode cX0_turnsAheadOf 77 = .ok (.iconst 0, 1) := by decide +kernel
theorem dX0_turnsAheadOf_78 : decode cX0_turnsAheadOf 78 = .ok (.goto 15, 3) := by decide +kernel
theorem dX0_turnsAheadOf_81 : decode cX0_turnsAheadOf 81 = .ok (.iload 6, 2) := by decide +kernel
theorem dX0_turnsAheadOf_83 : decode cX0_turnsAheadOf 83 = .ok (.iload 7, 2) := by decide +kernel
theorem dX0_turnsAheadOf_85 : decode cX0_turnsAheadOf 85 = .ok (.if_icmp .le 7, 3) := by decide +kernel
theorem dX0_turnsAheadOf_88 : decode cX0_turnsAheadOf 88 = .ok (.iconst 1, 1) := by decide +kernel
theorem dX0_turnsAheadOf_89 : decode cX0_turnsAheadOf 89 = .ok (.goto 4, 3) := by decide +kernel
theorem dX0_turnsAheadOf_92 : decode cX0_turnsAheadOf 92 = .ok (.iconst 0, 1) := by decide +kernel
theorem dX0_turnsAheadOf_93 : decode cX0_turnsAheadOf 93 = .ok (.ireturn, 1) := by decide +kernel
theorem dX0_millBehind_0 : decode cX0_millBehind 0 = .ok (.aconst_null, 1) := by decide +kernel
theorem dX0_millBehind_1 : decode cX0_millBehind 1 = .ok (.astore_n 2, 1) := by decide +kernel
theorem dX0_millBehind_2 : decode cX0_millBehind 2 = .ok (.aload_n 0, 1) := by decide +kernel
theorem dX0_millBehind_3 : decode cX0_millBehind 3 = .ok (.getfield 53, 3) := by decide +kernel
theorem dX0_millBehind_6 : decode cX0_millBehind 6 = .ok (.astore_n 3, 1) := by decide +kernel
theorem dX0_millBehind_7 : decode cX0_millBehind 7 = .ok (.aload_n 3, 1) := by decide +kernel
theorem dX0_millBehind_8 : decode cX0_millBehind 8 = .ok (.ifnull 59, 3) := by decide +kernel
theorem dX0_millBehind_11 : decode cX0_millBehind 11 = .ok (.aload_n 0, 1) := by decide +kernel
theorem dX0_millBehind_12 : decode cX0_millBehind 12 = .ok (.aload_n 3, 1) := by decide +kernel
theorem dX0_millBehind_13 : decode cX0_millBehind 13 = .ok (.invokevirtual 105, 3) := by decide +kernel
theorem dX0_millBehind_16 : decode cX0_millBehind 16 = .ok (.ifCond .ne 20, 3) := by decide +kernel
theorem dX0_millBehind_19 : decode cX0_millBehind 19 = .ok (.aload_n 1, 1) := by decide +kernel
theorem dX0_millBehind_20 : decode cX0_millBehind 20 = .ok (.ifnull 12, 3) := by decide +kernel
theorem dX0_millBehind_23 : decode cX0_millBehind 23 = .ok (.aload_n 0, 1) := by decide +kernel
theorem dX0_millBehind_24 : decode cX0_millBehind 24 = .ok (.aload_n 1, 1) := by decide +kernel
theorem dX0_millBehind_25 : decode cX0_millBehind 25 = .ok (.aload_n 3, 1) := by decide +kernel
theorem dX0_millBehind_26 : decode cX0_millBehind 26 = .ok (.invokevirtual 109, 3) := by decide +kernel
theorem dX0_millBehind_29 : decode cX0_millBehind 29 = .ok (.ifCond .eq 7, 3) := by decide +kernel
theorem dX0_millBehind_32 : decode cX0_millBehind 32 = .ok (.iconst 1, 1) := by decide +kernel
theorem dX0_millBehind_33 : decode cX0_millBehind 33 = .ok (.goto 4, 3) := by decide +kernel
theorem dX0_millBehind_36 : decode cX0_millBehind 36 = .ok (.iconst 0, 1) := by decide +kernel
theorem dX0_millBehind_37 : decode cX0_millBehind 37 = .ok (.istore 4, 2) := by decide +kernel
theorem dX0_millBehind_39 : decode cX0_millBehind 39 = .ok (.iload 4, 2) := by decide +kernel
theorem dX0_millBehind_41 : decode cX0_millBehind 41 = .ok (.ifCond .eq 18, 3) := by decide +kernel
theorem dX0_millBehind_44 : decode cX0_millBehind 44 = .ok (.aload_n 2, 1) := by decide +kernel
theorem dX0_millBehind_45 : decode cX0_millBehind 45 = .ok (.ifnull 12, 3) := by decide +kernel
theorem dX0_millBehind_48 : decode cX0_millBehind 48 = .ok (.aload_n 0, 1) := by decide +kernel
theorem dX0_millBehind_49 : decode cX0_millBehind 49 = .ok (.aload_n 3, 1) := by decide +kernel
theorem dX0_millBehind_50 : decode cX0_millBehind 50 = .ok (.aload_n 2, 1) := by decide +kernel
theorem dX0_millBehind_51 : decode cX0_millBehind 51 = .ok (.invokevirtual 109, 3) := by decide +kernel
theorem dX0_millBehind_54 : decode cX0_millBehind 54 = .ok (.ifCond .eq 5, 3) := by decide +kernel
theorem dX0_millBehind_57 : decode cX0_millBehind 57 = .ok (.aload_n 3, 1) := by decide +kernel
theorem dX0_millBehind_58 : decode cX0_millBehind 58 = .ok (.astore_n 2, 1) := by decide +kernel
theorem dX0_millBehind_59 : decode cX0_millBehind 59 = .ok (.aload_n 3, 1) := by decide +kernel
theorem dX0_millBehind_60 : decode cX0_millBehind 60 = .ok (.getfield 61, 3) := by decide +kernel
theorem dX0_millBehind_63 : decode cX0_millBehind 63 = .ok (.astore_n 3, 1) := by decide +kernel
theorem dX0_millBehind_64 : decode cX0_millBehind 64 = .ok (.goto (-57), 3) := by decide +kernel
theorem dX0_millBehind_67 : decode cX0_millBehind 67 = .ok (.aload_n 2, 1) := by decide +kernel
theorem dX0_millBehind_68 : decode cX0_millBehind 68 = .ok (.areturn, 1) := by decide +kernel
theorem dX0_millAheadOfAll_0 : decode cX0_millAheadOfAll 0 = .ok (.aload_n 0, 1) := by decide +kernel
theorem dX0_millAheadOfAll_1 : decode cX0_millAheadOfAll 1 = .ok (.getfield 53, 3) := by decide +kernel
theorem dX0_millAheadOfAll_4 : decode cX0_millAheadOfAll 4 = .ok (.astore_n 1, 1) := by decide +kernel
theorem dX0_millAheadOfAll_5 : decode cX0_millAheadOfAll 5 = .ok (.aload_n 1, 1) := by decide +kernel
theorem dX0_millAheadOfAll_6 : decode cX0_millAheadOfAll 6 = .ok (.ifnull 29, 3) := by decide +kernel
theorem dX0_millAheadOfAll_9 : decode cX0_millAheadOfAll 9 = .ok (.aload_n 0, 1) := by decide +kernel
theorem dX0_millAheadOfAll_10 : decode cX0_millAheadOfAll 10 = .ok (.aload_n 1, 1) := by decide +kernel
theorem dX0_millAheadOfAll_11 : decode cX0_millAheadOfAll 11 = .ok (.invokevirtual 105, 3) := by decide +kernel
theorem dX0_millAheadOfAll_14 : decode cX0_millAheadOfAll 14 = .ok (.ifCond .ne 13, 3) := by decide +kernel
theorem dX0_millAheadOfAll_17 : decode cX0_millAheadOfAll 17 = .ok (.aload_n 0, 1) := by decide +kernel
theorem dX0_millAheadOfAll_18 : decode cX0_millAheadOfAll 18 = .ok (.aload_n 1, 1) := by decide +kernel
theorem dX0_millAheadOfAll_19 : decode cX0_millAheadOfAll 19 = .ok (.invokevirtual 113, 3) := by decide +kernel
theorem dX0_millAheadOfAll_22 : decode cX0_millAheadOfAll 22 = .ok (.ifCond .eq 5, 3) := by decide +kernel
theorem dX0_millAheadOfAll_25 : decode cX0_millAheadOfAll 25 = .ok (.aload_n 1, 1) := by decide +kernel
theorem dX0_millAheadOfAll_26 : decode cX0_millAheadOfAll 26 = .ok (.areturn, 1) := by decide +kernel
theorem dX0_millAheadOfAll_27 : decode cX0_millAheadOfAll 27 = .ok (.aload_n 1, 1) := by decide +kernel
theorem dX0_millAheadOfAll_28 : decode cX0_millAheadOfAll 28 = .ok (.getfield 61, 3) := by decide +kernel
theorem dX0_millAheadOfAll_31 : decode cX0_millAheadOfAll 31 = .ok (.astore_n 1, 1) := by decide +kernel
theorem dX0_millAheadOfAll_32 : decode cX0_millAheadOfAll 32 = .ok (.goto (-27), 3) := by decide +kernel
theorem dX0_millAheadOfAll_35 : decode cX0_millAheadOfAll 35 = .ok (.aconst_null, 1) := by decide +kernel
theorem dX0_millAheadOfAll_36 : decode cX0_millAheadOfAll 36 = .ok (.areturn, 1) := by decide +kernel
theorem dX0_isAheadOfAllOthers_0 : decode cX0_isAheadOfAllOthers 0 = .ok (.aload_n 0, 1) := by decide +kernel
theorem dX0_isAheadOfAllOthers_1 : decode cX0_isAheadOfAllOthers 1 = .ok (.getfield 53, 3) := by decide +kernel
theorem dX0_isAheadOfAllOthers_4 : decode cX0_isAheadOfAllOthers 4 = .ok (.astore_n 2, 1) := by decide +kernel
theorem dX0_isAheadOfAllOthers_5 : decode cX0_isAheadOfAllOthers 5 = .ok (.aload_n 2, 1) := by decide +kernel
theorem dX0_isAheadOfAllOthers_6 : decode cX0_isAheadOfAllOthers 6 = .ok (.ifnull 35, 3) := by decide +kernel
theorem dX0_isAheadOfAllOthers_9 : decode cX0_isAheadOfAllOthers 9 = .ok (.aload_n 2, 1) := by decide +kernel
theorem dX0_isAheadOfAllOthers_10 : decode cX0_isAheadOfAllOthers 10 = .ok (.aload_n 1, 1) := by decide +kernel
theorem dX0_isAheadOfAllOthers_11 : decode cX0_isAheadOfAllOthers 11 = .ok (.if_acmp .eq 22, 3) := by decide +kernel
theorem dX0_isAheadOfAllOthers_14 : decode cX0_isAheadOfAllOthers 14 = .ok (.aload_n 0, 1) := by decide +kernel
theorem dX0_isAheadOfAllOthers_15 : decode cX0_isAheadOfAllOthers 15 = .ok (.aload_n 2, 1) := by decide +kernel
theorem dX0_isAheadOfAllOthers_16 : decode cX0_isAheadOfAllOthers 16 = .ok (.invokevirtual 105, 3) := by decide +kernel
theorem dX0_isAheadOfAllOthers_19 : decode cX0_isAheadOfAllOthers 19 = .ok (.ifCond .ne 14, 3) := by decide +kernel
theorem dX0_isAheadOfAllOthers_22 : decode cX0_isAheadOfAllOthers 22 = .ok (.aload_n 0, 1) := by decide +kernel
theorem dX0_isAheadOfAllOthers_23 : decode cX0_isAheadOfAllOthers 23 = .ok (.aload_n 2, 1) := by decide +kernel
theorem dX0_isAheadOfAllOthers_24 : decode cX0_isAheadOfAllOthers 24 = .ok (.aload_n 1, 1) := by decide +kernel
theorem dX0_isAheadOfAllOthers_25 : decode cX0_isAheadOfAllOthers 25 = .ok (.invokevirtual 109, 3) := by decide +kernel
theorem dX0_isAheadOfAllOthers_28 : decode cX0_isAheadOfAllOthers 28 = .ok (.ifCond .eq 5, 3) := by decide +kernel
theorem dX0_isAheadOfAllOthers_31 : decode cX0_isAheadOfAllOthers 31 = .ok (.iconst 0, 1) := by decide +kernel
theorem dX0_isAheadOfAllOthers_32 : decode cX0_isAheadOfAllOthers 32 = .ok (.ireturn, 1) := by decide +kernel
theorem dX0_isAheadOfAllOthers_33 : decode cX0_isAheadOfAllOthers 33 = .ok (.aload_n 2, 1) := by decide +kernel
theorem dX0_isAheadOfAllOthers_34 : decode cX0_isAheadOfAllOthers 34 = .ok (.getfield 61, 3) := by decide +kernel
theorem dX0_isAheadOfAllOthers_37 : decode cX0_isAheadOfAllOthers 37 = .ok (.astore_n 2, 1) := by decide +kernel
theorem dX0_isAheadOfAllOthers_38 : decode cX0_isAheadOfAllOthers 38 = .ok (.goto (-33), 3) := by decide +kernel
theorem dX0_isAheadOfAllOthers_41 : decode cX0_isAheadOfAllOthers 41 = .ok (.iconst 1, 1) := by decide +kernel
theorem dX0_isAheadOfAllOthers_42 : decode cX0_isAheadOfAllOthers 42 = .ok (.ireturn, 1) := by decide +kernel
theorem dX0_passHours_0 : decode cX0_passHours 0 = .ok (.iconst 0, 1) := by decide +kernel
theorem dX0_passHours_1 : decode cX0_passHours 1 = .ok (.istore_n 2, 1) := by decide +kernel
theorem dX0_passHours_2 : decode cX0_passHours 2 = .ok (.iload_n 2, 1) := by decide +kernel
theorem dX0_passHours_3 : decode cX0_passHours 3 = .ok (.iload_n 1, 1) := by decide +kernel
theorem dX0_passHours_4 : decode cX0_passHours 4 = .ok (.if_icmp .ge 64, 3) := by decide +kernel
theorem dX0_passHours_7 : decode cX0_passHours 7 = .ok (.aload_n 0, 1) := by decide +kernel
theorem dX0_passHours_8 : decode cX0_passHours 8 = .ok (.dup, 1) := by decide +kernel
theorem dX0_passHours_9 : decode cX0_passHours 9 = .ok (.getfield 21, 3) := by decide +kernel
theorem dX0_passHours_12 : decode cX0_passHours 12 = .ok (.iconst 1, 1) := by decide +kernel
theorem dX0_passHours_13 : decode cX0_passHours 13 = .ok (.iadd, 1) := by decide +kernel
theorem dX0_passHours_14 : decode cX0_passHours 14 = .ok (.putfield 21, 3) := by decide +kernel
theorem dX0_passHours_17 : decode cX0_passHours 17 = .ok (.aload_n 0, 1) := by decide +kernel
theorem dX0_passHours_18 : decode cX0_passHours 18 = .ok (.invokevirtual 116, 3) := by decide +kernel
theorem dX0_passHours_21 : decode cX0_passHours 21 = .ok (.aload_n 0, 1) := by decide +kernel
theorem dX0_passHours_22 : decode cX0_passHours 22 = .ok (.aconst_null, 1) := by decide +kernel
theorem dX0_passHours_23 : decode cX0_passHours 23 = .ok (.invokevirtual 119, 3) := by decide +kernel
theorem dX0_passHours_26 : decode cX0_passHours 26 = .ok (.astore_n 3, 1) := by decide +kernel
theorem dX0_passHours_27 : decode cX0_passHours 27 = .ok (.aload_n 0, 1) := by decide +kernel
theorem dX0_passHours_28 : decode cX0_passHours 28 = .ok (.aload_n 3, 1) := by decide +kernel
theorem dX0_passHours_29 : decode cX0_passHours 29 = .ok (.invokestatic 123, 3) := by decide +kernel
theorem dX0_passHours_32 : decode cX0_passHours 32 = .ok (.putfield 24, 3) := by decide +kernel
theorem dX0_passHours_35 : decode cX0_passHours 35 = .ok (.aload_n 3, 1) := by decide +kernel
theorem dX0_passHours_36 : decode cX0_passHours 36 = .ok (.ifnonnull 16, 3) := by decide +kernel
theorem dX0_passHours_39 : decode cX0_passHours 39 = .ok (.aload_n 0, 1) := by decide +kernel
theorem dX0_passHours_40 : decode cX0_passHours 40 = .ok (.dup, 1) := by decide +kernel
theorem dX0_passHours_41 : decode cX0_passHours 41 = .ok (.getfield 27, 3) := by decide +kernel
theorem dX0_passHours_44 : decode cX0_passHours 44 = .ok (.iconst 1, 1) := by decide +kernel
theorem dX0_passHours_45 : decode cX0_passHours 45 = .ok (.iadd, 1) := by decide +kernel
theorem dX0_passHours_46 : decode cX0_passHours 46 = .ok (.putfield 27, 3) := by decide +kernel
theorem dX0_passHours_49 : decode cX0_passHours 49 = .ok (.goto 13, 3) := by decide +kernel
theorem dX0_passHours_52 : decode cX0_passHours 52 = .ok (.aload_n 0, 1) := by decide +kernel
theorem dX0_passHours_53 : decode cX0_passHours 53 = .ok (.aload_n 3, 1) := by decide +kernel
theorem dX0_passHours_54 : decode cX0_passHours 54 = .ok (.aload_n 0, 1) := by decide +kernel
theorem dX0_passHours_55 : decode cX0_passHours 55 = .ok (.aload_n 3, 1) := by decide +kernel
theorem dX0_passHours_56 : decode cX0_passHours 56 = .ok (.invokevirtual 126, 3) := by decide +kernel
theorem dX0_passHours_59 : decode cX0_passHours 59 = .ok (.invokevirtual 129, 3) := by decide +kernel
theorem dX0_passHours_62 : decode cX0_passHours 62 = .ok (.iinc 2 1, 3) := by decide +kernel
theorem dX0_passHours_65 : decode cX0_passHours 65 = .ok (.goto (-63), 3) := by decide +kernel
theorem dX0_passHours_68 : decode cX0_passHours 68 = .ok (.return_, 1) := by decide +kernel
theorem dX0_letWaterIn_0 : decode cX0_letWaterIn 0 = .ok (.aload_n 0, 1) := by decide +kernel
theorem dX0_letWaterIn_1 : decode cX0_letWaterIn 1 = .ok (.aload_n 0, 1) := by decide +kernel
theorem dX0_letWaterIn_2 : decode cX0_letWaterIn 2 = .ok (.getfield 21, 3) := by decide +kernel
theorem dX0_letWaterIn_5 : decode cX0_letWaterIn 5 = .ok (.invokevirtual 95, 3) := by decide +kernel
theorem dX0_letWaterIn_8 : decode cX0_letWaterIn 8 = .ok (.istore_n 1, 1) := by decide +kernel
theorem dX0_letWaterIn_9 : decode cX0_letWaterIn 9 = .ok (.aload_n 0, 1) := by decide +kernel
theorem dX0_letWaterIn_10 : decode cX0_letWaterIn 10 = .ok (.getfield 53, 3) := by decide +kernel
theorem dX0_letWaterIn_13 : decode cX0_letWaterIn 13 = .ok (.astore_n 2, 1) := by decide +kernel
theorem dX0_letWaterIn_14 : decode cX0_letWaterIn 14 = .ok (.aload_n 2, 1) := by decide +kernel
theorem dX0_letWaterIn_15 : decode cX0_letWaterIn 15 = .ok (.ifnull 29, 3) := by decide +kernel
theorem dX0_letWaterIn_18 : decode cX0_letWaterIn 18 = .ok (.aload_n 0, 1) := by decide +kernel
theorem dX0_letWaterIn_19 : decode cX0_letWaterIn 19 = .ok (.dup, 1) := by decide +kernel
theorem dX0_letWaterIn_20 : decode cX0_letWaterIn 20 = .ok (.getfield 30, 3) := by decide +kernel
theorem dX0_letWaterIn_23 : decode cX0_letWaterIn 23 = .ok (.aload_n 2, 1) := by decide +kernel
theorem dX0_letWaterIn_24 : decode cX0_letWaterIn 24 = .ok (.aload_n 0, 1) := by decide +kernel
theorem dX0_letWaterIn_25 : decode cX0_letWaterIn 25 = .ok (.getfield 21, 3) := by decide +kernel
theorem dX0_letWaterIn_28 : decode cX0_letWaterIn 28 = .ok (.iload_n 1, 1) := by decide +kernel
theorem dX0_letWaterIn_29 : decode cX0_letWaterIn 29 = .ok (.invokevirtual 133, 3) := by decide +kernel
theorem dX0_letWaterIn_32 : decode cX0_letWaterIn 32 = .ok (.iadd, 1) := by decide +kernel
theorem dX0_letWaterIn_33 : decode cX0_letWaterIn 33 = .ok (.putfield 30, 3) := by decide +kernel
theorem dX0_letWaterIn_36 : decode cX0_letWaterIn 36 = .ok (.aload_n 2, 1) := by decide +kernel
theorem dX0_letWaterIn_37 : decode cX0_letWaterIn 37 = .ok (.getfield 61, 3) := by decide +kernel
theorem dX0_letWaterIn_40 : decode cX0_letWaterIn 40 = .ok (.astore_n 2, 1) := by decide +kernel
theorem dX0_letWaterIn_41 : decode cX0_letWaterIn 41 = .ok (.goto (-27), 3) := by decide +kernel
theorem dX0_letWaterIn_44 : decode cX0_letWaterIn 44 = .ok (.return_, 1) := by decide +kernel
theorem dX0_turn_0 : decode cX0_turn 0 = .ok (.aload_n 1, 1) := by decide +kernel
theorem dX0_turn_1 : decode cX0_turn 1 = .ok (.aload_n 1, 1) := by decide +kernel
theorem dX0_turn_2 : decode cX0_turn 2 = .ok (.aload_n 0, 1) := by decide +kernel
theorem dX0_turn_3 : decode cX0_turn 3 = .ok (.aload_n 0, 1) := by decide +kernel
theorem dX0_turn_4 : decode cX0_turn 4 = .ok (.getfield 21, 3) := by decide +kernel
theorem dX0_turn_7 : decode cX0_turn 7 = .ok (.invokevirtual 95, 3) := by decide +kernel
theorem dX0_turn_10 : decode cX0_turn 10 = .ok (.invokevirtual 98, 3) := by decide +kernel
theorem dX0_turn_13 : decode cX0_turn 13 = .ok (.invokevirtual 137, 3) := by decide +kernel
theorem dX0_turn_16 : decode cX0_turn 16 = .ok (.istore_n 2, 1) := by decide +kernel
theorem dX0_turn_17 : decode cX0_turn 17 = .ok (.aload_n 1, 1) := by decide +kernel
theorem dX0_turn_18 : decode cX0_turn 18 = .ok (.dup, 1) := by decide +kernel
theorem dX0_turn_19 : decode cX0_turn 19 = .ok (.getfield 78, 3) := by decide +kernel
theorem dX0_turn_22 : decode cX0_turn 22 = .ok (.aload_n 0, 1) := by decide +kernel
theorem dX0_turn_23 : decode cX0_turn 23 = .ok (.getfield 18, 3) := by decide +kernel
theorem dX0_turn_26 : decode cX0_turn 26 = .ok (.isub, 1) := by decide +kernel
theorem dX0_turn_27 : decode cX0_turn 27 = .ok (.putfield 78, 3) := by decide +kernel
theorem dX0_turn_30 : decode cX0_turn 30 = .ok (.aload_n 0, 1) := by decide +kernel
theorem dX0_turn_31 : decode cX0_turn 31 = .ok (.dup, 1) := by decide +kernel
theorem dX0_turn_32 : decode cX0_turn 32 = .ok (.getfield 33, 3) := by decide +kernel
theorem dX0_turn_35 : decode cX0_turn 35 = .ok (.aload_n 0, 1) := by decide +kernel
theorem dX0_turn_36 : decode cX0_turn 36 = .ok (.getfield 18, 3) := by decide +kernel
theorem dX0_turn_39 : decode cX0_turn 39 = .ok (.iadd, 1) := by decide +kernel
theorem dX0_turn_40 : decode cX0_turn 40 = .ok (.putfield 33, 3) := by decide +kernel
theorem dX0_turn_43 : decode cX0_turn 43 = .ok (.aload_n 1, 1) := by decide +kernel
theorem dX0_turn_44 : decode cX0_turn 44 = .ok (.dup, 1) := by decide +kernel
theorem dX0_turn_45 : decode cX0_turn 45 = .ok (.getfield 140, 3) := by decide +kernel
theorem dX0_turn_48 : decode cX0_turn 48 = .ok (.iconst 1, 1) := by decide +kernel
theorem dX0_turn_49 : decode cX0_turn 49 = .ok (.iadd, 1) := by decide +kernel
theorem dX0_turn_50 : decode cX0_turn 50 = .ok (.putfield 140, 3) := by decide +kernel
theorem dX0_turn_53 : decode cX0_turn 53 = .ok (.iload_n 2, 1) := by decide +kernel
theorem dX0_turn_54 : decode cX0_turn 54 = .ok (.ireturn, 1) := by decide +kernel
theorem dX0_grind_0 : decode cX0_grind 0 = .ok (.iload_n 2, 1) := by decide +kernel
theorem dX0_grind_1 : decode cX0_grind 1 = .ok (.istore_n 3, 1) := by decide +kernel
theorem dX0_grind_2 : decode cX0_grind 2 = .ok (.aload_n 1, 1) := by decide +kernel
theorem dX0_grind_3 : decode cX0_grind 3 = .ok (.getfield 81, 3) := by decide +kernel
theorem dX0_grind_6 : decode cX0_grind 6 = .ok (.istore 4, 2) := by decide +kernel
theorem dX0_grind_8 : decode cX0_grind 8 = .ok (.iload 4, 2) := by decide +kernel
theorem dX0_grind_10 : decode cX0_grind 10 = .ok (.ifCond .le 72, 3) := by decide +kernel
theorem dX0_grind_13 : decode cX0_grind 13 = .ok (.iload_n 3, 1) := by decide +kernel
theorem dX0_grind_14 : decode cX0_grind 14 = .ok (.aload_n 1, 1) := by decide +kernel
theorem dX0_grind_15 : decode cX0_grind 15 = .ok (.iconst 0, 1) := by decide +kernel
theorem dX0_grind_16 : decode cX0_grind 16 = .ok (.invokevirtual 84, 3) := by decide +kernel
theorem dX0_grind_19 : decode cX0_grind 19 = .ok (.if_icmp .lt 63, 3) := by decide +kernel
theorem dX0_grind_22 : decode cX0_grind 22 = .ok (.iload_n 3, 1) := by decide +kernel
theorem dX0_grind_23 : decode cX0_grind 23 = .ok (.aload_n 1, 1) := by decide +kernel
theorem dX0_grind_24 : decode cX0_grind 24 = .ok (.iconst 0, 1) := by decide +kernel
theorem dX0_grind_25 : decode cX0_grind 25 = .ok (.invokevirtual 84, 3) := by decide +kernel
theorem dX0_grind_28 : decode cX0_grind 28 = .ok (.isub, 1) := by decide +kernel
theorem dX0_grind_29 : decode cX0_grind 29 = .ok (.istore_n 3, 1) := by decide +kernel
theorem dX0_grind_30 : decode cX0_grind 30 = .ok (.aload_n 0, 1) := by decide +kernel
theorem dX0_grind_31 : decode cX0_grind 31 = .ok (.getfield 21, 3) := by decide +kernel
theorem dX0_grind_34 : decode cX0_grind 34 = .ok (.aload_n 1, 1) := by decide +kernel
theorem dX0_grind_35 : decode cX0_grind 35 = .ok (.invokevirtual 101, 3) := by decide +kernel
theorem dX0_grind_38 : decode cX0_grind 38 = .ok (.if_icmp .le 13, 3) := by decide +kernel
theorem dX0_grind_41 : decode cX0_grind 41 = .ok (.aload_n 0, 1) := by decide +kernel
theorem dX0_grind_42 : decode cX0_grind 42 = .ok (.dup, 1) := by decide +kernel
theorem dX0_grind_43 : decode cX0_grind 43 = .ok (.getfield 42, 3) := by decide +kernel
theorem dX0_grind_46 : decode cX0_grind 46 = .ok (.iconst 1, 1) := by decide +kernel
theorem dX0_grind_47 : decode cX0_grind 47 = .ok (.iadd, 1) := by decide +kernel
theorem dX0_grind_48 : decode cX0_grind 48 = .ok (.putfield 42, 3) := by decide +kernel
theorem dX0_grind_51 : decode cX0_grind 51 = .ok (.aload_n 0, 1) := by decide +kernel
theorem dX0_grind_52 : decode cX0_grind 52 = .ok (.dup, 1) := by decide +kernel
theorem dX0_grind_53 : decode cX0_grind 53 = .ok (.getfield 39, 3) := by decide +kernel
theorem dX0_grind_56 : decode cX0_grind 56 = .ok (.iconst 1, 1) := by decide +kernel
theorem dX0_grind_57 : decode cX0_grind 57 = .ok (.iadd, 1) := by decide +kernel
theorem dX0_grind_58 : decode cX0_grind 58 = .ok (.putfield 39, 3) := by decide +kernel
theorem dX0_grind_61 : decode cX0_grind 61 = .ok (.aload_n 1, 1) := by decide +kernel
theorem dX0_grind_62 : decode cX0_grind 62 = .ok (.dup, 1) := by decide +kernel
theorem dX0_grind_63 : decode cX0_grind 63 = .ok (.getfield 143, 3) := by decide +kernel
theorem dX0_grind_66 : decode cX0_grind 66 = .ok (.iconst 1, 1) := by decide +kernel
theorem dX0_grind_67 : decode cX0_grind 67 = .ok (.iadd, 1) := by decide +kernel
theorem dX0_grind_68 : decode cX0_grind 68 = .ok (.putfield 143, 3) := by decide +kernel
theorem dX0_grind_71 : decode cX0_grind 71 = .ok (.aload_n 1, 1) := by decide +kernel
theorem dX0_grind_72 : decode cX0_grind 72 = .ok (.iconst 0, 1) := by decide +kernel
theorem dX0_grind_73 : decode cX0_grind 73 = .ok (.invokevirtual 144, 3) := by decide +kernel
theorem dX0_grind_76 : decode cX0_grind 76 = .ok (.iinc 4 (-1), 3) := by decide +kernel
theorem dX0_grind_79 : decode cX0_grind 79 = .ok (.goto (-71), 3) := by decide +kernel
theorem dX0_grind_82 : decode cX0_grind 82 = .ok (.aload_n 1, 1) := by decide +kernel
theorem dX0_grind_83 : decode cX0_grind 83 = .ok (.iload_n 3, 1) := by decide +kernel
theorem dX0_grind_84 : decode cX0_grind 84 = .ok (.invokevirtual 148, 3) := by decide +kernel
theorem dX0_grind_87 : decode cX0_grind 87 = .ok (.return_, 1) := by decide +kernel
theorem dX1_init_0 : decode cX1_init 0 = .ok (.aload_n 0, 1) := by decide +kernel
theorem dX1_init_1 : decode cX1_init 1 = .ok (.invokespecial 3, 3) := by decide +kernel
theorem dX1_init_4 : decode cX1_init 4 = .ok (.aload_n 0, 1) := by decide +kernel
theorem dX1_init_5 : decode cX1_init 5 = .ok (.bipush 6, 2) := by decide +kernel
theorem dX1_init_7 : decode cX1_init 7 = .ok (.anewarray 9, 3) := by decide +kernel
theorem dX1_init_10 : decode cX1_init 10 = .ok (.putfield 11, 3) := by decide +kernel
theorem dX1_init_13 : decode cX1_init 13 = .ok (.aload_n 0, 1) := by decide +kernel
theorem dX1_init_14 : decode cX1_init 14 = .ok (.iconst 0, 1) := by decide +kernel
theorem dX1_init_15 : decode cX1_init 15 = .ok (.putfield 17, 3) := by decide +kernel
theorem dX1_init_18 : decode cX1_init 18 = .ok (.iconst 0, 1) := by decide +kernel
theorem dX1_init_19 : decode cX1_init 19 = .ok (.istore_n 1, 1) := by decide +kernel
theorem dX1_init_20 : decode cX1_init 20 = .ok (.iload_n 1, 1) := by decide +kernel
theorem dX1_init_21 : decode cX1_init 21 = .ok (.bipush 6, 2) := by decide +kernel
theorem dX1_init_23 : decode cX1_init 23 = .ok (.if_icmp .ge 22, 3) := by decide +kernel
theorem dX1_init_26 : decode cX1_init 26 = .ok (.aload_n 0, 1) := by decide +kernel
theorem dX1_init_27 : decode cX1_init 27 = .ok (.getfield 11, 3) := by decide +kernel
theorem dX1_init_30 : decode cX1_init 30 = .ok (.iload_n 1, 1) := by decide +kernel
theorem dX1_init_31 : decode cX1_init 31 = .ok (.new 9, 3) := by decide +kernel
theorem dX1_init_34 : decode cX1_init 34 = .ok (.dup, 1) := by decide +kernel
theorem dX1_init_35 : decode cX1_init 35 = .ok (.invokespecial 21, 3) := by decide +kernel
theorem dX1_init_38 : decode cX1_init 38 = .ok (.aastore, 1) := by decide +kernel
theorem dX1_init_39 : decode cX1_init 39 = .ok (.iinc 1 1, 3) := by decide +kernel
theorem dX1_init_42 : decode cX1_init 42 = .ok (.goto (-22), 3) := by decide +kernel
theorem dX1_init_45 : decode cX1_init 45 = .ok (.return_, 1) := by decide +kernel
theorem dX1_save_0 : decode cX1_save 0 = .ok (.aload_n 0, 1) := by decide +kernel
theorem dX1_save_1 : decode cX1_save 1 = .ok (.getfield 17, 3) := by decide +kernel
theorem dX1_save_4 : decode cX1_save 4 = .ok (.bipush 6, 2) := by decide +kernel
theorem dX1_save_6 : decode cX1_save 6 = .ok (.if_icmp .lt 7, 3) := by decide +kernel
theorem dX1_save_9 : decode cX1_save 9 = .ok (.aload_n 0, 1) := by decide +kernel
theorem dX1_save_10 : decode cX1_save 10 = .ok (.invokevirtual 22, 3) := by decide +kernel
theorem dX1_save_13 : decode cX1_save 13 = .ok (.aload_n 0, 1) := by decide +kernel
theorem dX1_save_14 : decode cX1_save 14 = .ok (.aload_n 0, 1) := by decide +kernel
theorem dX1_save_15 : decode cX1_save 15 = .ok (.getfield 17, 3) := by decide +kernel
theorem dX1_save_18 : decode cX1_save 18 = .ok (.invokevirtual 25, 3) := by decide +kernel
theorem dX1_save_21 : decode cX1_save 21 = .ok (.astore_n 2, 1) := by decide +kernel
theorem dX1_save_22 : decode cX1_save 22 = .ok (.aload_n 2, 1) := by decide +kernel
theorem dX1_save_23 : decode cX1_save 23 = .ok (.ifnull 18, 3) := by decide +kernel
theorem dX1_save_26 : decode cX1_save 26 = .ok (.aload_n 2, 1) := by decide +kernel
theorem dX1_save_27 : decode cX1_save 27 = .ok (.aload_n 1, 1) := by decide +kernel
theorem dX1_save_28 : decode cX1_save 28 = .ok (.invokevirtual 29, 3) := by decide +kernel
theorem dX1_save_31 : decode cX1_save 31 = .ok (.aload_n 0, 1) := by decide +kernel
theorem dX1_save_32 : decode cX1_save 32 = .ok (.dup, 1) := by decide +kernel
theorem dX1_save_33 : decode cX1_save 33 = .ok (.getfield 17, 3) := by decide +kernel
theorem dX1_save_36 : decode cX1_save 36 = .ok (.iconst 1, 1) := by decide +kernel
theorem dX1_save_37 : decode cX1_save 37 = .ok (.iadd, 1) := by decide +kernel
theorem dX1_save_38 : decode cX1_save 38 = .ok (.putfield 17, 3) := by decide +kernel
theorem dX1_save_41 : decode cX1_save 41 = .ok (.return_, 1) := by decide +kernel
theorem dX1_restoreLatest_0 : decode cX1_restoreLatest 0 = .ok (.aload_n 0, 1) := by decide +kernel
theorem dX1_restoreLatest_1 : decode cX1_restoreLatest 1 = .ok (.aload_n 0, 1) := by decide +kernel
theorem dX1_restoreLatest_2 : decode cX1_restoreLatest 2 = .ok (.getfield 17, 3) := by decide +kernel
theorem dX1_restoreLatest_5 : decode cX1_restoreLatest 5 = .ok (.iconst 1, 1) := by decide +kernel
theorem dX1_restoreLatest_6 : decode cX1_restoreLatest 6 = .ok (.isub, 1) := by decide +kernel
theorem dX1_restoreLatest_7 : decode cX1_restoreLatest 7 = .ok (.invokevirtual 25, 3) := by decide +kernel
theorem dX1_restoreLatest_10 : decode cX1_restoreLatest 10 = .ok (.astore_n 2, 1) := by decide +kernel
theorem dX1_restoreLatest_11 : decode cX1_restoreLatest 11 = .ok (.aload_n 2, 1) := by decide +kernel
theorem dX1_restoreLatest_12 : decode cX1_restoreLatest 12 = .ok (.ifnull 18, 3) := by decide +kernel
theorem dX1_restoreLatest_15 : decode cX1_restoreLatest 15 = .ok (.aload_n 1, 1) := by decide +kernel
theorem dX1_restoreLatest_16 : decode cX1_restoreLatest 16 = .ok (.aload_n 2, 1) := by decide +kernel
theorem dX1_restoreLatest_17 : decode cX1_restoreLatest 17 = .ok (.invokevirtual 29, 3) := by decide +kernel
theorem dX1_restoreLatest_20 : decode cX1_restoreLatest 20 = .ok (.aload_n 0, 1) := by decide +kernel
theorem dX1_restoreLatest_21 : decode cX1_restoreLatest 21 = .ok (.dup, 1) := by decide +kernel
theorem dX1_restoreLatest_22 : decode cX1_restoreLatest 22 = .ok (.getfield 17, 3) := by decide +kernel
theorem dX1_restoreLatest_25 : decode cX1_restoreLatest 25 = .ok (.iconst 1, 1) := by decide +kernel
theorem dX1_restoreLatest_26 : decode cX1_restoreLatest 26 = .ok (.isub, 1) := by decide +kernel
theorem dX1_restoreLatest_27 : decode cX1_restoreLatest 27 = .ok (.putfield 17, 3) := by decide +kernel
theorem dX1_restoreLatest_30 : decode cX1_restoreLatest 30 = .ok (.return_, 1) := by decide +kernel
theorem dX1_dropOldest_0 : decode cX1_dropOldest 0 = .ok (.aload_n 0, 1) := by decide +kernel
theorem dX1_dropOldest_1 : decode cX1_dropOldest 1 = .ok (.getfield 11, 3) := by decide +kernel
theorem dX1_dropOldest_4 : decode cX1_dropOldest 4 = .ok (.iconst 0, 1) := by decide +kernel
theorem dX1_dropOldest_5 : decode cX1_dropOldest 5 = .ok (.aaload, 1) := by decide +kernel
theorem dX1_dropOldest_6 : decode cX1_dropOldest 6 = .ok (.astore_n 1, 1) := by decide +kernel
theorem dX1_dropOldest_7 : decode cX1_dropOldest 7 = .ok (.iconst 1, 1) := by decide +kernel
theorem dX1_dropOldest_8 : decode cX1_dropOldest 8 = .ok (.istore_n 2, 1) := by decide +kernel
theorem dX1_dropOldest_9 : decode cX1_dropOldest 9 = .ok (.iload_n 2, 1) := by decide +kernel
theorem dX1_dropOldest_10 : decode cX1_dropOldest 10 = .ok (.bipush 6, 2) := by decide +kernel
theorem dX1_dropOldest_12 : decode cX1_dropOldest 12 = .ok (.if_icmp .ge 23, 3) := by decide +kernel
theorem dX1_dropOldest_15 : decode cX1_dropOldest 15 = .ok (.aload_n 0, 1) := by decide +kernel
theorem dX1_dropOldest_16 : decode cX1_dropOldest 16 = .ok (.getfield 11, 3) := by decide +kernel
theorem dX1_dropOldest_19 : decode cX1_dropOldest 19 = .ok (.iload_n 2, 1) := by decide +kernel
theorem dX1_dropOldest_20 : decode cX1_dropOldest 20 = .ok (.iconst 1, 1) := by decide +kernel
theorem dX1_dropOldest_21 : decode cX1_dropOldest 21 = .ok (.isub, 1) := by decide +kernel
theorem dX1_dropOldest_22 : decode cX1_dropOldest 22 = .ok (.aload_n 0, 1) := by decide +kernel
theorem dX1_dropOldest_23 : decode cX1_dropOldest 23 = .ok (.getfield 11, 3) := by decide +kernel
theorem dX1_dropOldest_26 : decode cX1_dropOldest 26 = .ok (.iload_n 2, 1) := by decide +kernel
theorem dX1_dropOldest_27 : decode cX1_dropOldest 27 = .ok (.aaload, 1) := by decide +kernel
theorem dX1_dropOldest_28 : decode cX1_dropOldest 28 = .ok (.aastore, 1) := by decide +kernel
theorem dX1_dropOldest_29 : decode cX1_dropOldest 29 = .ok (.iinc 2 1, 3) := by decide +kernel
theorem dX1_dropOldest_32 : decode cX1_dropOldest 32 = .ok (.goto (-23), 3) := by decide +kernel
theorem dX1_dropOldest_35 : decode cX1_dropOldest 35 = .ok (.aload_n 0, 1) := by decide +kernel
theorem dX1_dropOldest_36 : decode cX1_dropOldest 36 = .ok (.getfield 11, 3) := by decide +kernel
theorem dX1_dropOldest_39 : decode cX1_dropOldest 39 = .ok (.iconst 5, 1) := by decide +kernel
theorem dX1_dropOldest_40 : decode cX1_dropOldest 40 = .ok (.aload_n 1, 1) := by decide +kernel
theorem dX1_dropOldest_41 : decode cX1_dropOldest 41 = .ok (.aastore, 1) := by decide +kernel
theorem dX1_dropOldest_42 : decode cX1_dropOldest 42 = .ok (.aload_n 0, 1) := by decide +kernel
theorem dX1_dropOldest_43 : decode cX1_dropOldest 43 = .ok (.dup, 1) := by decide +kernel
theorem dX1_dropOldest_44 : decode cX1_dropOldest 44 = .ok (.getfield 17, 3) := by decide +kernel
theorem dX1_dropOldest_47 : decode cX1_dropOldest 47 = .ok (.iconst 1, 1) := by decide +kernel
theorem dX1_dropOldest_48 : decode cX1_dropOldest 48 = .ok (.isub, 1) := by decide +kernel
theorem dX1_dropOldest_49 : decode cX1_dropOldest 49 = .ok (.putfield 17, 3) := by decide +kernel
theorem dX1_dropOldest_52 : decode cX1_dropOldest 52 = .ok (.return_, 1) := by decide +kernel
theorem dX1_stateAt_0 : decode cX1_stateAt 0 = .ok (.iload_n 1, 1) := by decide +kernel
theorem dX1_stateAt_1 : decode cX1_stateAt 1 = .ok (.ifCond .lt 18, 3) := by decide +kernel
theorem dX1_stateAt_4 : decode cX1_stateAt 4 = .ok (.iload_n 1, 1) := by decide +kernel
theorem dX1_stateAt_5 : decode cX1_stateAt 5 = .ok (.bipush 6, 2) := by decide +kernel
theorem dX1_stateAt_7 : decode cX1_stateAt 7 = .ok (.if_icmp .ge 12, 3) := by decide +kernel
theorem dX1_stateAt_10 : decode cX1_stateAt 10 = .ok (.aload_n 0, 1) := by decide +kernel
theorem dX1_stateAt_11 : decode cX1_stateAt 11 = .ok (.getfield 11, 3) := by decide +kernel
theorem dX1_stateAt_14 : decode cX1_stateAt 14 = .ok (.iload_n 1, 1) := by decide +kernel
theorem dX1_stateAt_15 : decode cX1_stateAt 15 = .ok (.aaload, 1) := by decide +kernel
theorem dX1_stateAt_16 : decode cX1_stateAt 16 = .ok (.goto 4, 3) := by decide +kernel
theorem dX1_stateAt_19 : decode cX1_stateAt 19 = .ok (.aconst_null, 1) := by decide +kernel
theorem dX1_stateAt_20 : decode cX1_stateAt 20 = .ok (.areturn, 1) := by decide +kernel
theorem dX2_init_0 : decode cX2_init 0 = .ok (.aload_n 0, 1) := by decide +kernel
theorem dX2_init_1 : decode cX2_init 1 = .ok (.invokespecial 3, 3) := by decide +kernel
theorem dX2_init_4 : decode cX2_init 4 = .ok (.aload_n 0, 1) := by decide +kernel
theorem dX2_init_5 : decode cX2_init 5 = .ok (.sipush 200, 3) := by decide +kernel
theorem dX2_init_8 : decode cX2_init 8 = .ok (.putfield 9, 3) := by decide +kernel
theorem dX2_init_11 : decode cX2_init 11 = .ok (.aload_n 0, 1) := by decide +kernel
theorem dX2_init_12 : decode cX2_init 12 = .ok (.iconst 0, 1) := by decide +kernel
theorem dX2_init_13 : decode cX2_init 13 = .ok (.putfield 15, 3) := by decide +kernel
theorem dX2_init_16 : decode cX2_init 16 = .ok (.aload_n 0, 1) := by decide +kernel
theorem dX2_init_17 : decode cX2_init 17 = .ok (.bipush 20, 2) := by decide +kernel
theorem dX2_init_19 : decode cX2_init 19 = .ok (.putfield 18, 3) := by decide +kernel
theorem dX2_init_22 : decode cX2_init 22 = .ok (.aload_n 0, 1) := by decide +kernel
theorem dX2_init_23 : decode cX2_init 23 = .ok (.iconst 0, 1) := by decide +kernel
theorem dX2_init_24 : decode cX2_init 24 = .ok (.putfield 21, 3) := by decide +kernel
theorem dX2_init_27 : decode cX2_init 27 = .ok (.aload_n 0, 1) := by decide +kernel
theorem dX2_init_28 : decode cX2_init 28 = .ok (.bipush 11, 2) := by decide +kernel
theorem dX2_init_30 : decode cX2_init 30 = .ok (.putfield 24, 3) := by decide +kernel
theorem dX2_init_33 : decode cX2_init 33 = .ok (.aload_n 0, 1) := by decide +kernel
theorem dX2_init_34 : decode cX2_init 34 = .ok (.bipush 40, 2) := by decide +kernel
theorem dX2_init_36 : decode cX2_init 36 = .ok (.putfield 27, 3) := by decide +kernel
theorem dX2_init_39 : decode cX2_init 39 = .ok (.aload_n 0, 1) := by decide +kernel
theorem dX2_init_40 : decode cX2_init 40 = .ok (.bipush 10, 2) := by decide +kernel
theorem dX2_init_42 : decode cX2_init 42 = .ok (.putfield 30, 3) := by decide +kernel
theorem dX2_init_45 : decode cX2_init 45 = .ok (.aload_n 0, 1) := by decide +kernel
theorem dX2_init_46 : decode cX2_init 46 = .ok (.iconst 0, 1) := by decide +kernel
theorem dX2_init_47 : decode cX2_init 47 = .ok (.putfield 33, 3) := by decide +kernel
theorem dX2_init_50 : decode cX2_init 50 = .ok (.aload_n 0, 1) := by decide +kernel
theorem dX2_init_51 : decode cX2_init 51 = .ok (.iconst 0, 1) := by decide +kernel
theorem dX2_init_52 : decode cX2_init 52 = .ok (.putfield 36, 3) := by decide +kernel
theorem dX2_init_55 : decode cX2_init 55 = .ok (.aload_n 0, 1) := by decide +kernel
theorem dX2_init_56 : decode cX2_init 56 = .ok (.iconst 0, 1) := by decide +kernel
theorem dX2_init_57 : decode cX2_init 57 = .ok (.putfield 39, 3) := by decide +kernel
theorem dX2_init_60 : decode cX2_init 60 = .ok (.aload_n 0, 1) := by decide +kernel
theorem dX2_init_61 : decode cX2_init 61 = .ok (.bipush 6, 2) := by decide +kernel
theorem dX2_init_63 : decode cX2_init 63 = .ok (.newarray .int, 2) := by decide +kernel
theorem dX2_init_65 : decode cX2_init 65 = .ok (.putfield 42, 3) := by decide +kernel
theorem dX2_init_68 : decode cX2_init 68 = .ok (.aload_n 0, 1) := by decide +kernel
theorem dX2_init_69 : decode cX2_init 69 = .ok (.bipush 6, 2) := by decide +kernel
theorem dX2_init_71 : decode cX2_init 71 = .ok (.newarray .int, 2) := by decide +kernel
theorem dX2_init_73 : decode cX2_init 73 = .ok (.putfield 46, 3) := by decide +kernel
theorem dX2_init_76 : decode cX2_init 76 = .ok (.aload_n 0, 1) := by decide +kernel
theorem dX2_init_77 : decode cX2_init 77 = .ok (.bipush 6, 2) := by decide +kernel
theorem dX2_init_79 : decode cX2_init 79 = .ok (.newarray .int, 2) := by decide +kernel
theorem dX2_init_81 : decode cX2_init 81 = .ok (.putfield 49, 3) := by decide +kernel
theorem dX2_init_84 : decode cX2_init 84 = .ok (.aload_n 0, 1) := by decide +kernel
theorem dX2_init_85 : decode cX2_init 85 = .ok (.bipush 6, 2) := by decide +kernel
theorem dX2_init_87 : decode cX2_init 87 = .ok (.newarray .int, 2) := by decide +kernel
theorem dX2_init_89 : decode cX2_init 89 = .ok (.putfield 52, 3) := by decide +kernel
theorem dX2_init_92 : decode cX2_init 92 = .ok (.aload_n 0, 1) := by decide +kernel
theorem dX2_init_93 : decode cX2_init 93 = .ok (.iload_n 1, 1) := by decide +kernel
theorem dX2_init_94 : decode cX2_init 94 = .ok (.putfield 55, 3) := by decide +kernel
theorem dX2_init_97 : decode cX2_init 97 = .ok (.aload_n 0, 1) := by decide +kernel
theorem dX2_init_98 : decode cX2_init 98 = .ok (.aload_n 2, 1) := by decide +kernel
theorem dX2_init_99 : decode cX2_init 99 = .ok (.putfield 58, 3) := by decide +kernel
theorem dX2_init_102 : decode cX2_init 102 = .ok (.return_, 1) := by decide +kernel
theorem dX2_copyFrom_0 : decode cX2_copyFrom 0 = .ok (.aload_n 0, 1) := by decide +kernel
theorem dX2_copyFrom_1 : decode cX2_copyFrom 1 = .ok (.aload_n 1, 1) := by decide +kernel
theorem dX2_copyFrom_2 : decode cX2_copyFrom 2 = .ok (.getfield 9, 3) := by decide +kernel
theorem dX2_copyFrom_5 : decode cX2_copyFrom 5 = .ok (.putfield 9, 3) := by decide +kernel
theorem dX2_copyFrom_8 : decode cX2_copyFrom 8 = .ok (.aload_n 0, 1) := by decide +kernel
theorem dX2_copyFrom_9 : decode cX2_copyFrom 9 = .ok (.aload_n 1, 1) := by decide +kernel
theorem dX2_copyFrom_10 : decode cX2_copyFrom 10 = .ok (.getfield 15, 3) := by decide +kernel
theorem dX2_copyFrom_13 : decode cX2_copyFrom 13 = .ok (.putfield 15, 3) := by decide +kernel
theorem dX2_copyFrom_16 : decode cX2_copyFrom 16 = .ok (.aload_n 0, 1) := by decide +kernel
theorem dX2_copyFrom_17 : decode cX2_copyFrom 17 = .ok (.aload_n 1, 1) := by decide +kernel
theorem dX2_copyFrom_18 : decode cX2_copyFrom 18 = .ok (.getfield 18, 3) := by decide +kernel
theorem dX2_copyFrom_21 : decode cX2_copyFrom 21 = .ok (.putfield 18, 3) := by decide +kernel
theorem dX2_copyFrom_24 : decode cX2_copyFrom 24 = .ok (.aload_n 0, 1) := by decide +kernel
theorem dX2_copyFrom_25 : decode cX2_copyFrom 25 = .ok (.aload_n 1, 1) := by decide +kernel
theorem dX2_copyFrom_26 : decode cX2_copyFrom 26 = .ok (.getfield 21, 3) := by decide +kernel
theorem dX2_copyFrom_29 : decode cX2_copyFrom 29 = .ok (.putfield 21, 3) := by decide +kernel
theorem dX2_copyFrom_32 : decode cX2_copyFrom 32 = .ok (.aload_n 0, 1) := by decide +kernel
theorem dX2_copyFrom_33 : decode cX2_copyFrom 33 = .ok (.aload_n 1, 1) := by decide +kernel
theorem dX2_copyFrom_34 : decode cX2_copyFrom 34 = .ok (.getfield 24, 3) := by decide +kernel
theorem dX2_copyFrom_37 : decode cX2_copyFrom 37 = .ok (.putfield 24, 3) := by decide +kernel
theorem dX2_copyFrom_40 : decode cX2_copyFrom 40 = .ok (.aload_n 0, 1) := by decide +kernel
theorem dX2_copyFrom_41 : decode cX2_copyFrom 41 = .ok (.aload_n 1, 1) := by decide +kernel
theorem dX2_copyFrom_42 : decode cX2_copyFrom 42 = .ok (.getfield 27, 3) := by decide +kernel
theorem dX2_copyFrom_45 : decode cX2_copyFrom 45 = .ok (.putfield 27, 3) := by decide +kernel
theorem dX2_copyFrom_48 : decode cX2_copyFrom 48 = .ok (.aload_n 0, 1) := by decide +kernel
theorem dX2_copyFrom_49 : decode cX2_copyFrom 49 = .ok (.aload_n 1, 1) := by decide +kernel
theorem dX2_copyFrom_50 : decode cX2_copyFrom 50 = .ok (.getfield 30, 3) := by decide +kernel
theorem dX2_copyFrom_53 : decode cX2_copyFrom 53 = .ok (.putfield 30, 3) := by decide +kernel
theorem dX2_copyFrom_56 : decode cX2_copyFrom 56 = .ok (.aload_n 0, 1) := by decide +kernel
theorem dX2_copyFrom_57 : decode cX2_copyFrom 57 = .ok (.aload_n 1, 1) := by decide +kernel
theorem dX2_copyFrom_58 : decode cX2_copyFrom 58 = .ok (.getfield 33, 3) := by decide +kernel
theorem dX2_copyFrom_61 : decode cX2_copyFrom 61 = .ok (.putfield 33, 3) := by decide +kernel
theorem dX2_copyFrom_64 : decode cX2_copyFrom 64 = .ok (.aload_n 0, 1) := by decide +kernel
theorem dX2_copyFrom_65 : decode cX2_copyFrom 65 = .ok (.aload_n 1, 1) := by decide +kernel
theorem dX2_copyFrom_66 : decode cX2_copyFrom 66 = .ok (.getfield 36, 3) := by decide +kernel
theorem dX2_copyFrom_69 : decode cX2_copyFrom 69 = .ok (.putfield 36, 3) := by decide +kernel
theorem dX2_copyFrom_72 : decode cX2_copyFrom 72 = .ok (.aload_n 0, 1) := by decide +kernel
theorem dX2_copyFrom_73 : decode cX2_copyFrom 73 = .ok (.aload_n 1, 1) := by decide +kernel
theorem dX2_copyFrom_74 : decode cX2_copyFrom 74 = .ok (.getfield 39, 3) := by decide +kernel
theorem dX2_copyFrom_77 : decode cX2_copyFrom 77 = .ok (.putfield 39, 3) := by decide +kernel
theorem dX2_copyFrom_80 : decode cX2_copyFrom 80 = .ok (.iconst 0, 1) := by decide +kernel
theorem dX2_copyFrom_81 : decode cX2_copyFrom 81 = .ok (.istore_n 2, 1) := by decide +kernel
theorem dX2_copyFrom_82 : decode cX2_copyFrom 82 = .ok (.iload_n 2, 1) := by decide +kernel
theorem dX2_copyFrom_83 : decode cX2_copyFrom 83 = .ok (.bipush 6, 2) := by decide +kernel
theorem dX2_copyFrom_85 : decode cX2_copyFrom 85 = .ok (.if_icmp .ge 57, 3) := by decide +kernel
theorem dX2_copyFrom_88 : decode cX2_copyFrom 88 = .ok (.aload_n 0, 1) := by decide +kernel
theorem dX2_copyFrom_89 : decode cX2_copyFrom 89 = .ok (.getfield 42, 3) := by decide +kernel
theorem dX2_copyFrom_92 : decode cX2_copyFrom 92 = .ok (.iload_n 2, 1) := by decide +kernel
theorem dX2_copyFrom_93 : decode cX2_copyFrom 93 = .ok (.aload_n 1, 1) := by decide +kernel
theorem dX2_copyFrom_94 : decode cX2_copyFrom 94 = .ok (.getfield 42, 3) := by decide +kernel
theorem dX2_copyFrom_97 : decode cX2_copyFrom 97 = .ok (.iload_n 2, 1) := by decide +kernel
theorem dX2_copyFrom_98 : decode cX2_copyFrom 98 = .ok (.iaload, 1) := by decide +kernel
theorem dX2_copyFrom_99 : decode cX2_copyFrom 99 = .ok (.iastore, 1) := by decide +kernel
theorem dX2_copyFrom_100 : decode cX2_copyFrom 100 = .ok (.aload_n 0, 1) := by decide +kernel
theorem dX2_copyFrom_101 : decode cX2_copyFrom 101 = .ok (.getfield 46, 3) := by decide +kernel
theorem dX2_copyFrom_104 : decode cX2_copyFrom 104 = .ok (.iload_n 2, 1) := by decide +kernel
theorem dX2_copyFrom_105 : decode cX2_copyFrom 105 = .ok (.aload_n 1, 1) := by decide +kernel
theorem dX2_copyFrom_106 : decode cX2_copyFrom 106 = .ok (.getfield 46, 3) := by decide +kernel
theorem dX2_copyFrom_109 : decode cX2_copyFrom 109 = .ok (.iload_n 2, 1) := by decide +kernel
theorem dX2_copyFrom_110 : decode cX2_copyFrom 110 = .ok (.iaload, 1) := by decide +kernel
theorem dX2_copyFrom_111 : decode cX2_copyFrom 111 = .ok (.iastore, 1) := by decide +kernel
theorem dX2_copyFrom_112 : decode cX2_copyFrom 112 = .ok (.aload_n 0, 1) := by decide +kernel
theorem dX2_copyFrom_113 : decode cX2_copyFrom 113 = .ok (.getfield 49, 3) := by decide +kernel
theorem dX2_copyFrom_116 : decode cX2_copyFrom 116 = .ok (.iload_n 2, 1) := by decide +kernel
theorem dX2_copyFrom_117 : decode cX2_copyFrom 117 = .ok (.aload_n 1, 1) := by decide +kernel
theorem dX2_copyFrom_118 : decode cX2_copyFrom 118 = .ok (.getfield 49, 3) := by decide +kernel
theorem dX2_copyFrom_121 : decode cX2_copyFrom 121 = .ok (.iload_n 2, 1) := by decide +kernel
theorem dX2_copyFrom_122 : decode cX2_copyFrom 122 = .ok (.iaload, 1) := by decide +kernel
theorem dX2_copyFrom_123 : decode cX2_copyFrom 123 = .ok (.iastore, 1) := by decide +kernel
theorem dX2_copyFrom_124 : decode cX2_copyFrom 124 = .ok (.aload_n 0, 1) := by decide +kernel
theorem dX2_copyFrom_125 : decode cX2_copyFrom 125 = .ok (.getfield 52, 3) := by decide +kernel
theorem dX2_copyFrom_128 : decode cX2_copyFrom 128 = .ok (.iload_n 2, 1) := by decide +kernel
theorem dX2_copyFrom_129 : decode cX2_copyFrom 129 = .ok (.aload_n 1, 1) := by decide +kernel
theorem dX2_copyFrom_130 : decode cX2_copyFrom 130 = .ok (.getfield 52, 3) := by decide +kernel
theorem dX2_copyFrom_133 : decode cX2_copyFrom 133 = .ok (.iload_n 2, 1) := by decide +kernel
theorem dX2_copyFrom_134 : decode cX2_copyFrom 134 = .ok (.iaload, 1) := by decide +kernel
theorem dX2_copyFrom_135 : decode cX2_copyFrom 135 = .ok (.iastore, 1) := by decide +kernel
theorem dX2_copyFrom_136 : decode cX2_copyFrom 136 = .ok (.iinc 2 1, 3) := by decide +kernel
theorem dX2_copyFrom_139 : decode cX2_copyFrom 139 = .ok (.goto (-57), 3) := by decide +kernel
theorem dX2_copyFrom_142 : decode cX2_copyFrom 142 = .ok (.return_, 1) := by decide +kernel
theorem dX2_headAt_0 : decode cX2_headAt 0 = .ok (.aload_n 0, 1) := by decide +kernel
theorem dX2_headAt_1 : decode cX2_headAt 1 = .ok (.getfield 9, 3) := by decide +kernel
theorem dX2_headAt_4 : decode cX2_headAt 4 = .ok (.ifCond .le 18, 3) := by decide +kernel
theorem dX2_headAt_7 : decode cX2_headAt 7 = .ok (.aload_n 0, 1) := by decide +kernel
theorem dX2_headAt_8 : decode cX2_headAt 8 = .ok (.getfield 15, 3) := by decide +kernel
theorem dX2_headAt_11 : decode cX2_headAt 11 = .ok (.bipush 100, 2) := by decide +kernel
theorem dX2_headAt_13 : decode cX2_headAt 13 = .ok (.imul, 1) := by decide +kernel
theorem dX2_headAt_14 : decode cX2_headAt 14 = .ok (.aload_n 0, 1) := by decide +kernel
theorem dX2_headAt_15 : decode cX2_headAt 15 = .ok (.getfield 9, 3) := by decide +kernel
theorem dX2_headAt_18 : decode cX2_headAt 18 = .ok (.idiv, 1) := by decide +kernel
theorem dX2_headAt_19 : decode cX2_headAt 19 = .ok (.goto 4, 3) := by decide +kernel
theorem dX2_headAt_22 : decode cX2_headAt 22 = .ok (.iconst 0, 1) := by decide +kernel
theorem dX2_headAt_23 : decode cX2_headAt 23 = .ok (.istore_n 2, 1) := by decide +kernel
theorem dX2_headAt_24 : decode cX2_headAt 24 = .ok (.iload_n 2, 1) := by decide +kernel
theorem dX2_headAt_25 : decode cX2_headAt 25 = .ok (.iload_n 1, 1) := by decide +kernel
theorem dX2_headAt_26 : decode cX2_headAt 26 = .ok (.isub, 1) := by decide +kernel
theorem dX2_headAt_27 : decode cX2_headAt 27 = .ok (.ireturn, 1) := by decide +kernel
theorem dX2_turnsOfStone_0 : decode cX2_turnsOfStone 0 = .ok (.aload_n 0, 1) := by decide +kernel
theorem dX2_turnsOfStone_1 : decode cX2_turnsOfStone 1 = .ok (.getfield 30, 3) := by decide +kernel
theorem dX2_turnsOfStone_4 : decode cX2_turnsOfStone 4 = .ok (.ifCond .le 17, 3) := by decide +kernel
theorem dX2_turnsOfStone_7 : decode cX2_turnsOfStone 7 = .ok (.iload_n 1, 1) := by decide +kernel
theorem dX2_turnsOfStone_8 : decode cX2_turnsOfStone 8 = .ok (.aload_n 0, 1) := by decide +kernel
theorem dX2_turnsOfStone_9 : decode cX2_turnsOfStone 9 = .ok (.getfield 27, 3) := by decide +kernel
theorem dX2_turnsOfStone_12 : decode cX2_turnsOfStone 12 = .ok (.imul, 1) := by decide +kernel
theorem dX2_turnsOfStone_13 : decode cX2_turnsOfStone 13 = .ok (.aload_n 0, 1) := by decide +kernel
theorem dX2_turnsOfStone_14 : decode cX2_turnsOfStone 14 = .ok (.getfield 30, 3) := by decide +kernel
theorem dX2_turnsOfStone_17 : decode cX2_turnsOfStone 17 = .ok (.idiv, 1) := by decide +kernel
theorem dX2_turnsOfStone_18 : decode cX2_turnsOfStone 18 = .ok (.goto 4, 3) := by decide +kernel
theorem dX2_turnsOfStone_21 : decode cX2_turnsOfStone 21 = .ok (.iconst 0, 1) := by decide +kernel
theorem dX2_turnsOfStone_22 : decode cX2_turnsOfStone 22 = .ok (.ireturn, 1) := by decide +kernel
theorem dX2_letIn_0 : decode cX2_letIn 0 = .ok (.iload_n 1, 1) := by decide +kernel
theorem dX2_letIn_1 : decode cX2_letIn 1 = .ok (.bipush 12, 2) := by decide +kernel
theorem dX2_letIn_3 : decode cX2_letIn 3 = .ok (.irem, 1) := by decide +kernel
theorem dX2_letIn_4 : decode cX2_letIn 4 = .ok (.istore_n 3, 1) := by decide +kernel
theorem dX2_letIn_5 : decode cX2_letIn 5 = .ok (.iload_n 3, 1) := by decide +kernel
theorem dX2_letIn_6 : decode cX2_letIn 6 = .ok (.aload_n 0, 1) := by decide +kernel
theorem dX2_letIn_7 : decode cX2_letIn 7 = .ok (.getfield 21, 3) := by decide +kernel
theorem dX2_letIn_10 : decode cX2_letIn 10 = .ok (.if_icmp .lt 19, 3) := by decide +kernel
theorem dX2_letIn_13 : decode cX2_letIn 13 = .ok (.iload_n 3, 1) := by decide +kernel
theorem dX2_letIn_14 : decode cX2_letIn 14 = .ok (.aload_n 0, 1) := by decide +kernel
theorem dX2_letIn_15 : decode cX2_letIn 15 = .ok (.getfield 24, 3) := by decide +kernel
theorem dX2_letIn_18 : decode cX2_letIn 18 = .ok (.if_icmp .gt 11, 3) := by decide +kernel
theorem dX2_letIn_21 : decode cX2_letIn 21 = .ok (.iload_n 2, 1) := by decide +kernel
theorem dX2_letIn_22 : decode cX2_letIn 22 = .ok (.aload_n 0, 1) := by decide +kernel
theorem dX2_letIn_23 : decode cX2_letIn 23 = .ok (.getfield 18, 3) := by decide +kernel
theorem dX2_letIn_26 : decode cX2_letIn 26 = .ok (.if_icmp .gt 5, 3) := by decide +kernel
theorem dX2_letIn_29 : decode cX2_letIn 29 = .ok (.iconst 0, 1) := by decide +kernel
theorem dX2_letIn_30 : decode cX2_letIn 30 = .ok (.ireturn, 1) := by decide +kernel
theorem dX2_letIn_31 : decode cX2_letIn 31 = .ok (.iconst 2, 1) := by decide +kernel
theorem dX2_letIn_32 : decode cX2_letIn 32 = .ok (.iload_n 2, 1) := by decide +kernel
theorem dX2_letIn_33 : decode cX2_letIn 33 = .ok (.aload_n 0, 1) := by decide +kernel
theorem dX2_letIn_34 : decode cX2_letIn 34 = .ok (.getfield 18, 3) := by decide +kernel
theorem dX2_letIn_37 : decode cX2_letIn 37 = .ok (.isub, 1) := by decide +kernel
theorem dX2_letIn_38 : decode cX2_letIn 38 = .ok (.imul, 1) := by decide +kernel
theorem dX2_letIn_39 : decode cX2_letIn 39 = .ok (.aload_n 0, 1) := by decide +kernel
theorem dX2_letIn_40 : decode cX2_letIn 40 = .ok (.getfield 9, 3) := by decide +kernel
theorem dX2_letIn_43 : decode cX2_letIn 43 = .ok (.aload_n 0, 1) := by decide +kernel
theorem dX2_letIn_44 : decode cX2_letIn 44 = .ok (.getfield 15, 3) := by decide +kernel
theorem dX2_letIn_47 : decode cX2_letIn 47 = .ok (.isub, 1) := by decide +kernel
theorem dX2_letIn_48 : decode cX2_letIn 48 = .ok (.invokestatic 62, 3) := by decide +kernel
theorem dX2_letIn_51 : decode cX2_letIn 51 = .ok (.istore 4, 2) := by decide +kernel
theorem dX2_letIn_53 : decode cX2_letIn 53 = .ok (.aload_n 0, 1) := by decide +kernel
theorem dX2_letIn_54 : decode cX2_letIn 54 = .ok (.dup, 1) := by decide +kernel
theorem dX2_letIn_55 : decode cX2_letIn 55 = .ok (.getfield 15, 3) := by decide +kernel
theorem dX2_letIn_58 : decode cX2_letIn 58 = .ok (.iload 4, 2) := by decide +kernel
theorem dX2_letIn_60 : decode cX2_letIn 60 = .ok (.iadd, 1) := by decide +kernel
theorem dX2_letIn_61 : decode cX2_letIn 61 = .ok (.putfield 15, 3) := by decide +kernel
theorem dX2_letIn_64 : decode cX2_letIn 64 = .ok (.iload 4, 2) := by decide +kernel
theorem dX2_letIn_66 : decode cX2_letIn 66 = .ok (.ireturn, 1) := by decide +kernel
theorem dX2_numberAt_0 : decode cX2_numberAt 0 = .ok (.aload_n 0, 1) := by decide +kernel
theorem dX2_numberAt_1 : decode cX2_numberAt 1 = .ok (.iload_n 1, 1) := by decide +kernel
theorem dX2_numberAt_2 : decode cX2_numberAt 2 = .ok (.invokevirtual 68, 3) := by decide +kernel
theorem dX2_numberAt_5 : decode cX2_numberAt 5 = .ok (.ifCond .eq 12, 3) := by decide +kernel
theorem dX2_numberAt_8 : decode cX2_numberAt 8 = .ok (.aload_n 0, 1) := by decide +kernel
theorem dX2_numberAt_9 : decode cX2_numberAt 9 = .ok (.getfield 42, 3) := by decide +kernel
theorem dX2_numberAt_12 : decode cX2_numberAt 12 = .ok (.iload_n 1, 1) := by decide +kernel
theorem dX2_numberAt_13 : decode cX2_numberAt 13 = .ok (.iaload, 1) := by decide +kernel
theorem dX2_numberAt_14 : decode cX2_numberAt 14 = .ok (.goto 4, 3) := by decide +kernel
theorem dX2_numberAt_17 : decode cX2_numberAt 17 = .ok (.iconst (-1), 1) := by decide +kernel
theorem dX2_numberAt_18 : decode cX2_numberAt 18 = .ok (.ireturn, 1) := by decide +kernel
theorem dX2_hardnessAt_0 : decode cX2_hardnessAt 0 = .ok (.aload_n 0, 1) := by decide +kernel
theorem dX2_hardnessAt_1 : decode cX2_hardnessAt 1 = .ok (.iload_n 1, 1) := by decide +kernel
theorem dX2_hardnessAt_2 : decode cX2_hardnessAt 2 = .ok (.invokevirtual 68, 3) := by decide +kernel
theorem dX2_hardnessAt_5 : decode cX2_hardnessAt 5 = .ok (.ifCond .eq 12, 3) := by decide +kernel
theorem dX2_hardnessAt_8 : decode cX2_hardnessAt 8 = .ok (.aload_n 0, 1) := by decide +kernel
theorem dX2_hardnessAt_9 : decode cX2_hardnessAt 9 = .ok (.getfield 46, 3) := by decide +kernel
theorem dX2_hardnessAt_12 : decode cX2_hardnessAt 12 = .ok (.iload_n 1, 1) := by decide +kernel
theorem dX2_hardnessAt_13 : decode cX2_hardnessAt 13 = .ok (.iaload, 1) := by decide +kernel
theorem dX2_hardnessAt_14 : decode cX2_hardnessAt 14 = .ok (.goto 4, 3) := by decide +kernel
theorem dX2_hardnessAt_17 : decode cX2_hardnessAt 17 = .ok (.iconst (-1), 1) := by decide +kernel
theorem dX2_hardnessAt_18 : decode cX2_hardnessAt 18 = .ok (.ireturn, 1) := by decide +kernel
theorem dX2_restAt_0 : decode cX2_restAt 0 = .ok (.aload_n 0, 1) := by decide +kernel
theorem dX2_restAt_1 : decode cX2_restAt 1 = .ok (.iload_n 1, 1) := by decide +kernel
theorem dX2_restAt_2 : decode cX2_restAt 2 = .ok (.invokevirtual 68, 3) := by decide +kernel
theorem dX2_restAt_5 : decode cX2_restAt 5 = .ok (.ifCond .eq 12, 3) := by decide +kernel
theorem dX2_restAt_8 : decode cX2_restAt 8 = .ok (.aload_n 0, 1) := by decide +kernel
theorem dX2_restAt_9 : decode cX2_restAt 9 = .ok (.getfield 49, 3) := by decide +kernel
theorem dX2_restAt_12 : decode cX2_restAt 12 = .ok (.iload_n 1, 1) := by decide +kernel
theorem dX2_restAt_13 : decode cX2_restAt 13 = .ok (.iaload, 1) := by decide +kernel
theorem dX2_restAt_14 : decode cX2_restAt 14 = .ok (.goto 4, 3) := by decide +kernel
theorem dX2_restAt_17 : decode cX2_restAt 17 = .ok (.iconst (-1), 1) := by decide +kernel
theorem dX2_restAt_18 : decode cX2_restAt 18 = .ok (.ireturn, 1) := by decide +kernel
theorem dX2_dueAt_0 : decode cX2_dueAt 0 = .ok (.aload_n 0, 1) := by decide +kernel
theorem dX2_dueAt_1 : decode cX2_dueAt 1 = .ok (.iload_n 1, 1) := by decide +kernel
theorem dX2_dueAt_2 : decode cX2_dueAt 2 = .ok (.invokevirtual 68, 3) := by decide +kernel
theorem dX2_dueAt_5 : decode cX2_dueAt 5 = .ok (.ifCond .eq 12, 3) := by decide +kernel
theorem dX2_dueAt_8 : decode cX2_dueAt 8 = .ok (.aload_n 0, 1) := by decide +kernel
theorem dX2_dueAt_9 : decode cX2_dueAt 9 = .ok (.getfield 52, 3) := by decide +kernel
theorem dX2_dueAt_12 : decode cX2_dueAt 12 = .ok (.iload_n 1, 1) := by decide +kernel
theorem dX2_dueAt_13 : decode cX2_dueAt 13 = .ok (.iaload, 1) := by decide +kernel
theorem dX2_dueAt_14 : decode cX2_dueAt 14 = .ok (.goto 4, 3) := by decide +kernel
theorem dX2_dueAt_17 : decode cX2_dueAt 17 = .ok (.iconst (-1), 1) := by decide +kernel
theorem dX2_dueAt_18 : decode cX2_dueAt 18 = .ok (.ireturn, 1) := by decide +kernel
theorem dX2_firstDue_0 : decode cX2_firstDue 0 = .ok (.aload_n 0, 1) := by decide +kernel
theorem dX2_firstDue_1 : decode cX2_firstDue 1 = .ok (.getfield 39, 3) := by decide +kernel
theorem dX2_firstDue_4 : decode cX2_firstDue 4 = .ok (.ifCond .le 12, 3) := by decide +kernel
theorem dX2_firstDue_7 : decode cX2_firstDue 7 = .ok (.aload_n 0, 1) := by decide +kernel
theorem dX2_firstDue_8 : decode cX2_firstDue 8 = .ok (.getfield 52, 3) := by decide +kernel
theorem dX2_firstDue_11 : decode cX2_firstDue 11 = .ok (.iconst 0, 1) := by decide +kernel
theorem dX2_firstDue_12 : decode cX2_firstDue 12 = .ok (.iaload, 1) := by decide +kernel
theorem dX2_firstDue_13 : decode cX2_firstDue 13 = .ok (.goto 4, 3) := by decide +kernel
theorem dX2_firstDue_16 : decode cX2_firstDue 16 = .ok (.iconst (-1), 1) := by decide +kernel
theorem dX2_firstDue_17 : decode cX2_firstDue 17 = .ok (.ireturn, 1) := by decide +kernel
theorem dX2_isPlace_0 : decode cX2_isPlace 0 = .ok (.iload_n 1, 1) := by decide +kernel
theorem dX2_isPlace_1 : decode cX2_isPlace 1 = .ok (.ifCond .lt 21, 3) := by decide +kernel
theorem dX2_isPlace_4 : decode cX2_isPlace 4 = .ok (.iload_n 1, 1) := by decide +kernel
theorem dX2_isPlace_5 : decode cX2_isPlace 5 = .ok (.aload_n 0, 1) := by decide +kernel
theorem dX2_isPlace_6 : decode cX2_isPlace 6 = .ok (.getfield 39, 3) := by decide +kernel
theorem dX2_isPlace_9 : decode cX2_isPlace 9 = .ok (.if_icmp .ge 13, 3) := by decide +kernel
theorem dX2_isPlace_12 : decode cX2_isPlace 12 = .ok (.iload_n 1, 1) := by decide +kernel
theorem dX2_isPlace_13 : decode cX2_isPlace 13 = .ok (.bipush 6, 2) := by decide +kernel
theorem dX2_isPlace_15 : decode cX2_isPlace 15 = .ok (.if_icmp .ge 7, 3) := by decide +kernel
theorem dX2_isPlace_18 : decode cX2_isPlace 18 = .ok (.iconst 1, 1) := by decide +kernel
theorem dX2_isPlace_19 : decode cX2_isPlace 19 = .ok (.goto 4, 3) := by decide +kernel
theorem dX2_isPlace_22 : decode cX2_isPlace 22 = .ok (.iconst 0, 1) := by decide +kernel
theorem dX2_isPlace_23 : decode cX2_isPlace 23 = .ok (.ireturn, 1) := by decide +kernel
theorem dX2_placeOf_0 : decode cX2_placeOf 0 = .ok (.iconst 0, 1) := by decide +kernel
theorem dX2_placeOf_1 : decode cX2_placeOf 1 = .ok (.istore_n 2, 1) := by decide +kernel
theorem dX2_placeOf_2 : decode cX2_placeOf 2 = .ok (.iload_n 2, 1) := by decide +kernel
theorem dX2_placeOf_3 : decode cX2_placeOf 3 = .ok (.aload_n 0, 1) := by decide +kernel
theorem dX2_placeOf_4 : decode cX2_placeOf 4 = .ok (.getfield 39, 3) := by decide +kernel
theorem dX2_placeOf_7 : decode cX2_placeOf 7 = .ok (.if_icmp .ge 27, 3) := by decide +kernel
theorem dX2_placeOf_10 : decode cX2_placeOf 10 = .ok (.iload_n 2, 1) := by decide +kernel
theorem dX2_placeOf_11 : decode cX2_placeOf 11 = .ok (.bipush 6, 2) := by decide +kernel
theorem dX2_placeOf_13 : decode cX2_placeOf 13 = .ok (.if_icmp .ge 21, 3) := by decide +kernel
theorem dX2_placeOf_16 : decode cX2_placeOf 16 = .ok (.aload_n 0, 1) := by decide +kernel
theorem dX2_placeOf_17 : decode cX2_placeOf 17 = .ok (.getfield 42, 3) := by decide +kernel
theorem dX2_placeOf_20 : decode cX2_placeOf 20 = .ok (.iload_n 2, 1) := by decide +kernel
theorem dX2_placeOf_21 : decode cX2_placeOf 21 = .ok (.iaload, 1) := by decide +kernel
theorem dX2_placeOf_22 : decode cX2_placeOf 22 = .ok (.iload_n 1, 1) := by decide +kernel
theorem dX2_placeOf_23 : decode cX2_placeOf 23 = .ok (.if_icmp .ne 5, 3) := by decide +kernel
theorem dX2_placeOf_26 : decode cX2_placeOf 26 = .ok (.iload_n 2, 1) := by decide +kernel
theorem dX2_placeOf_27 : decode cX2_placeOf 27 = .ok (.ireturn, 1) := by decide +kernel
theorem dX2_placeOf_28 : decode cX2_placeOf 28 = .ok (.iinc 2 1, 3) := by decide +kernel
theorem dX2_placeOf_31 : decode cX2_placeOf 31 = .ok (.goto (-29), 3) := by decide +kernel
theorem dX2_placeOf_34 : decode cX2_placeOf 34 = .ok (.iconst (-1), 1) := by decide +kernel
theorem dX2_placeOf_35 : decode cX2_placeOf 35 = .ok (.ireturn, 1) := by decide +kernel
theorem dX2_putSack_0 : decode cX2_putSack 0 = .ok (.aload_n 0, 1) := by decide +kernel
theorem dX2_putSack_1 : decode cX2_putSack 1 = .ok (.getfield 39, 3) := by decide +kernel
theorem dX2_putSack_4 : decode cX2_putSack 4 = .ok (.ifCond .lt 12, 3) := by decide +kernel
theorem dX2_putSack_7 : decode cX2_putSack 7 = .ok (.aload_n 0, 1) := by decide +kernel
theorem dX2_putSack_8 : decode cX2_putSack 8 = .ok (.getfield 39, 3) := by decide +kernel
theorem dX2_putSack_11 : decode cX2_putSack 11 = .ok (.bipush 6, 2) := by decide +kernel
theorem dX2_putSack_13 : decode cX2_putSack 13 = .ok (.if_icmp .lt 5, 3) := by decide +kernel
theorem dX2_putSack_16 : decode cX2_putSack 16 = .ok (.iconst (-1), 1) := by decide +kernel
theorem dX2_putSack_17 : decode cX2_putSack 17 = .ok (.ireturn, 1) := by decide +kernel
theorem dX2_putSack_18 : decode cX2_putSack 18 = .ok (.aload_n 0, 1) := by decide +kernel
theorem dX2_putSack_19 : decode cX2_putSack 19 = .ok (.iload_n 1, 1) := by decide +kernel
theorem dX2_putSack_20 : decode cX2_putSack 20 = .ok (.iload 4, 2) := by decide +kernel
theorem dX2_putSack_22 : decode cX2_putSack 22 = .ok (.invokevirtual 72, 3) := by decide +kernel
theorem dX2_putSack_25 : decode cX2_putSack 25 = .ok (.istore 5, 2) := by decide +kernel
theorem dX2_putSack_27 : decode cX2_putSack 27 = .ok (.aload_n 0, 1) := by decide +kernel
theorem dX2_putSack_28 : decode cX2_putSack 28 = .ok (.getfield 39, 3) := by decide +kernel
theorem dX2_putSack_31 : decode cX2_putSack 31 = .ok (.istore 6, 2) := by decide +kernel
theorem dX2_putSack_33 : decode cX2_putSack 33 = .ok (.iload 6, 2) := by decide +kernel
theorem dX2_putSack_35 : decode cX2_putSack 35 = .ok (.iload 5, 2) := by decide +kernel
theorem dX2_putSack_37 : decode cX2_putSack 37 = .ok (.if_icmp .le 19, 3) := by decide +kernel
theorem dX2_putSack_40 : decode cX2_putSack 40 = .ok (.aload_n 0, 1) := by decide +kernel
theorem dX2_putSack_41 : decode cX2_putSack 41 = .ok (.iload 6, 2) := by decide +kernel
theorem dX2_putSack_43 : decode cX2_putSack 43 = .ok (.iconst 1, 1) := by decide +kernel
theorem dX2_putSack_44 : decode cX2_putSack 44 = .ok (.isub, 1) := by decide +kernel
theorem dX2_putSack_45 : decode cX2_putSack 45 = .ok (.iload 6, 2) := by decide +kernel
theorem dX2_putSack_47 : decode cX2_putSack 47 = .ok (.invokevirtual 75, 3) := by decide +kernel
theorem dX2_putSack_50 : decode cX2_putSack 50 = .ok (.iinc 6 (-1), 3) := by decide +kernel
theorem dX2_putSack_53 : decode cX2_putSack 53 = .ok (.goto (-20), 3) := by decide +kernel
theorem dX2_putSack_56 : decode cX2_putSack 56 = .ok (.aload_n 0, 1) := by decide +kernel
theorem dX2_putSack_57 : decode cX2_putSack 57 = .ok (.dup, 1) := by decide +kernel
theorem dX2_putSack_58 : decode cX2_putSack 58 = .ok (.getfield 39, 3) := by decide +kernel
theorem dX2_putSack_61 : decode cX2_putSack 61 = .ok (.iconst 1, 1) := by decide +kernel
theorem dX2_putSack_62 : decode cX2_putSack 62 = .ok (.iadd, 1) := by decide +kernel
theorem dX2_putSack_63 : decode cX2_putSack 63 = .ok (.putfield 39, 3) := by decide +kernel
theorem dX2_putSack_66 : decode cX2_putSack 66 = .ok (.aload_n 0, 1) := by decide +kernel
theorem dX2_putSack_67 : decode cX2_putSack 67 = .ok (.iload 5, 2) := by decide +kernel
theorem dX2_putSack_69 : decode cX2_putSack 69 = .ok (.invokevirtual 68, 3) := by decide +kernel
theorem dX2_putSack_72 : decode cX2_putSack 72 = .ok (.ifCond .eq 36, 3) := by decide +kernel
theorem dX2_putSack_75 : decode cX2_putSack 75 = .ok (.aload_n 0, 1) := by decide +kernel
theorem dX2_putSack_76 : decode cX2_putSack 76 = .ok (.getfield 42, 3) := by decide +kernel
theorem dX2_putSack_79 : decode cX2_putSack 79 = .ok (.iload 5, 2) := by decide +kernel
theorem dX2_putSack_81 : decode cX2_putSack 81 = .ok (.iload_n 1, 1) := by decide +kernel
theorem dX2_putSack_82 : decode cX2_putSack 82 = .ok (.iastore, 1) := by decide +kernel
theorem dX2_putSack_83 : decode cX2_putSack 83 = .ok (.aload_n 0, 1) := by decide +kernel
theorem dX2_putSack_84 : decode cX2_putSack 84 = .ok (.getfield 46, 3) := by decide +kernel
theorem dX2_putSack_87 : decode cX2_putSack 87 = .ok (.iload 5, 2) := by decide +kernel
theorem dX2_putSack_89 : decode cX2_putSack 89 = .ok (.iload_n 2, 1) := by decide +kernel
theorem dX2_putSack_90 : decode cX2_putSack 90 = .ok (.iastore, 1) := by decide +kernel
theorem dX2_putSack_91 : decode cX2_putSack 91 = .ok (.aload_n 0, 1) := by decide +kernel
theorem dX2_putSack_92 : decode cX2_putSack 92 = .ok (.getfield 49, 3) := by decide +kernel
theorem dX2_putSack_95 : decode cX2_putSack 95 = .ok (.iload 5, 2) := by decide +kernel
theorem dX2_putSack_97 : decode cX2_putSack 97 = .ok (.iload_n 3, 1) := by decide +kernel
theorem dX2_putSack_98 : decode cX2_putSack 98 = .ok (.iastore, 1) := by decide +kernel
theorem dX2_putSack_99 : decode cX2_putSack 99 = .ok (.aload_n 0, 1) := by decide +kernel
theorem dX2_putSack_100 : decode cX2_putSack 100 = .ok (.getfield 52, 3) := by decide +kernel
theorem dX2_putSack_103 : decode cX2_putSack 103 = .ok (.iload 5, 2) := by decide +kernel
theorem dX2_putSack_105 : decode cX2_putSack 105 = .ok (.iload 4, 2) := by decide +kernel
theorem dX2_putSack_107 : decode cX2_putSack 107 = .ok (.iastore, 1) := by decide +kernel
theorem dX2_putSack_108 : decode cX2_putSack 108 = .ok (.iload 5, 2) := by decide +kernel
theorem dX2_putSack_110 : decode cX2_putSack 110 = .ok (.ireturn, 1) := by decide +kernel
theorem dX2_placeFor_0 : decode cX2_placeFor 0 = .ok (.iconst 0, 1) := by decide +kernel
theorem dX2_placeFor_1 : decode cX2_placeFor 1 = .ok (.istore_n 3, 1) := by decide +kernel
theorem dX2_placeFor_2 : decode cX2_placeFor 2 = .ok (.iload_n 3, 1) := by decide +kernel
theorem dX2_placeFor_3 : decode cX2_placeFor 3 = .ok (.aload_n 0, 1) := by decide +kernel
theorem dX2_placeFor_4 : decode cX2_placeFor 4 = .ok (.getfield 39, 3) := by decide +kernel
theorem dX2_placeFor_7 : decode cX2_placeFor 7 = .ok (.if_icmp .ge 45, 3) := by decide +kernel
theorem dX2_placeFor_10 : decode cX2_placeFor 10 = .ok (.iload_n 3, 1) := by decide +kernel
theorem dX2_placeFor_11 : decode cX2_placeFor 11 = .ok (.bipush 6, 2) := by decide +kernel
theorem dX2_placeFor_13 : decode cX2_placeFor 13 = .ok (.if_icmp .ge 39, 3) := by decide +kernel
theorem dX2_placeFor_16 : decode cX2_placeFor 16 = .ok (.aload_n 0, 1) := by decide +kernel
theorem dX2_placeFor_17 : decode cX2_placeFor 17 = .ok (.getfield 52, 3) := by decide +kernel
theorem dX2_placeFor_20 : decode cX2_placeFor 20 = .ok (.iload_n 3, 1) := by decide +kernel
theorem dX2_placeFor_21 : decode cX2_placeFor 21 = .ok (.iaload, 1) := by decide +kernel
theorem dX2_placeFor_22 : decode cX2_placeFor 22 = .ok (.iload_n 2, 1) := by decide +kernel
theorem dX2_placeFor_23 : decode cX2_placeFor 23 = .ok (.if_icmp .lt 23, 3) := by decide +kernel
theorem dX2_placeFor_26 : decode cX2_placeFor 26 = .ok (.aload_n 0, 1) := by decide +kernel
theorem dX2_placeFor_27 : decode cX2_placeFor 27 = .ok (.getfield 52, 3) := by decide +kernel
theorem dX2_placeFor_30 : decode cX2_placeFor 30 = .ok (.iload_n 3, 1) := by decide +kernel
theorem dX2_placeFor_31 : decode cX2_placeFor 31 = .ok (.iaload, 1) := by decide +kernel
theorem dX2_placeFor_32 : decode cX2_placeFor 32 = .ok (.iload_n 2, 1) := by decide +kernel
theorem dX2_placeFor_33 : decode cX2_placeFor 33 = .ok (.if_icmp .ne 19, 3) := by decide +kernel
theorem dX2_placeFor_36 : decode cX2_placeFor 36 = .ok (.aload_n 0, 1) := by decide +kernel
theorem dX2_placeFor_37 : decode cX2_placeFor 37 = .ok (.getfield 42, 3) := by decide +kernel
theorem dX2_placeFor_40 : decode cX2_placeFor 40 = .ok (.iload_n 3, 1) := by decide +kernel
theorem dX2_placeFor_41 : decode cX2_placeFor 41 = .ok (.iaload, 1) := by decide +kernel
theorem dX2_placeFor_42 : decode cX2_placeFor 42 = .ok (.iload_n 1, 1) := by decide +kernel
theorem dX2_placeFor_43 : decode cX2_placeFor 43 = .ok (.if_icmp .ge 9, 3) := by decide +kernel
theorem dX2_placeFor_46 : decode cX2_placeFor 46 = .ok (.iinc 3 1, 3) := by decide +kernel
theorem dX2_placeFor_49 : decode cX2_placeFor 49 = .ok (.goto (-47), 3) := by decide +kernel
theorem dX2_placeFor_52 : decode cX2_placeFor 52 = .ok (.iload_n 3, 1) := by decide +kernel
theorem dX2_placeFor_53 : decode cX2_placeFor 53 = .ok (.ireturn, 1) := by decide +kernel
theorem dX2_dropSack_0 : decode cX2_dropSack 0 = .ok (.aload_n 0, 1) := by decide +kernel
theorem dX2_dropSack_1 : decode cX2_dropSack 1 = .ok (.iload_n 1, 1) := by decide +kernel
theorem dX2_dropSack_2 : decode cX2_dropSack 2 = .ok (.invokevirtual 68, 3) := by decide +kernel
theorem dX2_dropSack_5 : decode cX2_dropSack 5 = .ok (.ifCond .ne 4, 3) := by decide +kernel
theorem dX2_dropSack_8 : decode cX2_dropSack 8 = .ok (.return_, 1) := by decide +kernel
theorem dX2_dropSack_9 : decode cX2_dropSack 9 = .ok (.iload_n 1, 1) := by decide +kernel
theorem dX2_dropSack_10 : decode cX2_dropSack 10 = .ok (.istore_n 2, 1) := by decide +kernel
theorem dX2_dropSack_11 : decode cX2_dropSack 11 = .ok (.iload_n 2, 1) := by decide +kernel
theorem dX2_dropSack_12 : decode cX2_dropSack 12 = .ok (.aload_n 0, 1) := by decide +kernel
theorem dX2_dropSack_13 : decode cX2_dropSack 13 = .ok (.getfield 39, 3) := by decide +kernel
theorem dX2_dropSack_16 : decode cX2_dropSack 16 = .ok (.iconst 1, 1) := by decide +kernel
theorem dX2_dropSack_17 : decode cX2_dropSack 17 = .ok (.isub, 1) := by decide +kernel
theorem dX2_dropSack_18 : decode cX2_dropSack 18 = .ok (.if_icmp .ge 17, 3) := by decide +kernel
theorem dX2_dropSack_21 : decode cX2_dropSack 21 = .ok (.aload_n 0, 1) := by decide +kernel
theorem dX2_dropSack_22 : decode cX2_dropSack 22 = .ok (.iload_n 2, 1) := by decide +kernel
theorem dX2_dropSack_23 : decode cX2_dropSack 23 = .ok (.iconst 1, 1) := by decide +kernel
theorem dX2_dropSack_24 : decode cX2_dropSack 24 = .ok (.iadd, 1) := by decide +kernel
theorem dX2_dropSack_25 : decode cX2_dropSack 25 = .ok (.iload_n 2, 1) := by decide +kernel
theorem dX2_dropSack_26 : decode cX2_dropSack 26 = .ok (.invokevirtual 75, 3) := by decide +kernel
theorem dX2_dropSack_29 : decode cX2_dropSack 29 = .ok (.iinc 2 1, 3) := by decide +kernel
theorem dX2_dropSack_32 : decode cX2_dropSack 32 = .ok (.goto (-21), 3) := by decide +kernel
theorem dX2_dropSack_35 : decode cX2_dropSack 35 = .ok (.aload_n 0, 1) := by decide +kernel
theorem dX2_dropSack_36 : decode cX2_dropSack 36 = .ok (.dup, 1) := by decide +kernel
theorem dX2_dropSack_37 : decode cX2_dropSack 37 = .ok (.getfield 39, 3) := by decide +kernel
theorem dX2_dropSack_40 : decode cX2_dropSack 40 = .ok (.iconst 1, 1) := by decide +kernel
theorem dX2_dropSack_41 : decode cX2_dropSack 41 = .ok (.isub, 1) := by decide +kernel
theorem dX2_dropSack_42 : decode cX2_dropSack 42 = .ok (.putfield 39, 3) := by decide +kernel
theorem dX2_dropSack_45 : decode cX2_dropSack 45 = .ok (.return_, 1) := by decide +kernel
theorem dX2_moveSack_0 : decode cX2_moveSack 0 = .ok (.iload_n 1, 1) := by decide +kernel
theorem dX2_moveSack_1 : decode cX2_moveSack 1 = .ok (.ifCond .lt 19, 3) := by decide +kernel
theorem dX2_moveSack_4 : decode cX2_moveSack 4 = .ok (.iload_n 1, 1) := by decide +kernel
theorem dX2_moveSack_5 : decode cX2_moveSack 5 = .ok (.bipush 6, 2) := by decide +kernel
theorem dX2_moveSack_7 : decode cX2_moveSack 7 = .ok (.if_icmp .ge 13, 3) := by decide +kernel
theorem dX2_moveSack_10 : decode cX2_moveSack 10 = .ok (.iload_n 2, 1) := by decide +kernel
theorem dX2_moveSack_11 : decode cX2_moveSack 11 = .ok (.ifCond .lt 9, 3) := by decide +kernel
theorem dX2_moveSack_14 : decode cX2_moveSack 14 = .ok (.iload_n 2, 1) := by decide +kernel
theorem dX2_moveSack_15 : decode cX2_moveSack 15 = .ok (.bipush 6, 2) := by decide +kernel
theorem dX2_moveSack_17 : decode cX2_moveSack 17 = .ok (.if_icmp .lt 4, 3) := by decide +kernel
theorem dX2_moveSack_20 : decode cX2_moveSack 20 = .ok (.return_, 1) := by decide +kernel
theorem dX2_moveSack_21 : decode cX2_moveSack 21 = .ok (.aload_n 0, 1) := by decide +kernel
theorem dX2_moveSack_22 : decode cX2_moveSack 22 = .ok (.getfield 42, 3) := by decide +kernel
theorem dX2_moveSack_25 : decode cX2_moveSack 25 = .ok (.iload_n 2, 1) := by decide +kernel
theorem dX2_moveSack_26 : decode cX2_moveSack 26 = .ok (.aload_n 0, 1) := by decide +kernel
theorem dX2_moveSack_27 : decode cX2_moveSack 27 = .ok (.getfield 42, 3) := by decide +kernel
theorem dX2_moveSack_30 : decode cX2_moveSack 30 = .ok (.iload_n 1, 1) := by decide +kernel
theorem dX2_moveSack_31 : decode cX2_moveSack 31 = .ok (.iaload, 1) := by decide +kernel
theorem dX2_moveSack_32 : decode cX2_moveSack 32 = .ok (.iastore, 1) := by decide +kernel
theorem dX2_moveSack_33 : decode cX2_moveSack 33 = .ok (.aload_n 0, 1) := by decide +kernel
theorem dX2_moveSack_34 : decode cX2_moveSack 34 = .ok (.getfield 46, 3) := by decide +kernel
theorem dX2_moveSack_37 : decode cX2_moveSack 37 = .ok (.iload_n 2, 1) := by decide +kernel
theorem dX2_moveSack_38 : decode cX2_moveSack 38 = .ok (.aload_n 0, 1) := by decide +kernel
theorem dX2_moveSack_39 : decode cX2_moveSack 39 = .ok (.getfield 46, 3) := by decide +kernel
theorem dX2_moveSack_42 : decode cX2_moveSack 42 = .ok (.iload_n 1, 1) := by decide +kernel
theorem dX2_moveSack_43 : decode cX2_moveSack 43 = .ok (.iaload, 1) := by decide +kernel
theorem dX2_moveSack_44 : decode cX2_moveSack 44 = .ok (.iastore, 1) := by decide +kernel
theorem dX2_moveSack_45 : decode cX2_moveSack 45 = .ok (.aload_n 0, 1) := by decide +kernel
theorem dX2_moveSack_46 : decode cX2_moveSack 46 = .ok (.getfield 49, 3) := by decide +kernel
theorem dX2_moveSack_49 : decode cX2_moveSack 49 = .ok (.iload_n 2, 1) := by decide +kernel
theorem dX2_moveSack_50 : decode cX2_moveSack 50 = .ok (.aload_n 0, 1) := by decide +kernel
theorem dX2_moveSack_51 : decode cX2_moveSack 51 = .ok (.getfield 49, 3) := by decide +kernel
theorem dX2_moveSack_54 : decode cX2_moveSack 54 = .ok (.iload_n 1, 1) := by decide +kernel
theorem dX2_moveSack_55 : decode cX2_moveSack 55 = .ok (.iaload, 1) := by decide +kernel
theorem dX2_moveSack_56 : decode cX2_moveSack 56 = .ok (.iastore, 1) := by decide +kernel
theorem dX2_moveSack_57 : decode cX2_moveSack 57 = .ok (.aload_n 0, 1) := by decide +kernel
theorem dX2_moveSack_58 : decode cX2_moveSack 58 = .ok (.getfield 52, 3) := by decide +kernel
theorem dX2_moveSack_61 : decode cX2_moveSack 61 = .ok (.iload_n 2, 1) := by decide +kernel
theorem dX2_moveSack_62 : decode cX2_moveSack 62 = .ok (.aload_n 0, 1) := by decide +kernel
theorem dX2_moveSack_63 : decode cX2_moveSack 63 = .ok (.getfield 52, 3) := by decide +kernel
theorem dX2_moveSack_66 : decode cX2_moveSack 66 = .ok (.iload_n 1, 1) := by decide +kernel
theorem dX2_moveSack_67 : decode cX2_moveSack 67 = .ok (.iaload, 1) := by decide +kernel
theorem dX2_moveSack_68 : decode cX2_moveSack 68 = .ok (.iastore, 1) := by decide +kernel
theorem dX2_moveSack_69 : decode cX2_moveSack 69 = .ok (.return_, 1) := by decide +kernel
theorem dX2_grindFirst_0 : decode cX2_grindFirst 0 = .ok (.aload_n 0, 1) := by decide +kernel
theorem dX2_grindFirst_1 : decode cX2_grindFirst 1 = .ok (.iconst 0, 1) := by decide +kernel
theorem dX2_grindFirst_2 : decode cX2_grindFirst 2 = .ok (.invokevirtual 68, 3) := by decide +kernel
theorem dX2_grindFirst_5 : decode cX2_grindFirst 5 = .ok (.ifCond .eq 13, 3) := by decide +kernel
theorem dX2_grindFirst_8 : decode cX2_grindFirst 8 = .ok (.aload_n 0, 1) := by decide +kernel
theorem dX2_grindFirst_9 : decode cX2_grindFirst 9 = .ok (.getfield 49, 3) := by decide +kernel
theorem dX2_grindFirst_12 : decode cX2_grindFirst 12 = .ok (.iconst 0, 1) := by decide +kernel
theorem dX2_grindFirst_13 : decode cX2_grindFirst 13 = .ok (.dup2, 1) := by decide +kernel
theorem dX2_grindFirst_14 : decode cX2_grindFirst 14 = .ok (.iaload, 1) := by decide +kernel
theorem dX2_grindFirst_15 : decode cX2_grindFirst 15 = .ok (.iload_n 1, 1) := by decide +kernel
theorem dX2_grindFirst_16 : decode cX2_grindFirst 16 = .ok (.isub, 1) := by decide +kernel
theorem dX2_grindFirst_17 : decode cX2_grindFirst 17 = .ok (.iastore, 1) := by decide +kernel
theorem dX2_grindFirst_18 : decode cX2_grindFirst 18 = .ok (.return_, 1) := by decide +kernel
theorem dX3_init_0 : decode cX3_init 0 = .ok (.aload_n 0, 1) := by decide +kernel
theorem dX3_init_1 : decode cX3_init 1 = .ok (.invokespecial 3, 3) := by decide +kernel
theorem dX3_init_4 : decode cX3_init 4 = .ok (.aload_n 0, 1) := by decide +kernel
theorem dX3_init_5 : decode cX3_init 5 = .ok (.iconst (-1), 1) := by decide +kernel
theorem dX3_init_6 : decode cX3_init 6 = .ok (.putfield 9, 3) := by decide +kernel
theorem dX3_init_9 : decode cX3_init 9 = .ok (.aload_n 0, 1) := by decide +kernel
theorem dX3_init_10 : decode cX3_init 10 = .ok (.iconst 3, 1) := by decide +kernel
theorem dX3_init_11 : decode cX3_init 11 = .ok (.newarray .int, 2) := by decide +kernel
theorem dX3_init_13 : decode cX3_init 13 = .ok (.putfield 15, 3) := by decide +kernel
theorem dX3_init_16 : decode cX3_init 16 = .ok (.aload_n 0, 1) := by decide +kernel
theorem dX3_init_17 : decode cX3_init 17 = .ok (.iconst 0, 1) := by decide +kernel
theorem dX3_init_18 : decode cX3_init 18 = .ok (.putfield 19, 3) := by decide +kernel
theorem dX3_init_21 : decode cX3_init 21 = .ok (.aload_n 0, 1) := by decide +kernel
theorem dX3_init_22 : decode cX3_init 22 = .ok (.iconst 0, 1) := by decide +kernel
theorem dX3_init_23 : decode cX3_init 23 = .ok (.putfield 22, 3) := by decide +kernel
theorem dX3_init_26 : decode cX3_init 26 = .ok (.return_, 1) := by decide +kernel
theorem dX3_begin_0 : decode cX3_begin 0 = .ok (.aload_n 0, 1) := by decide +kernel
theorem dX3_begin_1 : decode cX3_begin 1 = .ok (.iconst (-1), 1) := by decide +kernel
theorem dX3_begin_2 : decode cX3_begin 2 = .ok (.putfield 9, 3) := by decide +kernel
theorem dX3_begin_5 : decode cX3_begin 5 = .ok (.aload_n 0, 1) := by decide +kernel
theorem dX3_begin_6 : decode cX3_begin 6 = .ok (.iconst 0, 1) := by decide +kernel
theorem dX3_begin_7 : decode cX3_begin 7 = .ok (.invokevirtual 25, 3) := by decide +kernel
theorem dX3_begin_10 : decode cX3_begin 10 = .ok (.return_, 1) := by decide +kernel
theorem dX3_beginNumber_0 : decode cX3_beginNumber 0 = .ok (.aload_n 0, 1) := by decide +kernel
theorem dX3_beginNumber_1 : decode cX3_beginNumber 1 = .ok (.iload_n 1, 1) := by decide +kernel
theorem dX3_beginNumber_2 : decode cX3_beginNumber 2 = .ok (.putfield 19, 3) := by decide +kernel
theorem dX3_beginNumber_5 : decode cX3_beginNumber 5 = .ok (.aload_n 0, 1) := by decide +kernel
theorem dX3_beginNumber_6 : decode cX3_beginNumber 6 = .ok (.iconst 0, 1) := by decide +kernel
theorem dX3_beginNumber_7 : decode cX3_beginNumber 7 = .ok (.putfield 22, 3) := by decide +kernel
theorem dX3_beginNumber_10 : decode cX3_beginNumber 10 = .ok (.iload_n 1, 1) := by decide +kernel
theorem dX3_beginNumber_11 : decode cX3_beginNumber 11 = .ok (.ifCond .lt 15, 3) := by decide +kernel
theorem dX3_beginNumber_14 : decode cX3_beginNumber 14 = .ok (.iload_n 1, 1) := by decide +kernel
theorem dX3_beginNumber_15 : decode cX3_beginNumber 15 = .ok (.iconst 3, 1) := by decide +kernel
theorem dX3_beginNumber_16 : decode cX3_beginNumber 16 = .ok (.if_icmp .ge 10, 3) := by decide +kernel
theorem dX3_beginNumber_19 : decode cX3_beginNumber 19 = .ok (.aload_n 0, 1) := by decide +kernel
theorem dX3_beginNumber_20 : decode cX3_beginNumber 20 = .ok (.getfield 15, 3) := by decide +kernel
theorem dX3_beginNumber_23 : decode cX3_beginNumber 23 = .ok (.iload_n 1, 1) := by decide +kernel
theorem dX3_beginNumber_24 : decode cX3_beginNumber 24 = .ok (.iconst 0, 1) := by decide +kernel
theorem dX3_beginNumber_25 : decode cX3_beginNumber 25 = .ok (.iastore, 1) := by decide +kernel
theorem dX3_beginNumber_26 : decode cX3_beginNumber 26 = .ok (.return_, 1) := by decide +kernel
theorem dX3_numberAt_0 : decode cX3_numberAt 0 = .ok (.iload_n 1, 1) := by decide +kernel
theorem dX3_numberAt_1 : decode cX3_numberAt 1 = .ok (.ifCond .lt 17, 3) := by decide +kernel
theorem dX3_numberAt_4 : decode cX3_numberAt 4 = .ok (.iload_n 1, 1) := by decide +kernel
theorem dX3_numberAt_5 : decode cX3_numberAt 5 = .ok (.iconst 3, 1) := by decide +kernel
theorem dX3_numberAt_6 : decode cX3_numberAt 6 = .ok (.if_icmp .ge 12, 3) := by decide +kernel
theorem dX3_numberAt_9 : decode cX3_numberAt 9 = .ok (.aload_n 0, 1) := by decide +kernel
theorem dX3_numberAt_10 : decode cX3_numberAt 10 = .ok (.getfield 15, 3) := by decide +kernel
theorem dX3_numberAt_13 : decode cX3_numberAt 13 = .ok (.iload_n 1, 1) := by decide +kernel
theorem dX3_numberAt_14 : decode cX3_numberAt 14 = .ok (.iaload, 1) := by decide +kernel
theorem dX3_numberAt_15 : decode cX3_numberAt 15 = .ok (.goto 4, 3) := by decide +kernel
theorem dX3_numberAt_18 : decode cX3_numberAt 18 = .ok (.iconst (-1), 1) := by decide +kernel
theorem dX3_numberAt_19 : decode cX3_numberAt 19 = .ok (.ireturn, 1) := by decide +kernel
theorem dX3_take_0 : decode cX3_take 0 = .ok (.aload_n 0, 1) := by decide +kernel
theorem dX3_take_1 : decode cX3_take 1 = .ok (.getfield 9, 3) := by decide +kernel
theorem dX3_take_4 : decode cX3_take 4 = .ok (.iconst (-1), 1) := by decide +kernel
theorem dX3_take_5 : decode cX3_take 5 = .ok (.if_icmp .ne 9, 3) := by decide +kernel
theorem dX3_take_8 : decode cX3_take 8 = .ok (.aload_n 0, 1) := by decide +kernel
theorem dX3_take_9 : decode cX3_take 9 = .ok (.iload_n 1, 1) := by decide +kernel
theorem dX3_take_10 : decode cX3_take 10 = .ok (.invokevirtual 29, 3) := by decide +kernel
theorem dX3_take_13 : decode cX3_take 13 = .ok (.ireturn, 1) := by decide +kernel
theorem dX3_take_14 : decode cX3_take 14 = .ok (.iload_n 1, 1) := by decide +kernel
theorem dX3_take_15 : decode cX3_take 15 = .ok (.bipush 48, 2) := by decide +kernel
theorem dX3_take_17 : decode cX3_take 17 = .ok (.if_icmp .lt 18, 3) := by decide +kernel
theorem dX3_take_20 : decode cX3_take 20 = .ok (.iload_n 1, 1) := by decide +kernel
theorem dX3_take_21 : decode cX3_take 21 = .ok (.bipush 57, 2) := by decide +kernel
theorem dX3_take_23 : decode cX3_take 23 = .ok (.if_icmp .gt 12, 3) := by decide +kernel
theorem dX3_take_26 : decode cX3_take 26 = .ok (.aload_n 0, 1) := by decide +kernel
theorem dX3_take_27 : decode cX3_take 27 = .ok (.iload_n 1, 1) := by decide +kernel
theorem dX3_take_28 : decode cX3_take 28 = .ok (.bipush 48, 2) := by decide +kernel
theorem dX3_take_30 : decode cX3_take 30 = .ok (.isub, 1) := by decide +kernel
theorem dX3_take_31 : decode cX3_take 31 = .ok (.invokevirtual 33, 3) := by decide +kernel
theorem dX3_take_34 : decode cX3_take 34 = .ok (.ireturn, 1) := by decide +kernel
theorem dX3_take_35 : decode cX3_take 35 = .ok (.iload_n 1, 1) := by decide +kernel
theorem dX3_take_36 : decode cX3_take 36 = .ok (.bipush 44, 2) := by decide +kernel
theorem dX3_take_38 : decode cX3_take 38 = .ok (.if_icmp .ne 8, 3) := by decide +kernel
theorem dX3_take_41 : decode cX3_take 41 = .ok (.aload_n 0, 1) := by decide +kernel
theorem dX3_take_42 : decode cX3_take 42 = .ok (.invokevirtual 36, 3) := by decide +kernel
theorem dX3_take_45 : decode cX3_take 45 = .ok (.ireturn, 1) := by decide +kernel
theorem dX3_take_46 : decode cX3_take 46 = .ok (.iload_n 1, 1) := by decide +kernel
theorem dX3_take_47 : decode cX3_take 47 = .ok (.bipush 59, 2) := by decide +kernel
theorem dX3_take_49 : decode cX3_take 49 = .ok (.if_icmp .ne 14, 3) := by decide +kernel
theorem dX3_take_52 : decode cX3_take 52 = .ok (.aload_n 0, 1) := by decide +kernel
theorem dX3_take_53 : decode cX3_take 53 = .ok (.invokevirtual 40, 3) := by decide +kernel
theorem dX3_take_56 : decode cX3_take 56 = .ok (.ifCond .eq 7, 3) := by decide +kernel
theorem dX3_take_59 : decode cX3_take 59 = .ok (.iconst 1, 1) := by decide +kernel
theorem dX3_take_60 : decode cX3_take 60 = .ok (.goto 4, 3) := by decide +kernel
theorem dX3_take_63 : decode cX3_take 63 = .ok (.iconst 0, 1) := by decide +kernel
theorem dX3_take_64 : decode cX3_take 64 = .ok (.ireturn, 1) := by decide +kernel
theorem dX3_partIsWhole_0 : decode cX3_partIsWhole 0 = .ok (.aload_n 0, 1) := by decide +kernel
theorem dX3_partIsWhole_1 : decode cX3_partIsWhole 1 = .ok (.getfield 9, 3) := by decide +kernel
theorem dX3_partIsWhole_4 : decode cX3_partIsWhole 4 = .ok (.iconst (-1), 1) := by decide +kernel
theorem dX3_partIsWhole_5 : decode cX3_partIsWhole 5 = .ok (.if_icmp .eq 25, 3) := by decide +kernel
theorem dX3_partIsWhole_8 : decode cX3_partIsWhole 8 = .ok (.aload_n 0, 1) := by decide +kernel
theorem dX3_partIsWhole_9 : decode cX3_partIsWhole 9 = .ok (.getfield 19, 3) := by decide +kernel
theorem dX3_partIsWhole_12 : decode cX3_partIsWhole 12 = .ok (.aload_n 0, 1) := by decide +kernel
theorem dX3_partIsWhole_13 : decode cX3_partIsWhole 13 = .ok (.invokevirtual 43, 3) := by decide +kernel
theorem dX3_partIsWhole_16 : decode cX3_partIsWhole 16 = .ok (.if_icmp .ne 14, 3) := by decide +kernel
theorem dX3_partIsWhole_19 : decode cX3_partIsWhole 19 = .ok (.aload_n 0, 1) := by decide +kernel
theorem dX3_partIsWhole_20 : decode cX3_partIsWhole 20 = .ok (.invokevirtual 47, 3) := by decide +kernel
theorem dX3_partIsWhole_23 : decode cX3_partIsWhole 23 = .ok (.ifCond .eq 7, 3) := by decide +kernel
theorem dX3_partIsWhole_26 : decode cX3_partIsWhole 26 = .ok (.iconst 1, 1) := by decide +kernel
theorem dX3_partIsWhole_27 : decode cX3_partIsWhole 27 = .ok (.goto 4, 3) := by decide +kernel
theorem dX3_partIsWhole_30 : decode cX3_partIsWhole 30 = .ok (.iconst 0, 1) := by decide +kernel
theorem dX3_partIsWhole_31 : decode cX3_partIsWhole 31 = .ok (.ireturn, 1) := by decide +kernel
theorem dX3_takeKind_0 : decode cX3_takeKind 0 = .ok (.iload_n 1, 1) := by decide +kernel
theorem dX3_takeKind_1 : decode cX3_takeKind 1 = .ok (.bipush 115, 2) := by decide +kernel
theorem dX3_takeKind_3 : decode cX3_takeKind 3 = .ok (.if_icmp .eq 17, 3) := by decide +kernel
theorem dX3_takeKind_6 : decode cX3_takeKind 6 = .ok (.iload_n 1, 1) := by decide +kernel
theorem dX3_takeKind_7 : decode cX3_takeKind 7 = .ok (.bipush 103, 2) := by decide +kernel
theorem dX3_takeKind_9 : decode cX3_takeKind 9 = .ok (.if_icmp .eq 11, 3) := by decide +kernel
theorem dX3_takeKind_12 : decode cX3_takeKind 12 = .ok (.iload_n 1, 1) := by decide +kernel
theorem dX3_takeKind_13 : decode cX3_takeKind 13 = .ok (.bipush 43, 2) := by decide +kernel
theorem dX3_takeKind_15 : decode cX3_takeKind 15 = .ok (.if_icmp .eq 5, 3) := by decide +kernel
theorem dX3_takeKind_18 : decode cX3_takeKind 18 = .ok (.iconst 0, 1) := by decide +kernel
theorem dX3_takeKind_19 : decode cX3_takeKind 19 = .ok (.ireturn, 1) := by decide +kernel
theorem dX3_takeKind_20 : decode cX3_takeKind 20 = .ok (.aload_n 0, 1) := by decide +kernel
theorem dX3_takeKind_21 : decode cX3_takeKind 21 = .ok (.iload_n 1, 1) := by decide +kernel
theorem dX3_takeKind_22 : decode cX3_takeKind 22 = .ok (.putfield 9, 3) := by decide +kernel
theorem dX3_takeKind_25 : decode cX3_takeKind 25 = .ok (.iconst 1, 1) := by decide +kernel
theorem dX3_takeKind_26 : decode cX3_takeKind 26 = .ok (.ireturn, 1) := by decide +kernel
theorem dX3_takeDigit_0 : decode cX3_takeDigit 0 = .ok (.aload_n 0, 1) := by decide +kernel
theorem dX3_takeDigit_1 : decode cX3_takeDigit 1 = .ok (.aload_n 0, 1) := by decide +kernel
theorem dX3_takeDigit_2 : decode cX3_takeDigit 2 = .ok (.getfield 19, 3) := by decide +kernel
theorem dX3_takeDigit_5 : decode cX3_takeDigit 5 = .ok (.invokevirtual 50, 3) := by decide +kernel
theorem dX3_takeDigit_8 : decode cX3_takeDigit 8 = .ok (.istore_n 2, 1) := by decide +kernel
theorem dX3_takeDigit_9 : decode cX3_takeDigit 9 = .ok (.aload_n 0, 1) := by decide +kernel
theorem dX3_takeDigit_10 : decode cX3_takeDigit 10 = .ok (.getfield 22, 3) := by decide +kernel
theorem dX3_takeDigit_13 : decode cX3_takeDigit 13 = .ok (.ifCond .le 11, 3) := by decide +kernel
theorem dX3_takeDigit_16 : decode cX3_takeDigit 16 = .ok (.iload_n 2, 1) := by decide +kernel
theorem dX3_takeDigit_17 : decode cX3_takeDigit 17 = .ok (.ifCond .ne 7, 3) := by decide +kernel
theorem dX3_takeDigit_20 : decode cX3_takeDigit 20 = .ok (.iconst 1, 1) := by decide +kernel
theorem dX3_takeDigit_21 : decode cX3_takeDigit 21 = .ok (.goto 4, 3) := by decide +kernel
theorem dX3_takeDigit_24 : decode cX3_takeDigit 24 = .ok (.iconst 0, 1) := by decide +kernel
theorem dX3_takeDigit_25 : decode cX3_takeDigit 25 = .ok (.istore_n 3, 1) := by decide +kernel
theorem dX3_takeDigit_26 : decode cX3_takeDigit 26 = .ok (.iload_n 2, 1) := by decide +kernel
theorem dX3_takeDigit_27 : decode cX3_takeDigit 27 = .ok (.bipush 10, 2) := by decide +kernel
theorem dX3_takeDigit_29 : decode cX3_takeDigit 29 = .ok (.imul, 1) := by decide +kernel
theorem dX3_takeDigit_30 : decode cX3_takeDigit 30 = .ok (.iload_n 1, 1) := by decide +kernel
theorem dX3_takeDigit_31 : decode cX3_takeDigit 31 = .ok (.iadd, 1) := by decide +kernel
theorem dX3_takeDigit_32 : decode cX3_takeDigit 32 = .ok (.istore 4, 2) := by decide +kernel
theorem dX3_takeDigit_34 : decode cX3_takeDigit 34 = .ok (.iload_n 3, 1) := by decide +kernel
theorem dX3_takeDigit_35 : decode cX3_takeDigit 35 = .ok (.ifCond .ne 27, 3) := by decide +kernel
theorem dX3_takeDigit_38 : decode cX3_takeDigit 38 = .ok (.aload_n 0, 1) := by decide +kernel
theorem dX3_takeDigit_39 : decode cX3_takeDigit 39 = .ok (.iload 4, 2) := by decide +kernel
theorem dX3_takeDigit_41 : decode cX3_takeDigit 41 = .ok (.invokevirtual 54, 3) := by decide +kernel
theorem dX3_takeDigit_44 : decode cX3_takeDigit 44 = .ok (.ifCond .eq 18, 3) := by decide +kernel
theorem dX3_takeDigit_47 : decode cX3_takeDigit 47 = .ok (.aload_n 0, 1) := by decide +kernel
theorem dX3_takeDigit_48 : decode cX3_takeDigit 48 = .ok (.getfield 19, 3) := by decide +kernel
theorem dX3_takeDigit_51 : decode cX3_takeDigit 51 = .ok (.ifCond .lt 11, 3) := by decide +kernel
theorem dX3_takeDigit_54 : decode cX3_takeDigit 54 = .ok (.aload_n 0, 1) := by decide +kernel
theorem dX3_takeDigit_55 : decode cX3_takeDigit 55 = .ok (.getfield 19, 3) := by decide +kernel
theorem dX3_takeDigit_58 : decode cX3_takeDigit 58 = .ok (.iconst 3, 1) := by decide +kernel
theorem dX3_takeDigit_59 : decode cX3_takeDigit 59 = .ok (.if_icmp .lt 5, 3) := by decide +kernel
theorem dX3_takeDigit_62 : decode cX3_takeDigit 62 = .ok (.iconst 0, 1) := by decide +kernel
theorem dX3_takeDigit_63 : decode cX3_takeDigit 63 = .ok (.ireturn, 1) := by decide +kernel
theorem dX3_takeDigit_64 : decode cX3_takeDigit 64 = .ok (.aload_n 0, 1) := by decide +kernel
theorem dX3_takeDigit_65 : decode cX3_takeDigit 65 = .ok (.getfield 15, 3) := by decide +kernel
theorem dX3_takeDigit_68 : decode cX3_takeDigit 68 = .ok (.aload_n 0, 1) := by decide +kernel
theorem dX3_takeDigit_69 : decode cX3_takeDigit 69 = .ok (.getfield 19, 3) := by decide +kernel
theorem dX3_takeDigit_72 : decode cX3_takeDigit 72 = .ok (.iload 4, 2) := by decide +kernel
theorem dX3_takeDigit_74 : decode cX3_takeDigit 74 = .ok (.iastore, 1) := by decide +kernel
theorem dX3_takeDigit_75 : decode cX3_takeDigit 75 = .ok (.aload_n 0, 1) := by decide +kernel
theorem dX3_takeDigit_76 : decode cX3_takeDigit 76 = .ok (.dup, 1) := by decide +kernel
theorem dX3_takeDigit_77 : decode cX3_takeDigit 77 = .ok (.getfield 22, 3) := by decide +kernel
theorem dX3_takeDigit_80 : decode cX3_takeDigit 80 = .ok (.iconst 1, 1) := by decide +kernel
theorem dX3_takeDigit_81 : decode cX3_takeDigit 81 = .ok (.iadd, 1) := by decide +kernel
theorem dX3_takeDigit_82 : decode cX3_takeDigit 82 = .ok (.putfield 22, 3) := by decide +kernel
theorem dX3_takeDigit_85 : decode cX3_takeDigit 85 = .ok (.iconst 1, 1) := by decide +kernel
theorem dX3_takeDigit_86 : decode cX3_takeDigit 86 = .ok (.ireturn, 1) := by decide +kernel
theorem dX3_takeComma_0 : decode cX3_takeComma 0 = .ok (.aload_n 0, 1) := by decide +kernel
theorem dX3_takeComma_1 : decode cX3_takeComma 1 = .ok (.invokevirtual 47, 3) := by decide +kernel
theorem dX3_takeComma_4 : decode cX3_takeComma 4 = .ok (.ifCond .eq 14, 3) := by decide +kernel
theorem dX3_takeComma_7 : decode cX3_takeComma 7 = .ok (.aload_n 0, 1) := by decide +kernel
theorem dX3_takeComma_8 : decode cX3_takeComma 8 = .ok (.getfield 19, 3) := by decide +kernel
theorem dX3_takeComma_11 : decode cX3_takeComma 11 = .ok (.aload_n 0, 1) := by decide +kernel
theorem dX3_takeComma_12 : decode cX3_takeComma 12 = .ok (.invokevirtual 43, 3) := by decide +kernel
theorem dX3_takeComma_15 : decode cX3_takeComma 15 = .ok (.if_icmp .lt 5, 3) := by decide +kernel
theorem dX3_takeComma_18 : decode cX3_takeComma 18 = .ok (.iconst 0, 1) := by decide +kernel
theorem dX3_takeComma_19 : decode cX3_takeComma 19 = .ok (.ireturn, 1) := by decide +kernel
theorem dX3_takeComma_20 : decode cX3_takeComma 20 = .ok (.aload_n 0, 1) := by decide +kernel
theorem dX3_takeComma_21 : decode cX3_takeComma 21 = .ok (.aload_n 0, 1) := by decide +kernel
theorem dX3_takeComma_22 : decode cX3_takeComma 22 = .ok (.getfield 19, 3) := by decide +kernel
theorem dX3_takeComma_25 : decode cX3_takeComma 25 = .ok (.iconst 1, 1) := by decide +kernel
theorem dX3_takeComma_26 : decode cX3_takeComma 26 = .ok (.iadd, 1) := by decide +kernel
theorem dX3_takeComma_27 : decode cX3_takeComma 27 = .ok (.invokevirtual 25, 3) := by decide +kernel
theorem dX3_takeComma_30 : decode cX3_takeComma 30 = .ok (.iconst 1, 1) := by decide +kernel
theorem dX3_takeComma_31 : decode cX3_takeComma 31 = .ok (.ireturn, 1) := by decide +kernel
theorem dX3_takeSeparator_0 : decode cX3_takeSeparator 0 = .ok (.aload_n 0, 1) := by decide +kernel
theorem dX3_takeSeparator_1 : decode cX3_takeSeparator 1 = .ok (.invokevirtual 57, 3) := by decide +kernel
theorem dX3_takeSeparator_4 : decode cX3_takeSeparator 4 = .ok (.ifCond .ne 5, 3) := by decide +kernel
theorem dX3_takeSeparator_7 : decode cX3_takeSeparator 7 = .ok (.iconst 0, 1) := by decide +kernel
theorem dX3_takeSeparator_8 : decode cX3_takeSeparator 8 = .ok (.ireturn, 1) := by decide +kernel
theorem dX3_takeSeparator_9 : decode cX3_takeSeparator 9 = .ok (.aload_n 0, 1) := by decide +kernel
theorem dX3_takeSeparator_10 : decode cX3_takeSeparator 10 = .ok (.invokevirtual 60, 3) := by decide +kernel
theorem dX3_takeSeparator_13 : decode cX3_takeSeparator 13 = .ok (.iconst 1, 1) := by decide +kernel
theorem dX3_takeSeparator_14 : decode cX3_takeSeparator 14 = .ok (.ireturn, 1) := by decide +kernel
theorem dX3_numberIsWhole_0 : decode cX3_numberIsWhole 0 = .ok (.aload_n 0, 1) := by decide +kernel
theorem dX3_numberIsWhole_1 : decode cX3_numberIsWhole 1 = .ok (.aload_n 0, 1) := by decide +kernel
theorem dX3_numberIsWhole_2 : decode cX3_numberIsWhole 2 = .ok (.getfield 19, 3) := by decide +kernel
theorem dX3_numberIsWhole_5 : decode cX3_numberIsWhole 5 = .ok (.invokevirtual 50, 3) := by decide +kernel
theorem dX3_numberIsWhole_8 : decode cX3_numberIsWhole 8 = .ok (.istore_n 1, 1) := by decide +kernel
theorem dX3_numberIsWhole_9 : decode cX3_numberIsWhole 9 = .ok (.aload_n 0, 1) := by decide +kernel
theorem dX3_numberIsWhole_10 : decode cX3_numberIsWhole 10 = .ok (.getfield 22, 3) := by decide +kernel
theorem dX3_numberIsWhole_13 : decode cX3_numberIsWhole 13 = .ok (.ifCond .le 23, 3) := by decide +kernel
theorem dX3_numberIsWhole_16 : decode cX3_numberIsWhole 16 = .ok (.iload_n 1, 1) := by decide +kernel
theorem dX3_numberIsWhole_17 : decode cX3_numberIsWhole 17 = .ok (.aload_n 0, 1) := by decide +kernel
theorem dX3_numberIsWhole_18 : decode cX3_numberIsWhole 18 = .ok (.invokevirtual 63, 3) := by decide +kernel
theorem dX3_numberIsWhole_21 : decode cX3_numberIsWhole 21 = .ok (.if_icmp .lt 15, 3) := by decide +kernel
theorem dX3_numberIsWhole_24 : decode cX3_numberIsWhole 24 = .ok (.iload_n 1, 1) := by decide +kernel
theorem dX3_numberIsWhole_25 : decode cX3_numberIsWhole 25 = .ok (.aload_n 0, 1) := by decide +kernel
theorem dX3_numberIsWhole_26 : decode cX3_numberIsWhole 26 = .ok (.invokevirtual 66, 3) := by decide +kernel
theorem dX3_numberIsWhole_29 : decode cX3_numberIsWhole 29 = .ok (.if_icmp .gt 7, 3) := by decide +kernel
theorem dX3_numberIsWhole_32 : decode cX3_numberIsWhole 32 = .ok (.iconst 1, 1) := by decide +kernel
theorem dX3_numberIsWhole_33 : decode cX3_numberIsWhole 33 = .ok (.goto 4, 3) := by decide +kernel
theorem dX3_numberIsWhole_36 : decode cX3_numberIsWhole 36 = .ok (.iconst 0, 1) := by decide +kernel
theorem dX3_numberIsWhole_37 : decode cX3_numberIsWhole 37 = .ok (.ireturn, 1) := by decide +kernel
theorem dX3_canBecomeNumber_0 : decode cX3_canBecomeNumber 0 = .ok (.iload_n 1, 1) := by decide +kernel
theorem dX3_canBecomeNumber_1 : decode cX3_canBecomeNumber 1 = .ok (.ifCond .ne 16, 3) := by decide +kernel
theorem dX3_canBecomeNumber_4 : decode cX3_canBecomeNumber 4 = .ok (.aload_n 0, 1) := by decide +kernel
theorem dX3_canBecomeNumber_5 : decode cX3_canBecomeNumber 5 = .ok (.invokevirtual 63, 3) := by decide +kernel
theorem dX3_canBecomeNumber_8 : decode cX3_canBecomeNumber 8 = .ok (.ifCond .ne 7, 3) := by decide +kernel
theorem dX3_canBecomeNumber_11 : decode cX3_canBecomeNumber 11 = .ok (.iconst 1, 1) := by decide +kernel
theorem dX3_canBecomeNumber_12 : decode cX3_canBecomeNumber 12 = .ok (.goto 4, 3) := by decide +kernel
theorem dX3_canBecomeNumber_15 : decode cX3_canBecomeNumber 15 = .ok (.iconst 0, 1) := by decide +kernel
theorem dX3_canBecomeNumber_16 : decode cX3_canBecomeNumber 16 = .ok (.ireturn, 1) := by decide +kernel
theorem dX3_canBecomeNumber_17 : decode cX3_canBecomeNumber 17 = .ok (.iload_n 1, 1) := by decide +kernel
theorem dX3_canBecomeNumber_18 : decode cX3_canBecomeNumber 18 = .ok (.istore_n 2, 1) := by decide +kernel
theorem dX3_canBecomeNumber_19 : decode cX3_canBecomeNumber 19 = .ok (.iload_n 1, 1) := by decide +kernel
theorem dX3_canBecomeNumber_20 : decode cX3_canBecomeNumber 20 = .ok (.istore_n 3, 1) := by decide +kernel
theorem dX3_canBecomeNumber_21 : decode cX3_canBecomeNumber 21 = .ok (.iconst 0, 1) := by decide +kernel
theorem dX3_canBecomeNumber_22 : decode cX3_canBecomeNumber 22 = .ok (.istore 4, 2) := by decide +kernel
theorem dX3_canBecomeNumber_24 : decode cX3_canBecomeNumber 24 = .ok (.iload 4, 2) := by decide +kernel
theorem dX3_canBecomeNumber_26 : decode cX3_canBecomeNumber 26 = .ok (.iconst 4, 1) := by decide +kernel
theorem dX3_canBecomeNumber_27 : decode cX3_canBecomeNumber 27 = .ok (.if_icmp .ge 40, 3) := by decide +kernel
theorem dX3_canBecomeNumber_30 : decode cX3_canBecomeNumber 30 = .ok (.iload_n 2, 1) := by decide +kernel
theorem dX3_canBecomeNumber_31 : decode cX3_canBecomeNumber 31 = .ok (.aload_n 0, 1) := by decide +kernel
theorem dX3_canBecomeNumber_32 : decode cX3_canBecomeNumber 32 = .ok (.invokevirtual 66, 3) := by decide +kernel
theorem dX3_canBecomeNumber_35 : decode cX3_canBecomeNumber 35 = .ok (.if_icmp .gt 13, 3) := by decide +kernel
theorem dX3_canBecomeNumber_38 : decode cX3_canBecomeNumber 38 = .ok (.iload_n 3, 1) := by decide +kernel
theorem dX3_canBecomeNumber_39 : decode cX3_canBecomeNumber 39 = .ok (.aload_n 0, 1) := by decide +kernel
theorem dX3_canBecomeNumber_40 : decode cX3_canBecomeNumber 40 = .ok (.invokevirtual 63, 3) := by decide +kernel
theorem dX3_canBecomeNumber_43 : decode cX3_canBecomeNumber 43 = .ok (.if_icmp .lt 5, 3) := by decide +kernel
theorem dX3_canBecomeNumber_46 : decode cX3_canBecomeNumber 46 = .ok (.iconst 1, 1) := by decide +kernel
theorem dX3_canBecomeNumber_47 : decode cX3_canBecomeNumber 47 = .ok (.ireturn, 1) := by decide +kernel
theorem dX3_canBecomeNumber_48 : decode cX3_canBecomeNumber 48 = .ok (.iload_n 2, 1) := by decide +kernel
theorem dX3_canBecomeNumber_49 : decode cX3_canBecomeNumber 49 = .ok (.bipush 10, 2) := by decide +kernel
theorem dX3_canBecomeNumber_51 : decode cX3_canBecomeNumber 51 = .ok (.imul, 1) := by decide +kernel
theorem dX3_canBecomeNumber_52 : decode cX3_canBecomeNumber 52 = .ok (.istore_n 2, 1) := by decide +kernel
theorem dX3_canBecomeNumber_53 : decode cX3_canBecomeNumber 53 = .ok (.iload_n 3, 1) := by decide +kernel
theorem dX3_canBecomeNumber_54 : decode cX3_canBecomeNumber 54 = .ok (.bipush 10, 2) := by decide +kernel
theorem dX3_canBecomeNumber_56 : decode cX3_canBecomeNumber 56 = .ok (.imul, 1) := by decide +kernel
theorem dX3_canBecomeNumber_57 : decode cX3_canBecomeNumber 57 = .ok (.bipush 9, 2) := by decide +kernel
theorem dX3_canBecomeNumber_59 : decode cX3_canBecomeNumber 59 = .ok (.iadd, 1) := by decide +kernel
theorem dX3_canBecomeNumber_60 : decode cX3_canBecomeNumber 60 = .ok (.istore_n 3, 1) := by decide +kernel
theorem dX3_canBecomeNumber_61 : decode cX3_canBecomeNumber 61 = .ok (.iinc 4 1, 3) := by decide +kernel
theorem dX3_canBecomeNumber_64 : decode cX3_canBecomeNumber 64 = .ok (.goto (-40), 3) := by decide +kernel
theorem dX3_canBecomeNumber_67 : decode cX3_canBecomeNumber 67 = .ok (.iconst 0, 1) := by decide +kernel
theorem dX3_canBecomeNumber_68 : decode cX3_canBecomeNumber 68 = .ok (.ireturn, 1) := by decide +kernel
theorem dX3_lastNumber_0 : decode cX3_lastNumber 0 = .ok (.aload_n 0, 1) := by decide +kernel
theorem dX3_lastNumber_1 : decode cX3_lastNumber 1 = .ok (.getfield 9, 3) := by decide +kernel
theorem dX3_lastNumber_4 : decode cX3_lastNumber 4 = .ok (.bipush 43, 2) := by decide +kernel
theorem dX3_lastNumber_6 : decode cX3_lastNumber 6 = .ok (.if_icmp .ne 7, 3) := by decide +kernel
theorem dX3_lastNumber_9 : decode cX3_lastNumber 9 = .ok (.iconst 0, 1) := by decide +kernel
theorem dX3_lastNumber_10 : decode cX3_lastNumber 10 = .ok (.goto 4, 3) := by decide +kernel
theorem dX3_lastNumber_13 : decode cX3_lastNumber 13 = .ok (.iconst 2, 1) := by decide +kernel
theorem dX3_lastNumber_14 : decode cX3_lastNumber 14 = .ok (.ireturn, 1) := by decide +kernel
theorem dX3_least_0 : decode cX3_least 0 = .ok (.aload_n 0, 1) := by decide +kernel
theorem dX3_least_1 : decode cX3_least 1 = .ok (.getfield 9, 3) := by decide +kernel
theorem dX3_least_4 : decode cX3_least 4 = .ok (.bipush 43, 2) := by decide +kernel
theorem dX3_least_6 : decode cX3_least 6 = .ok (.if_icmp .ne 5, 3) := by decide +kernel
theorem dX3_least_9 : decode cX3_least 9 = .ok (.iconst 1, 1) := by decide +kernel
theorem dX3_least_10 : decode cX3_least 10 = .ok (.ireturn, 1) := by decide +kernel
theorem dX3_least_11 : decode cX3_least 11 = .ok (.aload_n 0, 1) := by decide +kernel
theorem dX3_least_12 : decode cX3_least 12 = .ok (.getfield 19, 3) := by decide +kernel
theorem dX3_least_15 : decode cX3_least 15 = .ok (.ifCond .ne 5, 3) := by decide +kernel
theorem dX3_least_18 : decode cX3_least 18 = .ok (.iconst 0, 1) := by decide +kernel
theorem dX3_least_19 : decode cX3_least 19 = .ok (.ireturn, 1) := by decide +kernel
theorem dX3_least_20 : decode cX3_least 20 = .ok (.aload_n 0, 1) := by decide +kernel
theorem dX3_least_21 : decode cX3_least 21 = .ok (.getfield 9, 3) := by decide +kernel
theorem dX3_least_24 : decode cX3_least 24 = .ok (.bipush 115, 2) := by decide +kernel
theorem dX3_least_26 : decode cX3_least 26 = .ok (.if_icmp .ne 7, 3) := by decide +kernel
theorem dX3_least_29 : decode cX3_least 29 = .ok (.iconst 1, 1) := by decide +kernel
theorem dX3_least_30 : decode cX3_least 30 = .ok (.goto 5, 3) := by decide +kernel
theorem dX3_least_33 : decode cX3_least 33 = .ok (.bipush 8, 2) := by decide +kernel
theorem dX3_least_35 : decode cX3_least 35 = .ok (.ireturn, 1) := by decide +kernel
theorem dX3_most_0 : decode cX3_most 0 = .ok (.aload_n 0, 1) := by decide +kernel
theorem dX3_most_1 : decode cX3_most 1 = .ok (.getfield 9, 3) := by decide +kernel
theorem dX3_most_4 : decode cX3_most 4 = .ok (.bipush 43, 2) := by decide +kernel
theorem dX3_most_6 : decode cX3_most 6 = .ok (.if_icmp .ne 6, 3) := by decide +kernel
theorem dX3_most_9 : decode cX3_most 9 = .ok (.bipush 48, 2) := by decide +kernel
theorem dX3_most_11 : decode cX3_most 11 = .ok (.ireturn, 1) := by decide +kernel
theorem dX3_most_12 : decode cX3_most 12 = .ok (.aload_n 0, 1) := by decide +kernel
theorem dX3_most_13 : decode cX3_most 13 = .ok (.getfield 19, 3) := by decide +kernel
theorem dX3_most_16 : decode cX3_most 16 = .ok (.ifCond .ne 5, 3) := by decide +kernel
theorem dX3_most_19 : decode cX3_most 19 = .ok (.iconst 4, 1) := by decide +kernel
theorem dX3_most_20 : decode cX3_most 20 = .ok (.ireturn, 1) := by decide +kernel
theorem dX3_most_21 : decode cX3_most 21 = .ok (.aload_n 0, 1) := by decide +kernel
theorem dX3_most_22 : decode cX3_most 22 = .ok (.getfield 9, 3) := by decide +kernel
theorem dX3_most_25 : decode cX3_most 25 = .ok (.bipush 103, 2) := by decide +kernel
theorem dX3_most_27 : decode cX3_most 27 = .ok (.if_icmp .ne 6, 3) := by decide +kernel
theorem dX3_most_30 : decode cX3_most 30 = .ok (.bipush 60, 2) := by decide +kernel
theorem dX3_most_32 : decode cX3_most 32 = .ok (.ireturn, 1) := by decide +kernel
theorem dX3_most_33 : decode cX3_most 33 = .ok (.aload_n 0, 1) := by decide +kernel
theorem dX3_most_34 : decode cX3_most 34 = .ok (.getfield 19, 3) := by decide +kernel
theorem dX3_most_37 : decode cX3_most 37 = .ok (.iconst 1, 1) := by decide +kernel
theorem dX3_most_38 : decode cX3_most 38 = .ok (.if_icmp .ne 9, 3) := by decide +kernel
theorem dX3_most_41 : decode cX3_most 41 = .ok (.sipush 999, 3) := by decide +kernel
theorem dX3_most_44 : decode cX3_most 44 = .ok (.goto 6, 3) := by decide +kernel
theorem dX3_most_47 : decode cX3_most 47 = .ok (.sipush 9999, 3) := by decide +kernel
theorem dX3_most_50 : decode cX3_most 50 = .ok (.ireturn, 1) := by decide +kernel
theorem dX4_init_0 : decode cX4_init 0 = .ok (.aload_n 0, 1) := by decide +kernel
theorem dX4_init_1 : decode cX4_init 1 = .ok (.invokespecial 1, 3) := by decide +kernel
theorem dX4_init_4 : decode cX4_init 4 = .ok (.aload_n 0, 1) := by decide +kernel
theorem dX4_init_5 : decode cX4_init 5 = .ok (.new 7, 3) := by decide +kernel
theorem dX4_init_8 : decode cX4_init 8 = .ok (.dup, 1) := by decide +kernel
theorem dX4_init_9 : decode cX4_init 9 = .ok (.invokespecial 9, 3) := by decide +kernel
theorem dX4_init_12 : decode cX4_init 12 = .ok (.putfield 10, 3) := by decide +kernel
theorem dX4_init_15 : decode cX4_init 15 = .ok (.aload_n 0, 1) := by decide +kernel
theorem dX4_init_16 : decode cX4_init 16 = .ok (.new 7, 3) := by decide +kernel
theorem dX4_init_19 : decode cX4_init 19 = .ok (.dup, 1) := by decide +kernel
theorem dX4_init_20 : decode cX4_init 20 = .ok (.invokespecial 9, 3) := by decide +kernel
theorem dX4_init_23 : decode cX4_init 23 = .ok (.putfield 16, 3) := by decide +kernel
theorem dX4_init_26 : decode cX4_init 26 = .ok (.aload_n 0, 1) := by decide +kernel
theorem dX4_init_27 : decode cX4_init 27 = .ok (.new 7, 3) := by decide +kernel
theorem dX4_init_30 : decode cX4_init 30 = .ok (.dup, 1) := by decide +kernel
theorem dX4_init_31 : decode cX4_init 31 = .ok (.invokespecial 9, 3) := by decide +kernel
theorem dX4_init_34 : decode cX4_init 34 = .ok (.putfield 19, 3) := by decide +kernel
theorem dX4_init_37 : decode cX4_init 37 = .ok (.aload_n 0, 1) := by decide +kernel
theorem dX4_init_38 : decode cX4_init 38 = .ok (.iconst 0, 1) := by decide +kernel
theorem dX4_init_39 : decode cX4_init 39 = .ok (.putfield 22, 3) := by decide +kernel
theorem dX4_init_42 : decode cX4_init 42 = .ok (.aload_n 0, 1) := by decide +kernel
theorem dX4_init_43 : decode cX4_init 43 = .ok (.new 26, 3) := by decide +kernel
theorem dX4_init_46 : decode cX4_init 46 = .ok (.dup, 1) := by decide +kernel
theorem dX4_init_47 : decode cX4_init 47 = .ok (.invokespecial 28, 3) := by decide +kernel
theorem dX4_init_50 : decode cX4_init 50 = .ok (.putfield 29, 3) := by decide +kernel
theorem dX4_init_53 : decode cX4_init 53 = .ok (.aload_n 0, 1) := by decide +kernel
theorem dX4_init_54 : decode cX4_init 54 = .ok (.bipush 60, 2) := by decide +kernel
theorem dX4_init_56 : decode cX4_init 56 = .ok (.newarray .int, 2) := by decide +kernel
theorem dX4_init_58 : decode cX4_init 58 = .ok (.putfield 33, 3) := by decide +kernel
theorem dX4_init_61 : decode cX4_init 61 = .ok (.aload_n 0, 1) := by decide +kernel
theorem dX4_init_62 : decode cX4_init 62 = .ok (.iconst 0, 1) := by decide +kernel
theorem dX4_init_63 : decode cX4_init 63 = .ok (.putfield 37, 3) := by decide +kernel
theorem dX4_init_66 : decode cX4_init 66 = .ok (.aload_n 0, 1) := by decide +kernel
theorem dX4_init_67 : decode cX4_init 67 = .ok (.new 41, 3) := by decide +kernel
theorem dX4_init_70 : decode cX4_init 70 = .ok (.dup, 1) := by decide +kernel
theorem dX4_init_71 : decode cX4_init 71 = .ok (.invokespecial 43, 3) := by decide +kernel
theorem dX4_init_74 : decode cX4_init 74 = .ok (.putfield 44, 3) := by decide +kernel
theorem dX4_init_77 : decode cX4_init 77 = .ok (.return_, 1) := by decide +kernel
theorem dX4_pond_0 : decode cX4_pond 0 = .ok (.aload_n 0, 1) := by decide +kernel
theorem dX4_pond_1 : decode cX4_pond 1 = .ok (.iload_n 1, 1) := by decide +kernel
theorem dX4_pond_2 : decode cX4_pond 2 = .ok (.invokevirtual 48, 3) := by decide +kernel
theorem dX4_pond_5 : decode cX4_pond 5 = .ok (.astore 4, 2) := by decide +kernel
theorem dX4_pond_7 : decode cX4_pond 7 = .ok (.iload_n 2, 1) := by decide +kernel
theorem dX4_pond_8 : decode cX4_pond 8 = .ok (.bipush 50, 2) := by decide +kernel
theorem dX4_pond_10 : decode cX4_pond 10 = .ok (.sipush 500, 3) := by decide +kernel
theorem dX4_pond_13 : decode cX4_pond 13 = .ok (.invokestatic 52, 3) := by decide +kernel
theorem dX4_pond_16 : decode cX4_pond 16 = .ok (.iload_n 3, 1) := by decide +kernel
theorem dX4_pond_17 : decode cX4_pond 17 = .ok (.iconst 0, 1) := by decide +kernel
theorem dX4_pond_18 : decode cX4_pond 18 = .ok (.bipush 60, 2) := by decide +kernel
theorem dX4_pond_20 : decode cX4_pond 20 = .ok (.invokestatic 52, 3) := by decide +kernel
theorem dX4_pond_23 : decode cX4_pond 23 = .ok (.aload 4, 2) := by decide +kernel
theorem dX4_pond_25 : decode cX4_pond 25 = .ok (.getfield 56, 3) := by decide +kernel
theorem dX4_pond_28 : decode cX4_pond 28 = .ok (.iload_n 2, 1) := by decide +kernel
theorem dX4_pond_29 : decode cX4_pond 29 = .ok (.if_icmp .gt 7, 3) := by decide +kernel
theorem dX4_pond_32 : decode cX4_pond 32 = .ok (.iconst 1, 1) := by decide +kernel
theorem dX4_pond_33 : decode cX4_pond 33 = .ok (.goto 4, 3) := by decide +kernel
theorem dX4_pond_36 : decode cX4_pond 36 = .ok (.iconst 0, 1) := by decide +kernel
theorem dX4_pond_37 : decode cX4_pond 37 = .ok (.invokestatic 61, 3) := by decide +kernel
theorem dX4_pond_40 : decode cX4_pond 40 = .ok (.aload_n 0, 1) := by decide +kernel
theorem dX4_pond_41 : decode cX4_pond 41 = .ok (.getfield 29, 3) := by decide +kernel
theorem dX4_pond_44 : decode cX4_pond 44 = .ok (.aload_n 0, 1) := by decide +kernel
theorem dX4_pond_45 : decode cX4_pond 45 = .ok (.getfield 10, 3) := by decide +kernel
theorem dX4_pond_48 : decode cX4_pond 48 = .ok (.invokevirtual 65, 3) := by decide +kernel
theorem dX4_pond_51 : decode cX4_pond 51 = .ok (.aload 4, 2) := by decide +kernel
theorem dX4_pond_53 : decode cX4_pond 53 = .ok (.getfield 69, 3) := by decide +kernel
theorem dX4_pond_56 : decode cX4_pond 56 = .ok (.istore 5, 2) := by decide +kernel
theorem dX4_pond_58 : decode cX4_pond 58 = .ok (.aload 4, 2) := by decide +kernel
theorem dX4_pond_60 : decode cX4_pond 60 = .ok (.iload_n 2, 1) := by decide +kernel
theorem dX4_pond_61 : decode cX4_pond 61 = .ok (.putfield 69, 3) := by decide +kernel
theorem dX4_pond_64 : decode cX4_pond 64 = .ok (.aload 4, 2) := by decide +kernel
theorem dX4_pond_66 : decode cX4_pond 66 = .ok (.iload_n 3, 1) := by decide +kernel
theorem dX4_pond_67 : decode cX4_pond 67 = .ok (.putfield 72, 3) := by decide +kernel
theorem dX4_pond_70 : decode cX4_pond 70 = .ok (.iload 5, 2) := by decide +kernel
theorem dX4_pond_72 : decode cX4_pond 72 = .ok (.ireturn, 1) := by decide +kernel
theorem dX4_gate_0 : decode cX4_gate 0 = .ok (.aload_n 0, 1) := by decide +kernel
theorem dX4_gate_1 : decode cX4_gate 1 = .ok (.iload_n 1, 1) := by decide +kernel
theorem dX4_gate_2 : decode cX4_gate 2 = .ok (.invokevirtual 48, 3) := by decide +kernel
theorem dX4_gate_5 : decode cX4_gate 5 = .ok (.astore 4, 2) := by decide +kernel
theorem dX4_gate_7 : decode cX4_gate 7 = .ok (.iload_n 2, 1) := by decide +kernel
theorem dX4_gate_8 : decode cX4_gate 8 = .ok (.iconst 0, 1) := by decide +kernel
theorem dX4_gate_9 : decode cX4_gate 9 = .ok (.bipush 11, 2) := by decide +kernel
theorem dX4_gate_11 : decode cX4_gate 11 = .ok (.invokestatic 52, 3) := by decide +kernel
theorem dX4_gate_14 : decode cX4_gate 14 = .ok (.iload_n 3, 1) := by decide +kernel
theorem dX4_gate_15 : decode cX4_gate 15 = .ok (.iload_n 2, 1) := by decide +kernel
theorem dX4_gate_16 : decode cX4_gate 16 = .ok (.bipush 11, 2) := by decide +kernel
theorem dX4_gate_18 : decode cX4_gate 18 = .ok (.invokestatic 52, 3) := by decide +kernel
theorem dX4_gate_21 : decode cX4_gate 21 = .ok (.aload_n 0, 1) := by decide +kernel
theorem dX4_gate_22 : decode cX4_gate 22 = .ok (.getfield 29, 3) := by decide +kernel
theorem dX4_gate_25 : decode cX4_gate 25 = .ok (.aload_n 0, 1) := by decide +kernel
theorem dX4_gate_26 : decode cX4_gate 26 = .ok (.getfield 10, 3) := by decide +kernel
theorem dX4_gate_29 : decode cX4_gate 29 = .ok (.invokevirtual 65, 3) := by decide +kernel
theorem dX4_gate_32 : decode cX4_gate 32 = .ok (.aload 4, 2) := by decide +kernel
theorem dX4_gate_34 : decode cX4_gate 34 = .ok (.getfield 75, 3) := by decide +kernel
theorem dX4_gate_37 : decode cX4_gate 37 = .ok (.aload 4, 2) := by decide +kernel
theorem dX4_gate_39 : decode cX4_gate 39 = .ok (.getfield 78, 3) := by decide +kernel
theorem dX4_gate_42 : decode cX4_gate 42 = .ok (.isub, 1) := by decide +kernel
theorem dX4_gate_43 : decode cX4_gate 43 = .ok (.iconst 1, 1) := by decide +kernel
theorem dX4_gate_44 : decode cX4_gate 44 = .ok (.iadd, 1) := by decide +kernel
theorem dX4_gate_45 : decode cX4_gate 45 = .ok (.istore 5, 2) := by decide +kernel
theorem dX4_gate_47 : decode cX4_gate 47 = .ok (.aload 4, 2) := by decide +kernel
theorem dX4_gate_49 : decode cX4_gate 49 = .ok (.iload_n 2, 1) := by decide +kernel
theorem dX4_gate_50 : decode cX4_gate 50 = .ok (.putfield 78, 3) := by decide +kernel
theorem dX4_gate_53 : decode cX4_gate 53 = .ok (.aload 4, 2) := by decide +kernel
theorem dX4_gate_55 : decode cX4_gate 55 = .ok (.iload_n 3, 1) := by decide +kernel
theorem dX4_gate_56 : decode cX4_gate 56 = .ok (.putfield 75, 3) := by decide +kernel
theorem dX4_gate_59 : decode cX4_gate 59 = .ok (.iload 5, 2) := by decide +kernel
theorem dX4_gate_61 : decode cX4_gate 61 = .ok (.ireturn, 1) := by decide +kernel
theorem dX4_gear_0 : decode cX4_gear 0 = .ok (.aload_n 0, 1) := by decide +kernel
theorem dX4_gear_1 : decode cX4_gear 1 = .ok (.iload_n 1, 1) := by decide +kernel
theorem dX4_gear_2 : decode cX4_gear 2 = .ok (.invokevirtual 48, 3) := by decide +kernel
theorem dX4_gear_5 : decode cX4_gear 5 = .ok (.astore 4, 2) := by decide +kernel
theorem dX4_gear_7 : decode cX4_gear 7 = .ok (.iload_n 2, 1) := by decide +kernel
theorem dX4_gear_8 : decode cX4_gear 8 = .ok (.bipush 8, 2) := by decide +kernel
theorem dX4_gear_10 : decode cX4_gear 10 = .ok (.bipush 60, 2) := by decide +kernel
theorem dX4_gear_12 : decode cX4_gear 12 = .ok (.invokestatic 52, 3) := by decide +kernel
theorem dX4_gear_15 : decode cX4_gear 15 = .ok (.iload_n 3, 1) := by decide +kernel
theorem dX4_gear_16 : decode cX4_gear 16 = .ok (.bipush 8, 2) := by decide +kernel
theorem dX4_gear_18 : decode cX4_gear 18 = .ok (.bipush 60, 2) := by decide +kernel
theorem dX4_gear_20 : decode cX4_gear 20 = .ok (.invokestatic 52, 3) := by decide +kernel
theorem dX4_gear_23 : decode cX4_gear 23 = .ok (.aload_n 0, 1) := by decide +kernel
theorem dX4_gear_24 : decode cX4_gear 24 = .ok (.getfield 29, 3) := by decide +kernel
theorem dX4_gear_27 : decode cX4_gear 27 = .ok (.aload_n 0, 1) := by decide +kernel
theorem dX4_gear_28 : decode cX4_gear 28 = .ok (.getfield 10, 3) := by decide +kernel
theorem dX4_gear_31 : decode cX4_gear 31 = .ok (.invokevirtual 65, 3) := by decide +kernel
theorem dX4_gear_34 : decode cX4_gear 34 = .ok (.aload 4, 2) := by decide +kernel
theorem dX4_gear_36 : decode cX4_gear 36 = .ok (.iload_n 2, 1) := by decide +kernel
theorem dX4_gear_37 : decode cX4_gear 37 = .ok (.putfield 81, 3) := by decide +kernel
theorem dX4_gear_40 : decode cX4_gear 40 = .ok (.aload 4, 2) := by decide +kernel
theorem dX4_gear_42 : decode cX4_gear 42 = .ok (.iload_n 3, 1) := by decide +kernel
theorem dX4_gear_43 : decode cX4_gear 43 = .ok (.putfield 84, 3) := by decide +kernel
theorem dX4_gear_46 : decode cX4_gear 46 = .ok (.aload 4, 2) := by decide +kernel
theorem dX4_gear_48 : decode cX4_gear 48 = .ok (.bipush 100, 2) := by decide +kernel
theorem dX4_gear_50 : decode cX4_gear 50 = .ok (.invokevirtual 87, 3) := by decide +kernel
theorem dX4_gear_53 : decode cX4_gear 53 = .ok (.ireturn, 1) := by decide +kernel
theorem dX4_set_0 : decode cX4_set 0 = .ok (.iload_n 1, 1) := by decide +kernel
theorem dX4_set_1 : decode cX4_set 1 = .ok (.ifCond .lt 8, 3) := by decide +kernel
theorem dX4_set_4 : decode cX4_set 4 = .ok (.iload_n 1, 1) := by decide +kernel
theorem dX4_set_5 : decode cX4_set 5 = .ok (.iconst 2, 1) := by decide +kernel
theorem dX4_set_6 : decode cX4_set 6 = .ok (.if_icmp .le 13, 3) := by decide +kernel
theorem dX4_set_9 : decode cX4_set 9 = .ok (.new 91, 3) := by decide +kernel
theorem dX4_set_12 : decode cX4_set 12 = .ok (.dup, 1) := by decide +kernel
theorem dX4_set_13 : decode cX4_set 13 = .ok (.ldc 93, 2) := by decide +kernel
theorem dX4_set_15 : decode cX4_set 15 = .ok (.invokespecial 95, 3) := by decide +kernel
theorem dX4_set_18 : decode cX4_set 18 = .ok (.athrow, 1) := by decide +kernel
theorem dX4_set_19 : decode cX4_set 19 = .ok (.iload_n 2, 1) := by decide +kernel
theorem dX4_set_20 : decode cX4_set 20 = .ok (.iload_n 1, 1) := by decide +kernel
theorem dX4_set_21 : decode cX4_set 21 = .ok (.invokestatic 98, 3) := by decide +kernel
theorem dX4_set_24 : decode cX4_set 24 = .ok (.iload_n 1, 1) := by decide +kernel
theorem dX4_set_25 : decode cX4_set 25 = .ok (.invokestatic 101, 3) := by decide +kernel
theorem dX4_set_28 : decode cX4_set 28 = .ok (.invokestatic 52, 3) := by decide +kernel
theorem dX4_set_31 : decode cX4_set 31 = .ok (.aload_n 0, 1) := by decide +kernel
theorem dX4_set_32 : decode cX4_set 32 = .ok (.getfield 29, 3) := by decide +kernel
theorem dX4_set_35 : decode cX4_set 35 = .ok (.aload_n 0, 1) := by decide +kernel
theorem dX4_set_36 : decode cX4_set 36 = .ok (.getfield 10, 3) := by decide +kernel
theorem dX4_set_39 : decode cX4_set 39 = .ok (.invokevirtual 65, 3) := by decide +kernel
theorem dX4_set_42 : decode cX4_set 42 = .ok (.aload_n 0, 1) := by decide +kernel
theorem dX4_set_43 : decode cX4_set 43 = .ok (.getfield 10, 3) := by decide +kernel
theorem dX4_set_46 : decode cX4_set 46 = .ok (.iload_n 1, 1) := by decide +kernel
theorem dX4_set_47 : decode cX4_set 47 = .ok (.invokevirtual 104, 3) := by decide +kernel
theorem dX4_set_50 : decode cX4_set 50 = .ok (.istore_n 3, 1) := by decide +kernel
theorem dX4_set_51 : decode cX4_set 51 = .ok (.aload_n 0, 1) := by decide +kernel
theorem dX4_set_52 : decode cX4_set 52 = .ok (.getfield 10, 3) := by decide +kernel
theorem dX4_set_55 : decode cX4_set 55 = .ok (.iload_n 1, 1) := by decide +kernel
theorem dX4_set_56 : decode cX4_set 56 = .ok (.iload_n 2, 1) := by decide +kernel
theorem dX4_set_57 : decode cX4_set 57 = .ok (.invokevirtual 107, 3) := by decide +kernel
theorem dX4_set_60 : decode cX4_set 60 = .ok (.iload_n 3, 1) := by decide +kernel
theorem dX4_set_61 : decode cX4_set 61 = .ok (.ireturn, 1) := by decide +kernel
theorem dX4_pass_0 : decode cX4_pass 0 = .ok (.iload_n 1, 1) := by decide +kernel
theorem dX4_pass_1 : decode cX4_pass 1 = .ok (.iconst 1, 1) := by decide +kernel
theorem dX4_pass_2 : decode cX4_pass 2 = .ok (.bipush 48, 2) := by decide +kernel
theorem dX4_pass_4 : decode cX4_pass 4 = .ok (.invokestatic 52, 3) := by decide +kernel
theorem dX4_pass_7 : decode cX4_pass 7 = .ok (.aload_n 0, 1) := by decide +kernel
theorem dX4_pass_8 : decode cX4_pass 8 = .ok (.getfield 29, 3) := by decide +kernel
theorem dX4_pass_11 : decode cX4_pass 11 = .ok (.aload_n 0, 1) := by decide +kernel
theorem dX4_pass_12 : decode cX4_pass 12 = .ok (.getfield 10, 3) := by decide +kernel
theorem dX4_pass_15 : decode cX4_pass 15 = .ok (.invokevirtual 65, 3) := by decide +kernel
theorem dX4_pass_18 : decode cX4_pass 18 = .ok (.aload_n 0, 1) := by decide +kernel
theorem dX4_pass_19 : decode cX4_pass 19 = .ok (.getfield 10, 3) := by decide +kernel
theorem dX4_pass_22 : decode cX4_pass 22 = .ok (.getfield 111, 3) := by decide +kernel
theorem dX4_pass_25 : decode cX4_pass 25 = .ok (.istore_n 2, 1) := by decide +kernel
theorem dX4_pass_26 : decode cX4_pass 26 = .ok (.aload_n 0, 1) := by decide +kernel
theorem dX4_pass_27 : decode cX4_pass 27 = .ok (.getfield 10, 3) := by decide +kernel
theorem dX4_pass_30 : decode cX4_pass 30 = .ok (.iload_n 1, 1) := by decide +kernel
theorem dX4_pass_31 : decode cX4_pass 31 = .ok (.invokevirtual 114, 3) := by decide +kernel
theorem dX4_pass_34 : decode cX4_pass 34 = .ok (.aload_n 0, 1) := by decide +kernel
theorem dX4_pass_35 : decode cX4_pass 35 = .ok (.getfield 10, 3) := by decide +kernel
theorem dX4_pass_38 : decode cX4_pass 38 = .ok (.getfield 111, 3) := by decide +kernel
theorem dX4_pass_41 : decode cX4_pass 41 = .ok (.iload_n 2, 1) := by decide +kernel
theorem dX4_pass_42 : decode cX4_pass 42 = .ok (.isub, 1) := by decide +kernel
theorem dX4_pass_43 : decode cX4_pass 43 = .ok (.ireturn, 1) := by decide +kernel
theorem dX4_sack_0 : decode cX4_sack 0 = .ok (.aload_n 0, 1) := by decide +kernel
theorem dX4_sack_1 : decode cX4_sack 1 = .ok (.iload_n 1, 1) := by decide +kernel
theorem dX4_sack_2 : decode cX4_sack 2 = .ok (.invokevirtual 48, 3) := by decide +kernel
theorem dX4_sack_5 : decode cX4_sack 5 = .ok (.astore 4, 2) := by decide +kernel
theorem dX4_sack_7 : decode cX4_sack 7 = .ok (.iload_n 2, 1) := by decide +kernel
theorem dX4_sack_8 : decode cX4_sack 8 = .ok (.iconst 1, 1) := by decide +kernel
theorem dX4_sack_9 : decode cX4_sack 9 = .ok (.sipush 999, 3) := by decide +kernel
theorem dX4_sack_12 : decode cX4_sack 12 = .ok (.invokestatic 52, 3) := by decide +kernel
theorem dX4_sack_15 : decode cX4_sack 15 = .ok (.iload_n 3, 1) := by decide +kernel
theorem dX4_sack_16 : decode cX4_sack 16 = .ok (.iconst 1, 1) := by decide +kernel
theorem dX4_sack_17 : decode cX4_sack 17 = .ok (.sipush 9999, 3) := by decide +kernel
theorem dX4_sack_20 : decode cX4_sack 20 = .ok (.invokestatic 52, 3) := by decide +kernel
theorem dX4_sack_23 : decode cX4_sack 23 = .ok (.aload_n 0, 1) := by decide +kernel
theorem dX4_sack_24 : decode cX4_sack 24 = .ok (.getfield 10, 3) := by decide +kernel
theorem dX4_sack_27 : decode cX4_sack 27 = .ok (.aload 4, 2) := by decide +kernel
theorem dX4_sack_29 : decode cX4_sack 29 = .ok (.invokevirtual 118, 3) := by decide +kernel
theorem dX4_sack_32 : decode cX4_sack 32 = .ok (.invokestatic 61, 3) := by decide +kernel
theorem dX4_sack_35 : decode cX4_sack 35 = .ok (.aload_n 0, 1) := by decide +kernel
theorem dX4_sack_36 : decode cX4_sack 36 = .ok (.getfield 29, 3) := by decide +kernel
theorem dX4_sack_39 : decode cX4_sack 39 = .ok (.aload_n 0, 1) := by decide +kernel
theorem dX4_sack_40 : decode cX4_sack 40 = .ok (.getfield 10, 3) := by decide +kernel
theorem dX4_sack_43 : decode cX4_sack 43 = .ok (.invokevirtual 65, 3) := by decide +kernel
theorem dX4_sack_46 : decode cX4_sack 46 = .ok (.aload_n 0, 1) := by decide +kernel
theorem dX4_sack_47 : decode cX4_sack 47 = .ok (.getfield 10, 3) := by decide +kernel
theorem dX4_sack_50 : decode cX4_sack 50 = .ok (.aload 4, 2) := by decide +kernel
theorem dX4_sack_52 : decode cX4_sack 52 = .ok (.iload_n 2, 1) := by decide +kernel
theorem dX4_sack_53 : decode cX4_sack 53 = .ok (.iload_n 3, 1) := by decide +kernel
theorem dX4_sack_54 : decode cX4_sack 54 = .ok (.invokevirtual 122, 3) := by decide +kernel
theorem dX4_sack_57 : decode cX4_sack 57 = .ok (.ireturn, 1) := by decide +kernel
theorem dX4_carry_0 : decode cX4_carry 0 = .ok (.aload_n 0, 1) := by decide +kernel
theorem dX4_carry_1 : decode cX4_carry 1 = .ok (.iload_n 2, 1) := by decide +kernel
theorem dX4_carry_2 : decode cX4_carry 2 = .ok (.invokevirtual 48, 3) := by decide +kernel
theorem dX4_carry_5 : decode cX4_carry 5 = .ok (.astore_n 3, 1) := by decide +kernel
theorem dX4_carry_6 : decode cX4_carry 6 = .ok (.aload_n 0, 1) := by decide +kernel
theorem dX4_carry_7 : decode cX4_carry 7 = .ok (.iload_n 1, 1) := by decide +kernel
theorem dX4_carry_8 : decode cX4_carry 8 = .ok (.invokevirtual 126, 3) := by decide +kernel
theorem dX4_carry_11 : decode cX4_carry 11 = .ok (.astore 4, 2) := by decide +kernel
theorem dX4_carry_13 : decode cX4_carry 13 = .ok (.aload 4, 2) := by decide +kernel
theorem dX4_carry_15 : decode cX4_carry 15 = .ok (.aload_n 3, 1) := by decide +kernel
theorem dX4_carry_16 : decode cX4_carry 16 = .ok (.if_acmp .eq 16, 3) := by decide +kernel
theorem dX4_carry_19 : decode cX4_carry 19 = .ok (.aload_n 3, 1) := by decide +kernel
theorem dX4_carry_20 : decode cX4_carry 20 = .ok (.getfield 129, 3) := by decide +kernel
theorem dX4_carry_23 : decode cX4_carry 23 = .ok (.bipush 6, 2) := by decide +kernel
theorem dX4_carry_25 : decode cX4_carry 25 = .ok (.if_icmp .ge 7, 3) := by decide +kernel
theorem dX4_carry_28 : decode cX4_carry 28 = .ok (.iconst 1, 1) := by decide +kernel
theorem dX4_carry_29 : decode cX4_carry 29 = .ok (.goto 4, 3) := by decide +kernel
theorem dX4_carry_32 : decode cX4_carry 32 = .ok (.iconst 0, 1) := by decide +kernel
theorem dX4_carry_33 : decode cX4_carry 33 = .ok (.invokestatic 61, 3) := by decide +kernel
theorem dX4_carry_36 : decode cX4_carry 36 = .ok (.aload_n 0, 1) := by decide +kernel
theorem dX4_carry_37 : decode cX4_carry 37 = .ok (.getfield 29, 3) := by decide +kernel
theorem dX4_carry_40 : decode cX4_carry 40 = .ok (.aload_n 0, 1) := by decide +kernel
theorem dX4_carry_41 : decode cX4_carry 41 = .ok (.getfield 10, 3) := by decide +kernel
theorem dX4_carry_44 : decode cX4_carry 44 = .ok (.invokevirtual 65, 3) := by decide +kernel
theorem dX4_carry_47 : decode cX4_carry 47 = .ok (.aload 4, 2) := by decide +kernel
theorem dX4_carry_49 : decode cX4_carry 49 = .ok (.iload_n 1, 1) := by decide +kernel
theorem dX4_carry_50 : decode cX4_carry 50 = .ok (.invokevirtual 132, 3) := by decide +kernel
theorem dX4_carry_53 : decode cX4_carry 53 = .ok (.istore 5, 2) := by decide +kernel
theorem dX4_carry_55 : decode cX4_carry 55 = .ok (.aload_n 3, 1) := by decide +kernel
theorem dX4_carry_56 : decode cX4_carry 56 = .ok (.iload_n 1, 1) := by decide +kernel
theorem dX4_carry_57 : decode cX4_carry 57 = .ok (.aload 4, 2) := by decide +kernel
theorem dX4_carry_59 : decode cX4_carry 59 = .ok (.iload 5, 2) := by decide +kernel
theorem dX4_carry_61 : decode cX4_carry 61 = .ok (.invokevirtual 135, 3) := by decide +kernel
theorem dX4_carry_64 : decode cX4_carry 64 = .ok (.aload 4, 2) := by decide +kernel
theorem dX4_carry_66 : decode cX4_carry 66 = .ok (.iload 5, 2) := by decide +kernel
theorem dX4_carry_68 : decode cX4_carry 68 = .ok (.invokevirtual 138, 3) := by decide +kernel
theorem dX4_carry_71 : decode cX4_carry 71 = .ok (.aload 4, 2) := by decide +kernel
theorem dX4_carry_73 : decode cX4_carry 73 = .ok (.iload 5, 2) := by decide +kernel
theorem dX4_carry_75 : decode cX4_carry 75 = .ok (.invokevirtual 141, 3) := by decide +kernel
theorem dX4_carry_78 : decode cX4_carry 78 = .ok (.invokevirtual 144, 3) := by decide +kernel
theorem dX4_carry_81 : decode cX4_carry 81 = .ok (.istore 6, 2) := by decide +kernel
theorem dX4_carry_83 : decode cX4_carry 83 = .ok (.aload 4, 2) := by decide +kernel
theorem dX4_carry_85 : decode cX4_carry 85 = .ok (.iload 5, 2) := by decide +kernel
theorem dX4_carry_87 : decode cX4_carry 87 = .ok (.invokevirtual 148, 3) := by decide +kernel
theorem dX4_carry_90 : decode cX4_carry 90 = .ok (.iload 6, 2) := by decide +kernel
theorem dX4_carry_92 : decode cX4_carry 92 = .ok (.ireturn, 1) := by decide +kernel
theorem dX4_back_0 : decode cX4_back 0 = .ok (.aload_n 0, 1) := by decide +kernel
theorem dX4_back_1 : decode cX4_back 1 = .ok (.iload_n 1, 1) := by decide +kernel
theorem dX4_back_2 : decode cX4_back 2 = .ok (.invokevirtual 126, 3) := by decide +kernel
theorem dX4_back_5 : decode cX4_back 5 = .ok (.astore_n 2, 1) := by decide +kernel
theorem dX4_back_6 : decode cX4_back 6 = .ok (.aload_n 0, 1) := by decide +kernel
theorem dX4_back_7 : decode cX4_back 7 = .ok (.getfield 29, 3) := by decide +kernel
theorem dX4_back_10 : decode cX4_back 10 = .ok (.aload_n 0, 1) := by decide +kernel
theorem dX4_back_11 : decode cX4_back 11 = .ok (.getfield 10, 3) := by decide +kernel
theorem dX4_back_14 : decode cX4_back 14 = .ok (.invokevirtual 65, 3) := by decide +kernel
theorem dX4_back_17 : decode cX4_back 17 = .ok (.aload_n 2, 1) := by decide +kernel
theorem dX4_back_18 : decode cX4_back 18 = .ok (.iload_n 1, 1) := by decide +kernel
theorem dX4_back_19 : decode cX4_back 19 = .ok (.invokevirtual 132, 3) := by decide +kernel
theorem dX4_back_22 : decode cX4_back 22 = .ok (.istore_n 3, 1) := by decide +kernel
theorem dX4_back_23 : decode cX4_back 23 = .ok (.aload_n 2, 1) := by decide +kernel
theorem dX4_back_24 : decode cX4_back 24 = .ok (.iload_n 3, 1) := by decide +kernel
theorem dX4_back_25 : decode cX4_back 25 = .ok (.invokevirtual 138, 3) := by decide +kernel
theorem dX4_back_28 : decode cX4_back 28 = .ok (.istore 4, 2) := by decide +kernel
theorem dX4_back_30 : decode cX4_back 30 = .ok (.aload_n 2, 1) := by decide +kernel
theorem dX4_back_31 : decode cX4_back 31 = .ok (.iload_n 3, 1) := by decide +kernel
theorem dX4_back_32 : decode cX4_back 32 = .ok (.invokevirtual 148, 3) := by decide +kernel
theorem dX4_back_35 : decode cX4_back 35 = .ok (.aload_n 0, 1) := by decide +kernel
theorem dX4_back_36 : decode cX4_back 36 = .ok (.getfield 10, 3) := by decide +kernel
theorem dX4_back_39 : decode cX4_back 39 = .ok (.dup, 1) := by decide +kernel
theorem dX4_back_40 : decode cX4_back 40 = .ok (.getfield 151, 3) := by decide +kernel
theorem dX4_back_43 : decode cX4_back 43 = .ok (.iconst 1, 1) := by decide +kernel
theorem dX4_back_44 : decode cX4_back 44 = .ok (.iadd, 1) := by decide +kernel
theorem dX4_back_45 : decode cX4_back 45 = .ok (.putfield 151, 3) := by decide +kernel
theorem dX4_back_48 : decode cX4_back 48 = .ok (.iload 4, 2) := by decide +kernel
theorem dX4_back_50 : decode cX4_back 50 = .ok (.ireturn, 1) := by decide +kernel
theorem dX4_append_0 : decode cX4_append 0 = .ok (.iload_n 1, 1) := by decide +kernel
theorem dX4_append_1 : decode cX4_append 1 = .ok (.bipush 33, 2) := by decide +kernel
theorem dX4_append_3 : decode cX4_append 3 = .ok (.bipush 126, 2) := by decide +kernel
theorem dX4_append_5 : decode cX4_append 5 = .ok (.invokestatic 52, 3) := by decide +kernel
theorem dX4_append_8 : decode cX4_append 8 = .ok (.aload_n 0, 1) := by decide +kernel
theorem dX4_append_9 : decode cX4_append 9 = .ok (.getfield 37, 3) := by decide +kernel
theorem dX4_append_12 : decode cX4_append 12 = .ok (.ifCond .lt 15, 3) := by decide +kernel
theorem dX4_append_15 : decode cX4_append 15 = .ok (.aload_n 0, 1) := by decide +kernel
theorem dX4_append_16 : decode cX4_append 16 = .ok (.getfield 37, 3) := by decide +kernel
theorem dX4_append_19 : decode cX4_append 19 = .ok (.aload_n 0, 1) := by decide +kernel
theorem dX4_append_20 : decode cX4_append 20 = .ok (.getfield 33, 3) := by decide +kernel
theorem dX4_append_23 : decode cX4_append 23 = .ok (.arraylength, 1) := by decide +kernel
theorem dX4_append_24 : decode cX4_append 24 = .ok (.if_icmp .lt 13, 3) := by decide +kernel
theorem dX4_append_27 : decode cX4_append 27 = .ok (.new 154, 3) := by decide +kernel
theorem dX4_append_30 : decode cX4_append 30 = .ok (.dup, 1) := by decide +kernel
theorem dX4_append_31 : decode cX4_append 31 = .ok (.ldc 156, 2) := by decide +kernel
theorem dX4_append_33 : decode cX4_append 33 = .ok (.invokespecial 158, 3) := by decide +kernel
theorem dX4_append_36 : decode cX4_append 36 = .ok (.athrow, 1) := by decide +kernel
theorem dX4_append_37 : decode cX4_append 37 = .ok (.aload_n 0, 1) := by decide +kernel
theorem dX4_append_38 : decode cX4_append 38 = .ok (.getfield 33, 3) := by decide +kernel
theorem dX4_append_41 : decode cX4_append 41 = .ok (.aload_n 0, 1) := by decide +kernel
theorem dX4_append_42 : decode cX4_append 42 = .ok (.getfield 37, 3) := by decide +kernel
theorem dX4_append_45 : decode cX4_append 45 = .ok (.iload_n 1, 1) := by decide +kernel
theorem dX4_append_46 : decode cX4_append 46 = .ok (.iastore, 1) := by decide +kernel
theorem dX4_append_47 : decode cX4_append 47 = .ok (.aload_n 0, 1) := by decide +kernel
theorem dX4_append_48 : decode cX4_append 48 = .ok (.dup, 1) := by decide +kernel
theorem dX4_append_49 : decode cX4_append 49 = .ok (.getfield 37, 3) := by decide +kernel
theorem dX4_append_52 : decode cX4_append 52 = .ok (.iconst 1, 1) := by decide +kernel
theorem dX4_append_53 : decode cX4_append 53 = .ok (.iadd, 1) := by decide +kernel
theorem dX4_append_54 : decode cX4_append 54 = .ok (.putfield 37, 3) := by decide +kernel
theorem dX4_append_57 : decode cX4_append 57 = .ok (.aload_n 0, 1) := by decide +kernel
theorem dX4_append_58 : decode cX4_append 58 = .ok (.getfield 37, 3) := by decide +kernel
theorem dX4_append_61 : decode cX4_append 61 = .ok (.ireturn, 1) := by decide +kernel
theorem dX4_clearBuffer_0 : decode cX4_clearBuffer 0 = .ok (.aload_n 0, 1) := by decide +kernel
theorem dX4_clearBuffer_1 : decode cX4_clearBuffer 1 = .ok (.getfield 37, 3) := by decide +kernel
theorem dX4_clearBuffer_4 : decode cX4_clearBuffer 4 = .ok (.istore_n 1, 1) := by decide +kernel
theorem dX4_clearBuffer_5 : decode cX4_clearBuffer 5 = .ok (.aload_n 0, 1) := by decide +kernel
theorem dX4_clearBuffer_6 : decode cX4_clearBuffer 6 = .ok (.iconst 0, 1) := by decide +kernel
theorem dX4_clearBuffer_7 : decode cX4_clearBuffer 7 = .ok (.putfield 37, 3) := by decide +kernel
theorem dX4_clearBuffer_10 : decode cX4_clearBuffer 10 = .ok (.iload_n 1, 1) := by decide +kernel
theorem dX4_clearBuffer_11 : decode cX4_clearBuffer 11 = .ok (.ireturn, 1) := by decide +kernel
theorem dX4_firstError_0 : decode cX4_firstError 0 = .ok (.aload_n 0, 1) := by decide +kernel
theorem dX4_firstError_1 : decode cX4_firstError 1 = .ok (.invokevirtual 159, 3) := by decide +kernel
theorem dX4_firstError_4 : decode cX4_firstError 4 = .ok (.ireturn, 1) := by decide +kernel
theorem dX4_play_0 : decode cX4_play 0 = .ok (.aload_n 0, 1) := by decide +kernel
theorem dX4_play_1 : decode cX4_play 1 = .ok (.invokevirtual 159, 3) := by decide +kernel
theorem dX4_play_4 : decode cX4_play 4 = .ok (.aload_n 0, 1) := by decide +kernel
theorem dX4_play_5 : decode cX4_play 5 = .ok (.getfield 37, 3) := by decide +kernel
theorem dX4_play_8 : decode cX4_play 8 = .ok (.if_icmp .lt 13, 3) := by decide +kernel
theorem dX4_play_11 : decode cX4_play 11 = .ok (.aload_n 0, 1) := by decide +kernel
theorem dX4_play_12 : decode cX4_play 12 = .ok (.getfield 44, 3) := by decide +kernel
theorem dX4_play_15 : decode cX4_play 15 = .ok (.invokevirtual 163, 3) := by decide +kernel
theorem dX4_play_18 : decode cX4_play 18 = .ok (.ifCond .ne 13, 3) := by decide +kernel
theorem dX4_play_21 : decode cX4_play 21 = .ok (.new 167, 3) := by decide +kernel
theorem dX4_play_24 : decode cX4_play 24 = .ok (.dup, 1) := by decide +kernel
theorem dX4_play_25 : decode cX4_play 25 = .ok (.ldc 169, 2) := by decide +kernel
theorem dX4_play_27 : decode cX4_play 27 = .ok (.invokespecial 171, 3) := by decide +kernel
theorem dX4_play_30 : decode cX4_play 30 = .ok (.athrow, 1) := by decide +kernel
theorem dX4_play_31 : decode cX4_play 31 = .ok (.aload_n 0, 1) := by decide +kernel
theorem dX4_play_32 : decode cX4_play 32 = .ok (.getfield 29, 3) := by decide +kernel
theorem dX4_play_35 : decode cX4_play 35 = .ok (.aload_n 0, 1) := by decide +kernel
theorem dX4_play_36 : decode cX4_play 36 = .ok (.getfield 10, 3) := by decide +kernel
theorem dX4_play_39 : decode cX4_play 39 = .ok (.invokevirtual 65, 3) := by decide +kernel
theorem dX4_play_42 : decode cX4_play 42 = .ok (.aload_n 0, 1) := by decide +kernel
theorem dX4_play_43 : decode cX4_play 43 = .ok (.invokevirtual 172, 3) := by decide +kernel
theorem dX4_play_46 : decode cX4_play 46 = .ok (.istore_n 1, 1) := by decide +kernel
theorem dX4_play_47 : decode cX4_play 47 = .ok (.aload_n 0, 1) := by decide +kernel
theorem dX4_play_48 : decode cX4_play 48 = .ok (.iconst 0, 1) := by decide +kernel
theorem dX4_play_49 : decode cX4_play 49 = .ok (.putfield 37, 3) := by decide +kernel
theorem dX4_play_52 : decode cX4_play 52 = .ok (.iload_n 1, 1) := by decide +kernel
theorem dX4_play_53 : decode cX4_play 53 = .ok (.ireturn, 1) := by decide +kernel
theorem dX4_undo_0 : decode cX4_undo 0 = .ok (.aload_n 0, 1) := by decide +kernel
theorem dX4_undo_1 : decode cX4_undo 1 = .ok (.getfield 29, 3) := by decide +kernel
theorem dX4_undo_4 : decode cX4_undo 4 = .ok (.getfield 175, 3) := by decide +kernel
theorem dX4_undo_7 : decode cX4_undo 7 = .ok (.ifCond .le 7, 3) := by decide +kernel
theorem dX4_undo_10 : decode cX4_undo 10 = .ok (.iconst 1, 1) := by decide +kernel
theorem dX4_undo_11 : decode cX4_undo 11 = .ok (.goto 4, 3) := by decide +kernel
theorem dX4_undo_14 : decode cX4_undo 14 = .ok (.iconst 0, 1) := by decide +kernel
theorem dX4_undo_15 : decode cX4_undo 15 = .ok (.invokestatic 61, 3) := by decide +kernel
theorem dX4_undo_18 : decode cX4_undo 18 = .ok (.aload_n 0, 1) := by decide +kernel
theorem dX4_undo_19 : decode cX4_undo 19 = .ok (.getfield 29, 3) := by decide +kernel
theorem dX4_undo_22 : decode cX4_undo 22 = .ok (.aload_n 0, 1) := by decide +kernel
theorem dX4_undo_23 : decode cX4_undo 23 = .ok (.getfield 10, 3) := by decide +kernel
theorem dX4_undo_26 : decode cX4_undo 26 = .ok (.invokevirtual 178, 3) := by decide +kernel
theorem dX4_undo_29 : decode cX4_undo 29 = .ok (.aload_n 0, 1) := by decide +kernel
theorem dX4_undo_30 : decode cX4_undo 30 = .ok (.getfield 29, 3) := by decide +kernel
theorem dX4_undo_33 : decode cX4_undo 33 = .ok (.getfield 175, 3) := by decide +kernel
theorem dX4_undo_36 : decode cX4_undo 36 = .ok (.ireturn, 1) := by decide +kernel
theorem dX4_keep_0 : decode cX4_keep 0 = .ok (.aload_n 0, 1) := by decide +kernel
theorem dX4_keep_1 : decode cX4_keep 1 = .ok (.getfield 19, 3) := by decide +kernel
theorem dX4_keep_4 : decode cX4_keep 4 = .ok (.aload_n 0, 1) := by decide +kernel
theorem dX4_keep_5 : decode cX4_keep 5 = .ok (.getfield 10, 3) := by decide +kernel
theorem dX4_keep_8 : decode cX4_keep 8 = .ok (.invokevirtual 181, 3) := by decide +kernel
theorem dX4_keep_11 : decode cX4_keep 11 = .ok (.aload_n 0, 1) := by decide +kernel
theorem dX4_keep_12 : decode cX4_keep 12 = .ok (.iconst 1, 1) := by decide +kernel
theorem dX4_keep_13 : decode cX4_keep 13 = .ok (.putfield 22, 3) := by decide +kernel
theorem dX4_keep_16 : decode cX4_keep 16 = .ok (.aload_n 0, 1) := by decide +kernel
theorem dX4_keep_17 : decode cX4_keep 17 = .ok (.getfield 10, 3) := by decide +kernel
theorem dX4_keep_20 : decode cX4_keep 20 = .ok (.getfield 184, 3) := by decide +kernel
theorem dX4_keep_23 : decode cX4_keep 23 = .ok (.ireturn, 1) := by decide +kernel
theorem dX4_restore_0 : decode cX4_restore 0 = .ok (.aload_n 0, 1) := by decide +kernel
theorem dX4_restore_1 : decode cX4_restore 1 = .ok (.getfield 22, 3) := by decide +kernel
theorem dX4_restore_4 : decode cX4_restore 4 = .ok (.invokestatic 61, 3) := by decide +kernel
theorem dX4_restore_7 : decode cX4_restore 7 = .ok (.aload_n 0, 1) := by decide +kernel
theorem dX4_restore_8 : decode cX4_restore 8 = .ok (.getfield 29, 3) := by decide +kernel
theorem dX4_restore_11 : decode cX4_restore 11 = .ok (.aload_n 0, 1) := by decide +kernel
theorem dX4_restore_12 : decode cX4_restore 12 = .ok (.getfield 10, 3) := by decide +kernel
theorem dX4_restore_15 : decode cX4_restore 15 = .ok (.invokevirtual 65, 3) := by decide +kernel
theorem dX4_restore_18 : decode cX4_restore 18 = .ok (.aload_n 0, 1) := by decide +kernel
theorem dX4_restore_19 : decode cX4_restore 19 = .ok (.getfield 10, 3) := by decide +kernel
theorem dX4_restore_22 : decode cX4_restore 22 = .ok (.aload_n 0, 1) := by decide +kernel
theorem dX4_restore_23 : decode cX4_restore 23 = .ok (.getfield 19, 3) := by decide +kernel
theorem dX4_restore_26 : decode cX4_restore 26 = .ok (.invokevirtual 181, 3) := by decide +kernel
theorem dX4_restore_29 : decode cX4_restore 29 = .ok (.aload_n 0, 1) := by decide +kernel
theorem dX4_restore_30 : decode cX4_restore 30 = .ok (.getfield 10, 3) := by decide +kernel
theorem dX4_restore_33 : decode cX4_restore 33 = .ok (.getfield 184, 3) := by decide +kernel
theorem dX4_restore_36 : decode cX4_restore 36 = .ok (.ireturn, 1) := by decide +kernel
theorem dX4_mill_0 : decode cX4_mill 0 = .ok (.aload_n 0, 1) := by decide +kernel
theorem dX4_mill_1 : decode cX4_mill 1 = .ok (.iload_n 1, 1) := by decide +kernel
theorem dX4_mill_2 : decode cX4_mill 2 = .ok (.invokevirtual 48, 3) := by decide +kernel
theorem dX4_mill_5 : decode cX4_mill 5 = .ok (.astore_n 3, 1) := by decide +kernel
theorem dX4_mill_6 : decode cX4_mill 6 = .ok (.iload_n 2, 1) := by decide +kernel
theorem dX4_mill_7 : decode cX4_mill 7 = .ok (.iconst 0, 1) := by decide +kernel
theorem dX4_mill_8 : decode cX4_mill 8 = .ok (.bipush 10, 2) := by decide +kernel
theorem dX4_mill_10 : decode cX4_mill 10 = .ok (.invokestatic 52, 3) := by decide +kernel
theorem dX4_mill_13 : decode cX4_mill 13 = .ok (.aload_n 0, 1) := by decide +kernel
theorem dX4_mill_14 : decode cX4_mill 14 = .ok (.aload_n 3, 1) := by decide +kernel
theorem dX4_mill_15 : decode cX4_mill 15 = .ok (.iload_n 2, 1) := by decide +kernel
theorem dX4_mill_16 : decode cX4_mill 16 = .ok (.invokevirtual 187, 3) := by decide +kernel
theorem dX4_mill_19 : decode cX4_mill 19 = .ok (.ireturn, 1) := by decide +kernel
theorem dX4_sackAt_0 : decode cX4_sackAt 0 = .ok (.aload_n 0, 1) := by decide +kernel
theorem dX4_sackAt_1 : decode cX4_sackAt 1 = .ok (.iload_n 1, 1) := by decide +kernel
theorem dX4_sackAt_2 : decode cX4_sackAt 2 = .ok (.invokevirtual 48, 3) := by decide +kernel
theorem dX4_sackAt_5 : decode cX4_sackAt 5 = .ok (.astore_n 3, 1) := by decide +kernel
theorem dX4_sackAt_6 : decode cX4_sackAt 6 = .ok (.iload_n 2, 1) := by decide +kernel
theorem dX4_sackAt_7 : decode cX4_sackAt 7 = .ok (.invokestatic 191, 3) := by decide +kernel
theorem dX4_sackAt_10 : decode cX4_sackAt 10 = .ok (.aload_n 3, 1) := by decide +kernel
theorem dX4_sackAt_11 : decode cX4_sackAt 11 = .ok (.iload_n 2, 1) := by decide +kernel
theorem dX4_sackAt_12 : decode cX4_sackAt 12 = .ok (.invokevirtual 194, 3) := by decide +kernel
theorem dX4_sackAt_15 : decode cX4_sackAt 15 = .ok (.ireturn, 1) := by decide +kernel
theorem dX4_sackOf_0 : decode cX4_sackOf 0 = .ok (.iload_n 2, 1) := by decide +kernel
theorem dX4_sackOf_1 : decode cX4_sackOf 1 = .ok (.iconst 0, 1) := by decide +kernel
theorem dX4_sackOf_2 : decode cX4_sackOf 2 = .ok (.iconst 4, 1) := by decide +kernel
theorem dX4_sackOf_3 : decode cX4_sackOf 3 = .ok (.invokestatic 52, 3) := by decide +kernel
theorem dX4_sackOf_6 : decode cX4_sackOf 6 = .ok (.aload_n 0, 1) := by decide +kernel
theorem dX4_sackOf_7 : decode cX4_sackOf 7 = .ok (.getfield 10, 3) := by decide +kernel
theorem dX4_sackOf_10 : decode cX4_sackOf 10 = .ok (.iload_n 1, 1) := by decide +kernel
theorem dX4_sackOf_11 : decode cX4_sackOf 11 = .ok (.invokevirtual 197, 3) := by decide +kernel
theorem dX4_sackOf_14 : decode cX4_sackOf 14 = .ok (.astore_n 3, 1) := by decide +kernel
theorem dX4_sackOf_15 : decode cX4_sackOf 15 = .ok (.aload_n 3, 1) := by decide +kernel
theorem dX4_sackOf_16 : decode cX4_sackOf 16 = .ok (.ifnonnull 7, 3) := by decide +kernel
theorem dX4_sackOf_19 : decode cX4_sackOf 19 = .ok (.iconst (-1), 1) := by decide +kernel
theorem dX4_sackOf_20 : decode cX4_sackOf 20 = .ok (.goto 13, 3) := by decide +kernel
theorem dX4_sackOf_23 : decode cX4_sackOf 23 = .ok (.aload_n 3, 1) := by decide +kernel
theorem dX4_sackOf_24 : decode cX4_sackOf 24 = .ok (.aload_n 3, 1) := by decide +kernel
theorem dX4_sackOf_25 : decode cX4_sackOf 25 = .ok (.iload_n 1, 1) := by decide +kernel
theorem dX4_sackOf_26 : decode cX4_sackOf 26 = .ok (.invokevirtual 132, 3) := by decide +kernel
theorem dX4_sackOf_29 : decode cX4_sackOf 29 = .ok (.iload_n 2, 1) := by decide +kernel
theorem dX4_sackOf_30 : decode cX4_sackOf 30 = .ok (.invokestatic 200, 3) := by decide +kernel
theorem dX4_sackOf_33 : decode cX4_sackOf 33 = .ok (.ireturn, 1) := by decide +kernel
theorem dX4_whyNot_0 : decode cX4_whyNot 0 = .ok (.aload_n 0, 1) := by decide +kernel
theorem dX4_whyNot_1 : decode cX4_whyNot 1 = .ok (.getfield 10, 3) := by decide +kernel
theorem dX4_whyNot_4 : decode cX4_whyNot 4 = .ok (.aload_n 0, 1) := by decide +kernel
theorem dX4_whyNot_5 : decode cX4_whyNot 5 = .ok (.iload_n 1, 1) := by decide +kernel
theorem dX4_whyNot_6 : decode cX4_whyNot 6 = .ok (.invokevirtual 48, 3) := by decide +kernel
theorem dX4_whyNot_9 : decode cX4_whyNot 9 = .ok (.invokevirtual 203, 3) := by decide +kernel
theorem dX4_whyNot_12 : decode cX4_whyNot 12 = .ok (.ireturn, 1) := by decide +kernel
theorem dX4_tide_0 : decode cX4_tide 0 = .ok (.iload_n 1, 1) := by decide +kernel
theorem dX4_tide_1 : decode cX4_tide 1 = .ok (.invokestatic 191, 3) := by decide +kernel
theorem dX4_tide_4 : decode cX4_tide 4 = .ok (.aload_n 0, 1) := by decide +kernel
theorem dX4_tide_5 : decode cX4_tide 5 = .ok (.getfield 10, 3) := by decide +kernel
theorem dX4_tide_8 : decode cX4_tide 8 = .ok (.iload_n 1, 1) := by decide +kernel
theorem dX4_tide_9 : decode cX4_tide 9 = .ok (.invokevirtual 207, 3) := by decide +kernel
theorem dX4_tide_12 : decode cX4_tide 12 = .ok (.ireturn, 1) := by decide +kernel
theorem dX4_count_0 : decode cX4_count 0 = .ok (.iload_n 1, 1) := by decide +kernel
theorem dX4_count_1 : decode cX4_count 1 = .ok (.iconst 0, 1) := by decide +kernel
theorem dX4_count_2 : decode cX4_count 2 = .ok (.bipush 14, 2) := by decide +kernel
theorem dX4_count_4 : decode cX4_count 4 = .ok (.invokestatic 52, 3) := by decide +kernel
theorem dX4_count_7 : decode cX4_count 7 = .ok (.aload_n 0, 1) := by decide +kernel
theorem dX4_count_8 : decode cX4_count 8 = .ok (.iload_n 1, 1) := by decide +kernel
theorem dX4_count_9 : decode cX4_count 9 = .ok (.invokevirtual 210, 3) := by decide +kernel
theorem dX4_count_12 : decode cX4_count 12 = .ok (.ireturn, 1) := by decide +kernel
theorem dX4_next_0 : decode cX4_next 0 = .ok (.iload_n 1, 1) := by decide +kernel
theorem dX4_next_1 : decode cX4_next 1 = .ok (.invokestatic 191, 3) := by decide +kernel
theorem dX4_next_4 : decode cX4_next 4 = .ok (.aload_n 0, 1) := by decide +kernel
theorem dX4_next_5 : decode cX4_next 5 = .ok (.iload_n 1, 1) := by decide +kernel
theorem dX4_next_6 : decode cX4_next 6 = .ok (.invokevirtual 213, 3) := by decide +kernel
theorem dX4_next_9 : decode cX4_next 9 = .ok (.ireturn, 1) := by decide +kernel
theorem dX4_chosen_0 : decode cX4_chosen 0 = .ok (.aload_n 0, 1) := by decide +kernel
theorem dX4_chosen_1 : decode cX4_chosen 1 = .ok (.getfield 10, 3) := by decide +kernel
theorem dX4_chosen_4 : decode cX4_chosen 4 = .ok (.invokevirtual 216, 3) := by decide +kernel
theorem dX4_chosen_7 : decode cX4_chosen 7 = .ok (.invokestatic 220, 3) := by decide +kernel
theorem dX4_chosen_10 : decode cX4_chosen 10 = .ok (.ireturn, 1) := by decide +kernel
theorem dX4_ifPassed_0 : decode cX4_ifPassed 0 = .ok (.iload_n 1, 1) := by decide +kernel
theorem dX4_ifPassed_1 : decode cX4_ifPassed 1 = .ok (.iconst 1, 1) := by decide +kernel
theorem dX4_ifPassed_2 : decode cX4_ifPassed 2 = .ok (.bipush 48, 2) := by decide +kernel
theorem dX4_ifPassed_4 : decode cX4_ifPassed 4 = .ok (.invokestatic 52, 3) := by decide +kernel
theorem dX4_ifPassed_7 : decode cX4_ifPassed 7 = .ok (.iload_n 2, 1) := by decide +kernel
theorem dX4_ifPassed_8 : decode cX4_ifPassed 8 = .ok (.iconst 0, 1) := by decide +kernel
theorem dX4_ifPassed_9 : decode cX4_ifPassed 9 = .ok (.iconst 3, 1) := by decide +kernel
theorem dX4_ifPassed_10 : decode cX4_ifPassed 10 = .ok (.invokestatic 52, 3) := by decide +kernel
theorem dX4_ifPassed_13 : decode cX4_ifPassed 13 = .ok (.aload_n 0, 1) := by decide +kernel
theorem dX4_ifPassed_14 : decode cX4_ifPassed 14 = .ok (.iload_n 1, 1) := by decide +kernel
theorem dX4_ifPassed_15 : decode cX4_ifPassed 15 = .ok (.iload_n 2, 1) := by decide +kernel
theorem dX4_ifPassed_16 : decode cX4_ifPassed 16 = .ok (.invokevirtual 223, 3) := by decide +kernel
theorem dX4_ifPassed_19 : decode cX4_ifPassed 19 = .ok (.ireturn, 1) := by decide +kernel
theorem dX4_groundIn_0 : decode cX4_groundIn 0 = .ok (.aload_n 0, 1) := by decide +kernel
theorem dX4_groundIn_1 : decode cX4_groundIn 1 = .ok (.iload_n 1, 1) := by decide +kernel
theorem dX4_groundIn_2 : decode cX4_groundIn 2 = .ok (.invokevirtual 227, 3) := by decide +kernel
theorem dX4_groundIn_5 : decode cX4_groundIn 5 = .ok (.ireturn, 1) := by decide +kernel
theorem dX4_bestStone_0 : decode cX4_bestStone 0 = .ok (.aload_n 0, 1) := by decide +kernel
theorem dX4_bestStone_1 : decode cX4_bestStone 1 = .ok (.aload_n 0, 1) := by decide +kernel
theorem dX4_bestStone_2 : decode cX4_bestStone 2 = .ok (.iload_n 1, 1) := by decide +kernel
theorem dX4_bestStone_3 : decode cX4_bestStone 3 = .ok (.invokevirtual 48, 3) := by decide +kernel
theorem dX4_bestStone_6 : decode cX4_bestStone 6 = .ok (.invokevirtual 230, 3) := by decide +kernel
theorem dX4_bestStone_9 : decode cX4_bestStone 9 = .ok (.ireturn, 1) := by decide +kernel
theorem dX4_inTime_0 : decode cX4_inTime 0 = .ok (.aload_n 0, 1) := by decide +kernel
theorem dX4_inTime_1 : decode cX4_inTime 1 = .ok (.invokevirtual 233, 3) := by decide +kernel
theorem dX4_inTime_4 : decode cX4_inTime 4 = .ok (.dreturn, 1) := by decide +kernel
theorem dX4_digest_0 : decode cX4_digest 0 = .ok (.ldc2_w 237, 3) := by decide +kernel
theorem dX4_digest_3 : decode cX4_digest 3 = .ok (.lstore_n 1, 1) := by decide +kernel
theorem dX4_digest_4 : decode cX4_digest 4 = .ok (.iconst 0, 1) := by decide +kernel
theorem dX4_digest_5 : decode cX4_digest 5 = .ok (.istore_n 3, 1) := by decide +kernel
theorem dX4_digest_6 : decode cX4_digest 6 = .ok (.iload_n 3, 1) := by decide +kernel
theorem dX4_digest_7 : decode cX4_digest 7 = .ok (.bipush 14, 2) := by decide +kernel
theorem dX4_digest_9 : decode cX4_digest 9 = .ok (.if_icmp .gt 22, 3) := by decide +kernel
theorem dX4_digest_12 : decode cX4_digest 12 = .ok (.ldc2_w 239, 3) := by decide +kernel
theorem dX4_digest_15 : decode cX4_digest 15 = .ok (.lload_n 1, 1) := by decide +kernel
theorem dX4_digest_16 : decode cX4_digest 16 = .ok (.lmul, 1) := by decide +kernel
theorem dX4_digest_17 : decode cX4_digest 17 = .ok (.aload_n 0, 1) := by decide +kernel
theorem dX4_digest_18 : decode cX4_digest 18 = .ok (.iload_n 3, 1) := by decide +kernel
theorem dX4_digest_19 : decode cX4_digest 19 = .ok (.invokevirtual 210, 3) := by decide +kernel
theorem dX4_digest_22 : decode cX4_digest 22 = .ok (.i2l, 1) := by decide +kernel
theorem dX4_digest_23 : decode cX4_digest 23 = .ok (.ladd, 1) := by decide +kernel
theorem dX4_digest_24 : decode cX4_digest 24 = .ok (.lstore_n 1, 1) := by decide +kernel
theorem dX4_digest_25 : decode cX4_digest 25 = .ok (.iinc 3 1, 3) := by decide +kernel
theorem dX4_digest_28 : decode cX4_digest 28 = .ok (.goto (-22), 3) := by decide +kernel
theorem dX4_digest_31 : decode cX4_digest 31 = .ok (.aload_n 0, 1) := by decide +kernel
theorem dX4_digest_32 : decode cX4_digest 32 = .ok (.getfield 10, 3) := by decide +kernel
theorem dX4_digest_35 : decode cX4_digest 35 = .ok (.getfield 241, 3) := by decide +kernel
theorem dX4_digest_38 : decode cX4_digest 38 = .ok (.astore_n 3, 1) := by decide +kernel
theorem dX4_digest_39 : decode cX4_digest 39 = .ok (.aload_n 3, 1) := by decide +kernel
theorem dX4_digest_40 : decode cX4_digest 40 = .ok (.ifnull 18, 3) := by decide +kernel
theorem dX4_digest_43 : decode cX4_digest 43 = .ok (.aload_n 0, 1) := by decide +kernel
theorem dX4_digest_44 : decode cX4_digest 44 = .ok (.lload_n 1, 1) := by decide +kernel
theorem dX4_digest_45 : decode cX4_digest 45 = .ok (.aload_n 3, 1) := by decide +kernel
theorem dX4_digest_46 : decode cX4_digest 46 = .ok (.invokevirtual 245, 3) := by decide +kernel
theorem dX4_digest_49 : decode cX4_digest 49 = .ok (.lstore_n 1, 1) := by decide +kernel
theorem dX4_digest_50 : decode cX4_digest 50 = .ok (.aload_n 3, 1) := by decide +kernel
theorem dX4_digest_51 : decode cX4_digest 51 = .ok (.getfield 249, 3) := by decide +kernel
theorem dX4_digest_54 : decode cX4_digest 54 = .ok (.astore_n 3, 1) := by decide +kernel
theorem dX4_digest_55 : decode cX4_digest 55 = .ok (.goto (-16), 3) := by decide +kernel
theorem dX4_digest_58 : decode cX4_digest 58 = .ok (.iconst 0, 1) := by decide +kernel
theorem dX4_digest_59 : decode cX4_digest 59 = .ok (.istore_n 3, 1) := by decide +kernel
theorem dX4_digest_60 : decode cX4_digest 60 = .ok (.iload_n 3, 1) := by decide +kernel
theorem dX4_digest_61 : decode cX4_digest 61 = .ok (.bipush 12, 2) := by decide +kernel
theorem dX4_digest_63 : decode cX4_digest 63 = .ok (.if_icmp .ge 25, 3) := by decide +kernel
theorem dX4_digest_66 : decode cX4_digest 66 = .ok (.ldc2_w 239, 3) := by decide +kernel
theorem dX4_digest_69 : decode cX4_digest 69 = .ok (.lload_n 1, 1) := by decide +kernel
theorem dX4_digest_70 : decode cX4_digest 70 = .ok (.lmul, 1) := by decide +kernel
theorem dX4_digest_71 : decode cX4_digest 71 = .ok (.aload_n 0, 1) := by decide +kernel
theorem dX4_digest_72 : decode cX4_digest 72 = .ok (.getfield 10, 3) := by decide +kernel
theorem dX4_digest_75 : decode cX4_digest 75 = .ok (.iload_n 3, 1) := by decide +kernel
theorem dX4_digest_76 : decode cX4_digest 76 = .ok (.invokevirtual 207, 3) := by decide +kernel
theorem dX4_digest_79 : decode cX4_digest 79 = .ok (.i2l, 1) := by decide +kernel
theorem dX4_digest_80 : decode cX4_digest 80 = .ok (.ladd, 1) := by decide +kernel
theorem dX4_digest_81 : decode cX4_digest 81 = .ok (.lstore_n 1, 1) := by decide +kernel
theorem dX4_digest_82 : decode cX4_digest 82 = .ok (.iinc 3 1, 3) := by decide +kernel
theorem dX4_digest_85 : decode cX4_digest 85 = .ok (.goto (-25), 3) := by decide +kernel
theorem dX4_digest_88 : decode cX4_digest 88 = .ok (.iconst 0, 1) := by decide +kernel
theorem dX4_digest_89 : decode cX4_digest 89 = .ok (.istore_n 3, 1) := by decide +kernel
theorem dX4_digest_90 : decode cX4_digest 90 = .ok (.iload_n 3, 1) := by decide +kernel
theorem dX4_digest_91 : decode cX4_digest 91 = .ok (.iconst 5, 1) := by decide +kernel
theorem dX4_digest_92 : decode cX4_digest 92 = .ok (.if_icmp .ge 22, 3) := by decide +kernel
theorem dX4_digest_95 : decode cX4_digest 95 = .ok (.ldc2_w 239, 3) := by decide +kernel
theorem dX4_digest_98 : decode cX4_digest 98 = .ok (.lload_n 1, 1) := by decide +kernel
theorem dX4_digest_99 : decode cX4_digest 99 = .ok (.lmul, 1) := by decide +kernel
theorem dX4_digest_100 : decode cX4_digest 100 = .ok (.aload_n 0, 1) := by decide +kernel
theorem dX4_digest_101 : decode cX4_digest 101 = .ok (.iload_n 3, 1) := by decide +kernel
theorem dX4_digest_102 : decode cX4_digest 102 = .ok (.invokevirtual 213, 3) := by decide +kernel
theorem dX4_digest_105 : decode cX4_digest 105 = .ok (.i2l, 1) := by decide +kernel
theorem dX4_digest_106 : decode cX4_digest 106 = .ok (.ladd, 1) := by decide +kernel
theorem dX4_digest_107 : decode cX4_digest 107 = .ok (.lstore_n 1, 1) := by decide +kernel
theorem dX4_digest_108 : decode cX4_digest 108 = .ok (.iinc 3 1, 3) := by decide +kernel
theorem dX4_digest_111 : decode cX4_digest 111 = .ok (.goto (-21), 3) := by decide +kernel
theorem dX4_digest_114 : decode cX4_digest 114 = .ok (.ldc2_w 239, 3) := by decide +kernel
theorem dX4_digest_117 : decode cX4_digest 117 = .ok (.lload_n 1, 1) := by decide +kernel
theorem dX4_digest_118 : decode cX4_digest 118 = .ok (.lmul, 1) := by decide +kernel
theorem dX4_digest_119 : decode cX4_digest 119 = .ok (.aload_n 0, 1) := by decide +kernel
theorem dX4_digest_120 : decode cX4_digest 120 = .ok (.getfield 10, 3) := by decide +kernel
theorem dX4_digest_123 : decode cX4_digest 123 = .ok (.invokevirtual 216, 3) := by decide +kernel
theorem dX4_digest_126 : decode cX4_digest 126 = .ok (.invokestatic 220, 3) := by decide +kernel
theorem dX4_digest_129 : decode cX4_digest 129 = .ok (.i2l, 1) := by decide +kernel
theorem dX4_digest_130 : decode cX4_digest 130 = .ok (.ladd, 1) := by decide +kernel
theorem dX4_digest_131 : decode cX4_digest 131 = .ok (.lstore_n 1, 1) := by decide +kernel
theorem dX4_digest_132 : decode cX4_digest 132 = .ok (.iconst 0, 1) := by decide +kernel
theorem dX4_digest_133 : decode cX4_digest 133 = .ok (.istore_n 3, 1) := by decide +kernel
theorem dX4_digest_134 : decode cX4_digest 134 = .ok (.iload_n 3, 1) := by decide +kernel
theorem dX4_digest_135 : decode cX4_digest 135 = .ok (.iconst 3, 1) := by decide +kernel
theorem dX4_digest_136 : decode cX4_digest 136 = .ok (.if_icmp .gt 24, 3) := by decide +kernel
theorem dX4_digest_139 : decode cX4_digest 139 = .ok (.ldc2_w 239, 3) := by decide +kernel
theorem dX4_digest_142 : decode cX4_digest 142 = .ok (.lload_n 1, 1) := by decide +kernel
theorem dX4_digest_143 : decode cX4_digest 143 = .ok (.lmul, 1) := by decide +kernel
theorem dX4_digest_144 : decode cX4_digest 144 = .ok (.aload_n 0, 1) := by decide +kernel
theorem dX4_digest_145 : decode cX4_digest 145 = .ok (.bipush 12, 2) := by decide +kernel
theorem dX4_digest_147 : decode cX4_digest 147 = .ok (.iload_n 3, 1) := by decide +kernel
theorem dX4_digest_148 : decode cX4_digest 148 = .ok (.invokevirtual 223, 3) := by decide +kernel
theorem dX4_digest_151 : decode cX4_digest 151 = .ok (.i2l, 1) := by decide +kernel
theorem dX4_digest_152 : decode cX4_digest 152 = .ok (.ladd, 1) := by decide +kernel
theorem dX4_digest_153 : decode cX4_digest 153 = .ok (.lstore_n 1, 1) := by decide +kernel
theorem dX4_digest_154 : decode cX4_digest 154 = .ok (.iinc 3 1, 3) := by decide +kernel
theorem dX4_digest_157 : decode cX4_digest 157 = .ok (.goto (-23), 3) := by decide +kernel
theorem dX4_digest_160 : decode cX4_digest 160 = .ok (.ldc2_w 239, 3) := by decide +kernel
theorem dX4_digest_163 : decode cX4_digest 163 = .ok (.lload_n 1, 1) := by decide +kernel
theorem dX4_digest_164 : decode cX4_digest 164 = .ok (.lmul, 1) := by decide +kernel
theorem dX4_digest_165 : decode cX4_digest 165 = .ok (.aload_n 0, 1) := by decide +kernel
theorem dX4_digest_166 : decode cX4_digest 166 = .ok (.invokevirtual 233, 3) := by decide +kernel
theorem dX4_digest_169 : decode cX4_digest 169 = .ok (.invokestatic 252, 3) := by decide +kernel
theorem dX4_digest_172 : decode cX4_digest 172 = .ok (.ladd, 1) := by decide +kernel
theorem dX4_digest_173 : decode cX4_digest 173 = .ok (.lstore_n 1, 1) := by decide +kernel
theorem dX4_digest_174 : decode cX4_digest 174 = .ok (.ldc2_w 239, 3) := by decide +kernel
theorem dX4_digest_177 : decode cX4_digest 177 = .ok (.lload_n 1, 1) := by decide +kernel
theorem dX4_digest_178 : decode cX4_digest 178 = .ok (.lmul, 1) := by decide +kernel
theorem dX4_digest_179 : decode cX4_digest 179 = .ok (.aload_n 0, 1) := by decide +kernel
theorem dX4_digest_180 : decode cX4_digest 180 = .ok (.getfield 37, 3) := by decide +kernel
theorem dX4_digest_183 : decode cX4_digest 183 = .ok (.i2l, 1) := by decide +kernel
theorem dX4_digest_184 : decode cX4_digest 184 = .ok (.ladd, 1) := by decide +kernel
theorem dX4_digest_185 : decode cX4_digest 185 = .ok (.lstore_n 1, 1) := by decide +kernel
theorem dX4_digest_186 : decode cX4_digest 186 = .ok (.iconst 0, 1) := by decide +kernel
theorem dX4_digest_187 : decode cX4_digest 187 = .ok (.istore_n 3, 1) := by decide +kernel
theorem dX4_digest_188 : decode cX4_digest 188 = .ok (.iload_n 3, 1) := by decide +kernel
theorem dX4_digest_189 : decode cX4_digest 189 = .ok (.aload_n 0, 1) := by decide +kernel
theorem dX4_digest_190 : decode cX4_digest 190 = .ok (.getfield 37, 3) := by decide +kernel
theorem dX4_digest_193 : decode cX4_digest 193 = .ok (.if_icmp .ge 32, 3) := by decide +kernel
theorem dX4_digest_196 : decode cX4_digest 196 = .ok (.iload_n 3, 1) := by decide +kernel
theorem dX4_digest_197 : decode cX4_digest 197 = .ok (.aload_n 0, 1) := by decide +kernel
theorem dX4_digest_198 : decode cX4_digest 198 = .ok (.getfield 33, 3) := by decide +kernel
theorem dX4_digest_201 : decode cX4_digest 201 = .ok (.arraylength, 1) := by decide +kernel
theorem dX4_digest_202 : decode cX4_digest 202 = .ok (.if_icmp .ge 23, 3) := by decide +kernel
theorem dX4_digest_205 : decode cX4_digest 205 = .ok (.ldc2_w 239, 3) := by decide +kernel
theorem dX4_digest_208 : decode cX4_digest 208 = .ok (.lload_n 1, 1) := by decide +kernel
theorem dX4_digest_209 : decode cX4_digest 209 = .ok (.lmul, 1) := by decide +kernel
theorem dX4_digest_210 : decode cX4_digest 210 = .ok (.aload_n 0, 1) := by decide +kernel
theorem dX4_digest_211 : decode cX4_digest 211 = .ok (.getfield 33, 3) := by decide +kernel
theorem dX4_digest_214 : decode cX4_digest 214 = .ok (.iload_n 3, 1) := by decide +kernel
theorem dX4_digest_215 : decode cX4_digest 215 = .ok (.iaload, 1) := by decide +kernel
theorem dX4_digest_216 : decode cX4_digest 216 = .ok (.i2l, 1) := by decide +kernel
theorem dX4_digest_217 : decode cX4_digest 217 = .ok (.ladd, 1) := by decide +kernel
theorem dX4_digest_218 : decode cX4_digest 218 = .ok (.lstore_n 1, 1) := by decide +kernel
theorem dX4_digest_219 : decode cX4_digest 219 = .ok (.iinc 3 1, 3) := by decide +kernel
theorem dX4_digest_222 : decode cX4_digest 222 = .ok (.goto (-34), 3) := by decide +kernel
theorem dX4_digest_225 : decode cX4_digest 225 = .ok (.lload_n 1, 1) := by decide +kernel
theorem dX4_digest_226 : decode cX4_digest 226 = .ok (.lreturn, 1) := by decide +kernel
theorem dX4_millOrThrow_0 : decode cX4_millOrThrow 0 = .ok (.aload_n 0, 1) := by decide +kernel
theorem dX4_millOrThrow_1 : decode cX4_millOrThrow 1 = .ok (.getfield 10, 3) := by decide +kernel
theorem dX4_millOrThrow_4 : decode cX4_millOrThrow 4 = .ok (.iload_n 1, 1) := by decide +kernel
theorem dX4_millOrThrow_5 : decode cX4_millOrThrow 5 = .ok (.invokevirtual 256, 3) := by decide +kernel
theorem dX4_millOrThrow_8 : decode cX4_millOrThrow 8 = .ok (.astore_n 2, 1) := by decide +kernel
theorem dX4_millOrThrow_9 : decode cX4_millOrThrow 9 = .ok (.aload_n 2, 1) := by decide +kernel
theorem dX4_millOrThrow_10 : decode cX4_millOrThrow 10 = .ok (.ifnonnull 14, 3) := by decide +kernel
theorem dX4_millOrThrow_13 : decode cX4_millOrThrow 13 = .ok (.new 91, 3) := by decide +kernel
theorem dX4_millOrThrow_16 : decode cX4_millOrThrow 16 = .ok (.dup, 1) := by decide +kernel
theorem dX4_millOrThrow_17 : decode cX4_millOrThrow 17 = .ok (.ldc_w 259, 3) := by decide +kernel
theorem dX4_millOrThrow_20 : decode cX4_millOrThrow 20 = .ok (.invokespecial 95, 3) := by decide +kernel
theorem dX4_millOrThrow_23 : decode cX4_millOrThrow 23 = .ok (.athrow, 1) := by decide +kernel
theorem dX4_millOrThrow_24 : decode cX4_millOrThrow 24 = .ok (.aload_n 2, 1) := by decide +kernel
theorem dX4_millOrThrow_25 : decode cX4_millOrThrow 25 = .ok (.areturn, 1) := by decide +kernel
theorem dX4_millOfSackOrThrow_0 : decode cX4_millOfSackOrThrow 0 = .ok (.aload_n 0, 1) := by decide +kernel
theorem dX4_millOfSackOrThrow_1 : decode cX4_millOfSackOrThrow 1 = .ok (.getfield 10, 3) := by decide +kernel
theorem dX4_millOfSackOrThrow_4 : decode cX4_millOfSackOrThrow 4 = .ok (.iload_n 1, 1) := by decide +kernel
theorem dX4_millOfSackOrThrow_5 : decode cX4_millOfSackOrThrow 5 = .ok (.invokevirtual 197, 3) := by decide +kernel
theorem dX4_millOfSackOrThrow_8 : decode cX4_millOfSackOrThrow 8 = .ok (.astore_n 2, 1) := by decide +kernel
theorem dX4_millOfSackOrThrow_9 : decode cX4_millOfSackOrThrow 9 = .ok (.aload_n 2, 1) := by decide +kernel
theorem dX4_millOfSackOrThrow_10 : decode cX4_millOfSackOrThrow 10 = .ok (.ifnonnull 14, 3) := by decide +kernel
theorem dX4_millOfSackOrThrow_13 : decode cX4_millOfSackOrThrow 13 = .ok (.new 154, 3) := by decide +kernel
theorem dX4_millOfSackOrThrow_16 : decode cX4_millOfSackOrThrow 16 = .ok (.dup, 1) := by decide +kernel
theorem dX4_millOfSackOrThrow_17 : decode cX4_millOfSackOrThrow 17 = .ok (.ldc_w 261, 3) := by decide +kernel
theorem dX4_millOfSackOrThrow_20 : decode cX4_millOfSackOrThrow 20 = .ok (.invokespecial 158, 3) := by decide +kernel
theorem dX4_millOfSackOrThrow_23 : decode cX4_millOfSackOrThrow 23 = .ok (.athrow, 1) := by decide +kernel
theorem dX4_millOfSackOrThrow_24 : decode cX4_millOfSackOrThrow 24 = .ok (.aload_n 2, 1) := by decide +kernel
theorem dX4_millOfSackOrThrow_25 : decode cX4_millOfSackOrThrow 25 = .ok (.areturn, 1) := by decide +kernel
theorem dX4_requireRange_0 : decode cX4_requireRange 0 = .ok (.iload_n 0, 1) := by decide +kernel
theorem dX4_requireRange_1 : decode cX4_requireRange 1 = .ok (.iload_n 1, 1) := by decide +kernel
theorem dX4_requireRange_2 : decode cX4_requireRange 2 = .ok (.if_icmp .lt 8, 3) := by decide +kernel
theorem dX4_requireRange_5 : decode cX4_requireRange 5 = .ok (.iload_n 0, 1) := by decide +kernel
theorem dX4_requireRange_6 : decode cX4_requireRange 6 = .ok (.iload_n 2, 1) := by decide +kernel
theorem dX4_requireRange_7 : decode cX4_requireRange 7 = .ok (.if_icmp .le 14, 3) := by decide +kernel
theorem dX4_requireRange_10 : decode cX4_requireRange 10 = .ok (.new 167, 3) := by decide +kernel
theorem dX4_requireRange_13 : decode cX4_requireRange 13 = .ok (.dup, 1) := by decide +kernel
theorem dX4_requireRange_14 : decode cX4_requireRange 14 = .ok (.ldc_w 263, 3) := by decide +kernel
theorem dX4_requireRange_17 : decode cX4_requireRange 17 = .ok (.invokespecial 171, 3) := by decide +kernel
theorem dX4_requireRange_20 : decode cX4_requireRange 20 = .ok (.athrow, 1) := by decide +kernel
theorem dX4_requireRange_21 : decode cX4_requireRange 21 = .ok (.return_, 1) := by decide +kernel
theorem dX4_requireNotBelowZero_0 : decode cX4_requireNotBelowZero 0 = .ok (.iload_n 0, 1) := by decide +kernel
theorem dX4_requireNotBelowZero_1 : decode cX4_requireNotBelowZero 1 = .ok (.ifCond .ge 14, 3) := by decide +kernel
theorem dX4_requireNotBelowZero_4 : decode cX4_requireNotBelowZero 4 = .ok (.new 167, 3) := by decide +kernel
theorem dX4_requireNotBelowZero_7 : decode cX4_requireNotBelowZero 7 = .ok (.dup, 1) := by decide +kernel
theorem dX4_requireNotBelowZero_8 : decode cX4_requireNotBelowZero 8 = .ok (.ldc_w 265, 3) := by decide +kernel
theorem dX4_requireNotBelowZero_11 : decode cX4_requireNotBelowZero 11 = .ok (.invokespecial 171, 3) := by decide +kernel
theorem dX4_requireNotBelowZero_14 : decode cX4_requireNotBelowZero 14 = .ok (.athrow, 1) := by decide +kernel
theorem dX4_requireNotBelowZero_15 : decode cX4_requireNotBelowZero 15 = .ok (.return_, 1) := by decide +kernel
theorem dX4_requireState_0 : decode cX4_requireState 0 = .ok (.iload_n 0, 1) := by decide +kernel
theorem dX4_requireState_1 : decode cX4_requireState 1 = .ok (.ifCond .ne 14, 3) := by decide +kernel
theorem dX4_requireState_4 : decode cX4_requireState 4 = .ok (.new 154, 3) := by decide +kernel
theorem dX4_requireState_7 : decode cX4_requireState 7 = .ok (.dup, 1) := by decide +kernel
theorem dX4_requireState_8 : decode cX4_requireState 8 = .ok (.ldc_w 267, 3) := by decide +kernel
theorem dX4_requireState_11 : decode cX4_requireState 11 = .ok (.invokespecial 158, 3) := by decide +kernel
theorem dX4_requireState_14 : decode cX4_requireState 14 = .ok (.athrow, 1) := by decide +kernel
theorem dX4_requireState_15 : decode cX4_requireState 15 = .ok (.return_, 1) := by decide +kernel
theorem dX4_leastOfSetting_0 : decode cX4_leastOfSetting 0 = .ok (.iload_n 0, 1) := by decide +kernel
theorem dX4_leastOfSetting_1 : decode cX4_leastOfSetting 1 = .ok (.lookupswitch 31 #[(0, 27), (1, 29)], 27) := by decide +kernel
theorem dX4_leastOfSetting_28 : decode cX4_leastOfSetting 28 = .ok (.iconst 1, 1) := by decide +kernel
theorem dX4_leastOfSetting_29 : decode cX4_leastOfSetting 29 = .ok (.ireturn, 1) := by decide +kernel
theorem dX4_leastOfSetting_30 : decode cX4_leastOfSetting 30 = .ok (.iconst 0, 1) := by decide +kernel
theorem dX4_leastOfSetting_31 : decode cX4_leastOfSetting 31 = .ok (.ireturn, 1) := by decide +kernel
theorem dX4_leastOfSetting_32 : decode cX4_leastOfSetting 32 = .ok (.iconst 5, 1) := by decide +kernel
theorem dX4_leastOfSetting_33 : decode cX4_leastOfSetting 33 = .ok (.ireturn, 1) := by decide +kernel
theorem dX4_mostOfSetting_0 : decode cX4_mostOfSetting 0 = .ok (.iload_n 0, 1) := by decide +kernel
theorem dX4_mostOfSetting_1 : decode cX4_mostOfSetting 1 = .ok (.ifCond .ne 8, 3) := by decide +kernel
theorem dX4_mostOfSetting_4 : decode cX4_mostOfSetting 4 = .ok (.bipush 15, 2) := by decide +kernel
theorem dX4_mostOfSetting_6 : decode cX4_mostOfSetting 6 = .ok (.goto 5, 3) := by decide +kernel
theorem dX4_mostOfSetting_9 : decode cX4_mostOfSetting 9 = .ok (.bipush 100, 2) := by decide +kernel
theorem dX4_mostOfSetting_11 : decode cX4_mostOfSetting 11 = .ok (.ireturn, 1) := by decide +kernel
theorem dX4_numberOrNone_0 : decode cX4_numberOrNone 0 = .ok (.aload_n 0, 1) := by decide +kernel
theorem dX4_numberOrNone_1 : decode cX4_numberOrNone 1 = .ok (.ifnonnull 7, 3) := by decide +kernel
theorem dX4_numberOrNone_4 : decode cX4_numberOrNone 4 = .ok (.iconst (-1), 1) := by decide +kernel
theorem dX4_numberOrNone_5 : decode cX4_numberOrNone 5 = .ok (.goto 7, 3) := by decide +kernel
theorem dX4_numberOrNone_8 : decode cX4_numberOrNone 8 = .ok (.aload_n 0, 1) := by decide +kernel
theorem dX4_numberOrNone_9 : decode cX4_numberOrNone 9 = .ok (.getfield 269, 3) := by decide +kernel
theorem dX4_numberOrNone_12 : decode cX4_numberOrNone 12 = .ok (.ireturn, 1) := by decide +kernel
theorem dX4_readToError_0 : decode cX4_readToError 0 = .ok (.aload_n 0, 1) := by decide +kernel
theorem dX4_readToError_1 : decode cX4_readToError 1 = .ok (.getfield 44, 3) := by decide +kernel
theorem dX4_readToError_4 : decode cX4_readToError 4 = .ok (.invokevirtual 272, 3) := by decide +kernel
theorem dX4_readToError_7 : decode cX4_readToError 7 = .ok (.iconst 0, 1) := by decide +kernel
theorem dX4_readToError_8 : decode cX4_readToError 8 = .ok (.istore_n 1, 1) := by decide +kernel
theorem dX4_readToError_9 : decode cX4_readToError 9 = .ok (.iload_n 1, 1) := by decide +kernel
theorem dX4_readToError_10 : decode cX4_readToError 10 = .ok (.aload_n 0, 1) := by decide +kernel
theorem dX4_readToError_11 : decode cX4_readToError 11 = .ok (.getfield 37, 3) := by decide +kernel
theorem dX4_readToError_14 : decode cX4_readToError 14 = .ok (.if_icmp .ge 34, 3) := by decide +kernel
theorem dX4_readToError_17 : decode cX4_readToError 17 = .ok (.iload_n 1, 1) := by decide +kernel
theorem dX4_readToError_18 : decode cX4_readToError 18 = .ok (.aload_n 0, 1) := by decide +kernel
theorem dX4_readToError_19 : decode cX4_readToError 19 = .ok (.getfield 33, 3) := by decide +kernel
theorem dX4_readToError_22 : decode cX4_readToError 22 = .ok (.arraylength, 1) := by decide +kernel
theorem dX4_readToError_23 : decode cX4_readToError 23 = .ok (.if_icmp .ge 25, 3) := by decide +kernel
theorem dX4_readToError_26 : decode cX4_readToError 26 = .ok (.aload_n 0, 1) := by decide +kernel
theorem dX4_readToError_27 : decode cX4_readToError 27 = .ok (.getfield 44, 3) := by decide +kernel
theorem dX4_readToError_30 : decode cX4_readToError 30 = .ok (.aload_n 0, 1) := by decide +kernel
theorem dX4_readToError_31 : decode cX4_readToError 31 = .ok (.getfield 33, 3) := by decide +kernel
theorem dX4_readToError_34 : decode cX4_readToError 34 = .ok (.iload_n 1, 1) := by decide +kernel
theorem dX4_readToError_35 : decode cX4_readToError 35 = .ok (.iaload, 1) := by decide +kernel
theorem dX4_readToError_36 : decode cX4_readToError 36 = .ok (.invokevirtual 275, 3) := by decide +kernel
theorem dX4_readToError_39 : decode cX4_readToError 39 = .ok (.ifCond .eq 9, 3) := by decide +kernel
theorem dX4_readToError_42 : decode cX4_readToError 42 = .ok (.iinc 1 1, 3) := by decide +kernel
theorem dX4_readToError_45 : decode cX4_readToError 45 = .ok (.goto (-36), 3) := by decide +kernel
theorem dX4_readToError_48 : decode cX4_readToError 48 = .ok (.iload_n 1, 1) := by decide +kernel
theorem dX4_readToError_49 : decode cX4_readToError 49 = .ok (.ireturn, 1) := by decide +kernel
theorem dX4_doParts_0 : decode cX4_doParts 0 = .ok (.iconst 0, 1) := by decide +kernel
theorem dX4_doParts_1 : decode cX4_doParts 1 = .ok (.istore_n 1, 1) := by decide +kernel
theorem dX4_doParts_2 : decode cX4_doParts 2 = .ok (.aload_n 0, 1) := by decide +kernel
theorem dX4_doParts_3 : decode cX4_doParts 3 = .ok (.getfield 44, 3) := by decide +kernel
theorem dX4_doParts_6 : decode cX4_doParts 6 = .ok (.invokevirtual 272, 3) := by decide +kernel
theorem dX4_doParts_9 : decode cX4_doParts 9 = .ok (.iconst 0, 1) := by decide +kernel
theorem dX4_doParts_10 : decode cX4_doParts 10 = .ok (.istore_n 2, 1) := by decide +kernel
theorem dX4_doParts_11 : decode cX4_doParts 11 = .ok (.iload_n 2, 1) := by decide +kernel
theorem dX4_doParts_12 : decode cX4_doParts 12 = .ok (.aload_n 0, 1) := by decide +kernel
theorem dX4_doParts_13 : decode cX4_doParts 13 = .ok (.getfield 37, 3) := by decide +kernel
theorem dX4_doParts_16 : decode cX4_doParts 16 = .ok (.if_icmp .gt 73, 3) := by decide +kernel
theorem dX4_doParts_19 : decode cX4_doParts 19 = .ok (.iload_n 2, 1) := by decide +kernel
theorem dX4_doParts_20 : decode cX4_doParts 20 = .ok (.aload_n 0, 1) := by decide +kernel
theorem dX4_doParts_21 : decode cX4_doParts 21 = .ok (.getfield 37, 3) := by decide +kernel
theorem dX4_doParts_24 : decode cX4_doParts 24 = .ok (.if_icmp .ge 40, 3) := by decide +kernel
theorem dX4_doParts_27 : decode cX4_doParts 27 = .ok (.iload_n 2, 1) := by decide +kernel
theorem dX4_doParts_28 : decode cX4_doParts 28 = .ok (.aload_n 0, 1) := by decide +kernel
theorem dX4_doParts_29 : decode cX4_doParts 29 = .ok (.getfield 33, 3) := by decide +kernel
theorem dX4_doParts_32 : decode cX4_doParts 32 = .ok (.arraylength, 1) := by decide +kernel
theorem dX4_doParts_33 : decode cX4_doParts 33 = .ok (.if_icmp .ge 31, 3) := by decide +kernel
theorem dX4_doParts_36 : decode cX4_doParts 36 = .ok (.aload_n 0, 1) := by decide +kernel
theorem dX4_doParts_37 : decode cX4_doParts 37 = .ok (.getfield 33, 3) := by decide +kernel
theorem dX4_doParts_40 : decode cX4_doParts 40 = .ok (.iload_n 2, 1) := by decide +kernel
theorem dX4_doParts_41 : decode cX4_doParts 41 = .ok (.iaload, 1) := by decide +kernel
theorem dX4_doParts_42 : decode cX4_doParts 42 = .ok (.bipush 59, 2) := by decide +kernel
theorem dX4_doParts_44 : decode cX4_doParts 44 = .ok (.if_icmp .eq 20, 3) := by decide +kernel
theorem dX4_doParts_47 : decode cX4_doParts 47 = .ok (.aload_n 0, 1) := by decide +kernel
theorem dX4_doParts_48 : decode cX4_doParts 48 = .ok (.getfield 44, 3) := by decide +kernel
theorem dX4_doParts_51 : decode cX4_doParts 51 = .ok (.aload_n 0, 1) := by decide +kernel
theorem dX4_doParts_52 : decode cX4_doParts 52 = .ok (.getfield 33, 3) := by decide +kernel
theorem dX4_doParts_55 : decode cX4_doParts 55 = .ok (.iload_n 2, 1) := by decide +kernel
theorem dX4_doParts_56 : decode cX4_doParts 56 = .ok (.iaload, 1) := by decide +kernel
theorem dX4_doParts_57 : decode cX4_doParts 57 = .ok (.invokevirtual 275, 3) := by decide +kernel
theorem dX4_doParts_60 : decode cX4_doParts 60 = .ok (.pop, 1) := by decide +kernel
theorem dX4_doParts_61 : decode cX4_doParts 61 = .ok (.goto 22, 3) := by decide +kernel
theorem dX4_doParts_64 : decode cX4_doParts 64 = .ok (.aload_n 0, 1) := by decide +kernel
theorem dX4_doParts_65 : decode cX4_doParts 65 = .ok (.invokevirtual 279, 3) := by decide +kernel
theorem dX4_doParts_68 : decode cX4_doParts 68 = .ok (.ifCond .ne 5, 3) := by decide +kernel
theorem dX4_doParts_71 : decode cX4_doParts 71 = .ok (.iload_n 1, 1) := by decide +kernel
theorem dX4_doParts_72 : decode cX4_doParts 72 = .ok (.ireturn, 1) := by decide +kernel
theorem dX4_doParts_73 : decode cX4_doParts 73 = .ok (.iinc 1 1, 3) := by decide +kernel
theorem dX4_doParts_76 : decode cX4_doParts 76 = .ok (.aload_n 0, 1) := by decide +kernel
theorem dX4_doParts_77 : decode cX4_doParts 77 = .ok (.getfield 44, 3) := by decide +kernel
theorem dX4_doParts_80 : decode cX4_doParts 80 = .ok (.invokevirtual 272, 3) := by decide +kernel
theorem dX4_doParts_83 : decode cX4_doParts 83 = .ok (.iinc 2 1, 3) := by decide +kernel
theorem dX4_doParts_86 : decode cX4_doParts 86 = .ok (.goto (-75), 3) := by decide +kernel
theorem dX4_doParts_89 : decode cX4_doParts 89 = .ok (.iload_n 1, 1) := by decide +kernel
theorem dX4_doParts_90 : decode cX4_doParts 90 = .ok (.ireturn, 1) := by decide +kernel
theorem dX4_doPart_0 : decode cX4_doPart 0 = .ok (.aload_n 0, 1) := by decide +kernel
theorem dX4_doPart_1 : decode cX4_doPart 1 = .ok (.getfield 44, 3) := by decide +kernel
theorem dX4_doPart_4 : decode cX4_doPart 4 = .ok (.getfield 282, 3) := by decide +kernel
theorem dX4_doPart_7 : decode cX4_doPart 7 = .ok (.bipush 43, 2) := by decide +kernel
theorem dX4_doPart_9 : decode cX4_doPart 9 = .ok (.if_icmp .ne 20, 3) := by decide +kernel
theorem dX4_doPart_12 : decode cX4_doPart 12 = .ok (.aload_n 0, 1) := by decide +kernel
theorem dX4_doPart_13 : decode cX4_doPart 13 = .ok (.getfield 10, 3) := by decide +kernel
theorem dX4_doPart_16 : decode cX4_doPart 16 = .ok (.aload_n 0, 1) := by decide +kernel
theorem dX4_doPart_17 : decode cX4_doPart 17 = .ok (.getfield 44, 3) := by decide +kernel
theorem dX4_doPart_20 : decode cX4_doPart 20 = .ok (.iconst 0, 1) := by decide +kernel
theorem dX4_doPart_21 : decode cX4_doPart 21 = .ok (.invokevirtual 285, 3) := by decide +kernel
theorem dX4_doPart_24 : decode cX4_doPart 24 = .ok (.invokevirtual 114, 3) := by decide +kernel
theorem dX4_doPart_27 : decode cX4_doPart 27 = .ok (.iconst 1, 1) := by decide +kernel
theorem dX4_doPart_28 : decode cX4_doPart 28 = .ok (.ireturn, 1) := by decide +kernel
theorem dX4_doPart_29 : decode cX4_doPart 29 = .ok (.aload_n 0, 1) := by decide +kernel
theorem dX4_doPart_30 : decode cX4_doPart 30 = .ok (.getfield 10, 3) := by decide +kernel
theorem dX4_doPart_33 : decode cX4_doPart 33 = .ok (.aload_n 0, 1) := by decide +kernel
theorem dX4_doPart_34 : decode cX4_doPart 34 = .ok (.getfield 44, 3) := by decide +kernel
theorem dX4_doPart_37 : decode cX4_doPart 37 = .ok (.iconst 0, 1) := by decide +kernel
theorem dX4_doPart_38 : decode cX4_doPart 38 = .ok (.invokevirtual 285, 3) := by decide +kernel
theorem dX4_doPart_41 : decode cX4_doPart 41 = .ok (.invokevirtual 256, 3) := by decide +kernel
theorem dX4_doPart_44 : decode cX4_doPart 44 = .ok (.astore_n 1, 1) := by decide +kernel
theorem dX4_doPart_45 : decode cX4_doPart 45 = .ok (.aload_n 1, 1) := by decide +kernel
theorem dX4_doPart_46 : decode cX4_doPart 46 = .ok (.ifnonnull 5, 3) := by decide +kernel
theorem dX4_doPart_49 : decode cX4_doPart 49 = .ok (.iconst 0, 1) := by decide +kernel
theorem dX4_doPart_50 : decode cX4_doPart 50 = .ok (.ireturn, 1) := by decide +kernel
theorem dX4_doPart_51 : decode cX4_doPart 51 = .ok (.aload_n 0, 1) := by decide +kernel
theorem dX4_doPart_52 : decode cX4_doPart 52 = .ok (.getfield 44, 3) := by decide +kernel
theorem dX4_doPart_55 : decode cX4_doPart 55 = .ok (.getfield 282, 3) := by decide +kernel
theorem dX4_doPart_58 : decode cX4_doPart 58 = .ok (.bipush 103, 2) := by decide +kernel
theorem dX4_doPart_60 : decode cX4_doPart 60 = .ok (.if_icmp .ne 29, 3) := by decide +kernel
theorem dX4_doPart_63 : decode cX4_doPart 63 = .ok (.aload_n 1, 1) := by decide +kernel
theorem dX4_doPart_64 : decode cX4_doPart 64 = .ok (.aload_n 0, 1) := by decide +kernel
theorem dX4_doPart_65 : decode cX4_doPart 65 = .ok (.getfield 44, 3) := by decide +kernel
theorem dX4_doPart_68 : decode cX4_doPart 68 = .ok (.iconst 1, 1) := by decide +kernel
theorem dX4_doPart_69 : decode cX4_doPart 69 = .ok (.invokevirtual 285, 3) := by decide +kernel
theorem dX4_doPart_72 : decode cX4_doPart 72 = .ok (.putfield 81, 3) := by decide +kernel
theorem dX4_doPart_75 : decode cX4_doPart 75 = .ok (.aload_n 1, 1) := by decide +kernel
theorem dX4_doPart_76 : decode cX4_doPart 76 = .ok (.aload_n 0, 1) := by decide +kernel
theorem dX4_doPart_77 : decode cX4_doPart 77 = .ok (.getfield 44, 3) := by decide +kernel
theorem dX4_doPart_80 : decode cX4_doPart 80 = .ok (.iconst 2, 1) := by decide +kernel
theorem dX4_doPart_81 : decode cX4_doPart 81 = .ok (.invokevirtual 285, 3) := by decide +kernel
theorem dX4_doPart_84 : decode cX4_doPart 84 = .ok (.putfield 84, 3) := by decide +kernel
theorem dX4_doPart_87 : decode cX4_doPart 87 = .ok (.iconst 1, 1) := by decide +kernel
theorem dX4_doPart_88 : decode cX4_doPart 88 = .ok (.ireturn, 1) := by decide +kernel
theorem dX4_doPart_89 : decode cX4_doPart 89 = .ok (.aload_n 0, 1) := by decide +kernel
theorem dX4_doPart_90 : decode cX4_doPart 90 = .ok (.getfield 10, 3) := by decide +kernel
theorem dX4_doPart_93 : decode cX4_doPart 93 = .ok (.aload_n 1, 1) := by decide +kernel
theorem dX4_doPart_94 : decode cX4_doPart 94 = .ok (.aload_n 0, 1) := by decide +kernel
theorem dX4_doPart_95 : decode cX4_doPart 95 = .ok (.getfield 44, 3) := by decide +kernel
theorem dX4_doPart_98 : decode cX4_doPart 98 = .ok (.iconst 1, 1) := by decide +kernel
theorem dX4_doPart_99 : decode cX4_doPart 99 = .ok (.invokevirtual 285, 3) := by decide +kernel
theorem dX4_doPart_102 : decode cX4_doPart 102 = .ok (.aload_n 0, 1) := by decide +kernel
theorem dX4_doPart_103 : decode cX4_doPart 103 = .ok (.getfield 44, 3) := by decide +kernel
theorem dX4_doPart_106 : decode cX4_doPart 106 = .ok (.iconst 2, 1) := by decide +kernel
theorem dX4_doPart_107 : decode cX4_doPart 107 = .ok (.invokevirtual 285, 3) := by decide +kernel
theorem dX4_doPart_110 : decode cX4_doPart 110 = .ok (.invokevirtual 122, 3) := by decide +kernel
theorem dX4_doPart_113 : decode cX4_doPart 113 = .ok (.iconst (-1), 1) := by decide +kernel
theorem dX4_doPart_114 : decode cX4_doPart 114 = .ok (.if_icmp .eq 7, 3) := by decide +kernel
theorem dX4_doPart_117 : decode cX4_doPart 117 = .ok (.iconst 1, 1) := by decide +kernel
theorem dX4_doPart_118 : decode cX4_doPart 118 = .ok (.goto 4, 3) := by decide +kernel
theorem dX4_doPart_121 : decode cX4_doPart 121 = .ok (.iconst 0, 1) := by decide +kernel
theorem dX4_doPart_122 : decode cX4_doPart 122 = .ok (.ireturn, 1) := by decide +kernel
theorem dX4_numberOfMill_0 : decode cX4_numberOfMill 0 = .ok (.iload_n 2, 1) := by decide +kernel
theorem dX4_numberOfMill_1 : decode cX4_numberOfMill 1 = .ok (.tableswitch 123 0 9 #[55, 60, 65, 70, 75, 80, 85, 90, 95, 118], 55) := by decide +kernel
theorem dX4_numberOfMill_56 : decode cX4_numberOfMill 56 = .ok (.aload_n 1, 1) := by decide +kernel
theorem dX4_numberOfMill_57 : decode cX4_numberOfMill 57 = .ok (.getfield 69, 3) := by decide +kernel
theorem dX4_numberOfMill_60 : decode cX4_numberOfMill 60 = .ok (.ireturn, 1) := by decide +kernel
theorem dX4_numberOfMill_61 : decode cX4_numberOfMill 61 = .ok (.aload_n 1, 1) := by decide +kernel
theorem dX4_numberOfMill_62 : decode cX4_numberOfMill 62 = .ok (.getfield 56, 3) := by decide +kernel
theorem dX4_numberOfMill_65 : decode cX4_numberOfMill 65 = .ok (.ireturn, 1) := by decide +kernel
theorem dX4_numberOfMill_66 : decode cX4_numberOfMill 66 = .ok (.aload_n 1, 1) := by decide +kernel
theorem dX4_numberOfMill_67 : decode cX4_numberOfMill 67 = .ok (.getfield 72, 3) := by decide +kernel
theorem dX4_numberOfMill_70 : decode cX4_numberOfMill 70 = .ok (.ireturn, 1) := by decide +kernel
theorem dX4_numberOfMill_71 : decode cX4_numberOfMill 71 = .ok (.aload_n 1, 1) := by decide +kernel
theorem dX4_numberOfMill_72 : decode cX4_numberOfMill 72 = .ok (.getfield 78, 3) := by decide +kernel
theorem dX4_numberOfMill_75 : decode cX4_numberOfMill 75 = .ok (.ireturn, 1) := by decide +kernel
theorem dX4_numberOfMill_76 : decode cX4_numberOfMill 76 = .ok (.aload_n 1, 1) := by decide +kernel
theorem dX4_numberOfMill_77 : decode cX4_numberOfMill 77 = .ok (.getfield 75, 3) := by decide +kernel
theorem dX4_numberOfMill_80 : decode cX4_numberOfMill 80 = .ok (.ireturn, 1) := by decide +kernel
theorem dX4_numberOfMill_81 : decode cX4_numberOfMill 81 = .ok (.aload_n 1, 1) := by decide +kernel
theorem dX4_numberOfMill_82 : decode cX4_numberOfMill 82 = .ok (.getfield 81, 3) := by decide +kernel
theorem dX4_numberOfMill_85 : decode cX4_numberOfMill 85 = .ok (.ireturn, 1) := by decide +kernel
theorem dX4_numberOfMill_86 : decode cX4_numberOfMill 86 = .ok (.aload_n 1, 1) := by decide +kernel
theorem dX4_numberOfMill_87 : decode cX4_numberOfMill 87 = .ok (.getfield 84, 3) := by decide +kernel
theorem dX4_numberOfMill_90 : decode cX4_numberOfMill 90 = .ok (.ireturn, 1) := by decide +kernel
theorem dX4_numberOfMill_91 : decode cX4_numberOfMill 91 = .ok (.aload_n 1, 1) := by decide +kernel
theorem dX4_numberOfMill_92 : decode cX4_numberOfMill 92 = .ok (.getfield 129, 3) := by decide +kernel
theorem dX4_numberOfMill_95 : decode cX4_numberOfMill 95 = .ok (.ireturn, 1) := by decide +kernel
theorem dX4_numberOfMill_96 : decode cX4_numberOfMill 96 = .ok (.aload_n 1, 1) := by decide +kernel
theorem dX4_numberOfMill_97 : decode cX4_numberOfMill 97 = .ok (.aload_n 0, 1) := by decide +kernel
theorem dX4_numberOfMill_98 : decode cX4_numberOfMill 98 = .ok (.getfield 10, 3) := by decide +kernel
theorem dX4_numberOfMill_101 : decode cX4_numberOfMill 101 = .ok (.aload_n 0, 1) := by decide +kernel
theorem dX4_numberOfMill_102 : decode cX4_numberOfMill 102 = .ok (.getfield 10, 3) := by decide +kernel
theorem dX4_numberOfMill_105 : decode cX4_numberOfMill 105 = .ok (.getfield 184, 3) := by decide +kernel
theorem dX4_numberOfMill_108 : decode cX4_numberOfMill 108 = .ok (.invokevirtual 207, 3) := by decide +kernel
theorem dX4_numberOfMill_111 : decode cX4_numberOfMill 111 = .ok (.invokevirtual 286, 3) := by decide +kernel
theorem dX4_numberOfMill_114 : decode cX4_numberOfMill 114 = .ok (.sipush 1000, 3) := by decide +kernel
theorem dX4_numberOfMill_117 : decode cX4_numberOfMill 117 = .ok (.iadd, 1) := by decide +kernel
theorem dX4_numberOfMill_118 : decode cX4_numberOfMill 118 = .ok (.ireturn, 1) := by decide +kernel
theorem dX4_numberOfMill_119 : decode cX4_numberOfMill 119 = .ok (.aload_n 1, 1) := by decide +kernel
theorem dX4_numberOfMill_120 : decode cX4_numberOfMill 120 = .ok (.getfield 289, 3) := by decide +kernel
theorem dX4_numberOfMill_123 : decode cX4_numberOfMill 123 = .ok (.ireturn, 1) := by decide +kernel
theorem dX4_numberOfMill_124 : decode cX4_numberOfMill 124 = .ok (.aload_n 1, 1) := by decide +kernel
theorem dX4_numberOfMill_125 : decode cX4_numberOfMill 125 = .ok (.getfield 292, 3) := by decide +kernel
theorem dX4_numberOfMill_128 : decode cX4_numberOfMill 128 = .ok (.ireturn, 1) := by decide +kernel
theorem dX4_numberOfSack_0 : decode cX4_numberOfSack 0 = .ok (.iload_n 2, 1) := by decide +kernel
theorem dX4_numberOfSack_1 : decode cX4_numberOfSack 1 = .ok (.tableswitch 54 0 3 #[31, 36, 42, 48], 31) := by decide +kernel
theorem dX4_numberOfSack_32 : decode cX4_numberOfSack 32 = .ok (.aload_n 0, 1) := by decide +kernel
theorem dX4_numberOfSack_33 : decode cX4_numberOfSack 33 = .ok (.getfield 269, 3) := by decide +kernel
theorem dX4_numberOfSack_36 : decode cX4_numberOfSack 36 = .ok (.ireturn, 1) := by decide +kernel
theorem dX4_numberOfSack_37 : decode cX4_numberOfSack 37 = .ok (.aload_n 0, 1) := by decide +kernel
theorem dX4_numberOfSack_38 : decode cX4_numberOfSack 38 = .ok (.iload_n 1, 1) := by decide +kernel
theorem dX4_numberOfSack_39 : decode cX4_numberOfSack 39 = .ok (.invokevirtual 135, 3) := by decide +kernel
theorem dX4_numberOfSack_42 : decode cX4_numberOfSack 42 = .ok (.ireturn, 1) := by decide +kernel
theorem dX4_numberOfSack_43 : decode cX4_numberOfSack 43 = .ok (.aload_n 0, 1) := by decide +kernel
theorem dX4_numberOfSack_44 : decode cX4_numberOfSack 44 = .ok (.iload_n 1, 1) := by decide +kernel
theorem dX4_numberOfSack_45 : decode cX4_numberOfSack 45 = .ok (.invokevirtual 138, 3) := by decide +kernel
theorem dX4_numberOfSack_48 : decode cX4_numberOfSack 48 = .ok (.ireturn, 1) := by decide +kernel
theorem dX4_numberOfSack_49 : decode cX4_numberOfSack 49 = .ok (.aload_n 0, 1) := by decide +kernel
theorem dX4_numberOfSack_50 : decode cX4_numberOfSack 50 = .ok (.iload_n 1, 1) := by decide +kernel
theorem dX4_numberOfSack_51 : decode cX4_numberOfSack 51 = .ok (.invokevirtual 141, 3) := by decide +kernel
theorem dX4_numberOfSack_54 : decode cX4_numberOfSack 54 = .ok (.ireturn, 1) := by decide +kernel
theorem dX4_numberOfSack_55 : decode cX4_numberOfSack 55 = .ok (.iload_n 1, 1) := by decide +kernel
theorem dX4_numberOfSack_56 : decode cX4_numberOfSack 56 = .ok (.ireturn, 1) := by decide +kernel
theorem dX4_numberOfAll_0 : decode cX4_numberOfAll 0 = .ok (.iload_n 1, 1) := by decide +kernel
theorem dX4_numberOfAll_1 : decode cX4_numberOfAll 1 = .ok (.tableswitch 171 0 14 #[75, 83, 91, 99, 107, 115, 123, 131, 139, 147, 155, 171, 171, 171, 163], 75) := by decide +kernel
theorem dX4_numberOfAll_76 : decode cX4_numberOfAll 76 = .ok (.aload_n 0, 1) := by decide +kernel
theorem dX4_numberOfAll_77 : decode cX4_numberOfAll 77 = .ok (.getfield 10, 3) := by decide +kernel
theorem dX4_numberOfAll_80 : decode cX4_numberOfAll 80 = .ok (.getfield 184, 3) := by decide +kernel
theorem dX4_numberOfAll_83 : decode cX4_numberOfAll 83 = .ok (.ireturn, 1) := by decide +kernel
theorem dX4_numberOfAll_84 : decode cX4_numberOfAll 84 = .ok (.aload_n 0, 1) := by decide +kernel
theorem dX4_numberOfAll_85 : decode cX4_numberOfAll 85 = .ok (.getfield 10, 3) := by decide +kernel
theorem dX4_numberOfAll_88 : decode cX4_numberOfAll 88 = .ok (.getfield 293, 3) := by decide +kernel
theorem dX4_numberOfAll_91 : decode cX4_numberOfAll 91 = .ok (.ireturn, 1) := by decide +kernel
theorem dX4_numberOfAll_92 : decode cX4_numberOfAll 92 = .ok (.aload_n 0, 1) := by decide +kernel
theorem dX4_numberOfAll_93 : decode cX4_numberOfAll 93 = .ok (.getfield 10, 3) := by decide +kernel
theorem dX4_numberOfAll_96 : decode cX4_numberOfAll 96 = .ok (.getfield 296, 3) := by decide +kernel
theorem dX4_numberOfAll_99 : decode cX4_numberOfAll 99 = .ok (.ireturn, 1) := by decide +kernel
theorem dX4_numberOfAll_100 : decode cX4_numberOfAll 100 = .ok (.aload_n 0, 1) := by decide +kernel
theorem dX4_numberOfAll_101 : decode cX4_numberOfAll 101 = .ok (.getfield 10, 3) := by decide +kernel
theorem dX4_numberOfAll_104 : decode cX4_numberOfAll 104 = .ok (.getfield 299, 3) := by decide +kernel
theorem dX4_numberOfAll_107 : decode cX4_numberOfAll 107 = .ok (.ireturn, 1) := by decide +kernel
theorem dX4_numberOfAll_108 : decode cX4_numberOfAll 108 = .ok (.aload_n 0, 1) := by decide +kernel
theorem dX4_numberOfAll_109 : decode cX4_numberOfAll 109 = .ok (.getfield 10, 3) := by decide +kernel
theorem dX4_numberOfAll_112 : decode cX4_numberOfAll 112 = .ok (.getfield 302, 3) := by decide +kernel
theorem dX4_numberOfAll_115 : decode cX4_numberOfAll 115 = .ok (.ireturn, 1) := by decide +kernel
theorem dX4_numberOfAll_116 : decode cX4_numberOfAll 116 = .ok (.aload_n 0, 1) := by decide +kernel
theorem dX4_numberOfAll_117 : decode cX4_numberOfAll 117 = .ok (.getfield 10, 3) := by decide +kernel
theorem dX4_numberOfAll_120 : decode cX4_numberOfAll 120 = .ok (.invokevirtual 305, 3) := by decide +kernel
theorem dX4_numberOfAll_123 : decode cX4_numberOfAll 123 = .ok (.ireturn, 1) := by decide +kernel
theorem dX4_numberOfAll_124 : decode cX4_numberOfAll 124 = .ok (.aload_n 0, 1) := by decide +kernel
theorem dX4_numberOfAll_125 : decode cX4_numberOfAll 125 = .ok (.getfield 10, 3) := by decide +kernel
theorem dX4_numberOfAll_128 : decode cX4_numberOfAll 128 = .ok (.getfield 308, 3) := by decide +kernel
theorem dX4_numberOfAll_131 : decode cX4_numberOfAll 131 = .ok (.ireturn, 1) := by decide +kernel
theorem dX4_numberOfAll_132 : decode cX4_numberOfAll 132 = .ok (.aload_n 0, 1) := by decide +kernel
theorem dX4_numberOfAll_133 : decode cX4_numberOfAll 133 = .ok (.getfield 10, 3) := by decide +kernel
theorem dX4_numberOfAll_136 : decode cX4_numberOfAll 136 = .ok (.invokevirtual 311, 3) := by decide +kernel
theorem dX4_numberOfAll_139 : decode cX4_numberOfAll 139 = .ok (.ireturn, 1) := by decide +kernel
theorem dX4_numberOfAll_140 : decode cX4_numberOfAll 140 = .ok (.aload_n 0, 1) := by decide +kernel
theorem dX4_numberOfAll_141 : decode cX4_numberOfAll 141 = .ok (.getfield 10, 3) := by decide +kernel
theorem dX4_numberOfAll_144 : decode cX4_numberOfAll 144 = .ok (.getfield 111, 3) := by decide +kernel
theorem dX4_numberOfAll_147 : decode cX4_numberOfAll 147 = .ok (.ireturn, 1) := by decide +kernel
theorem dX4_numberOfAll_148 : decode cX4_numberOfAll 148 = .ok (.aload_n 0, 1) := by decide +kernel
theorem dX4_numberOfAll_149 : decode cX4_numberOfAll 149 = .ok (.getfield 10, 3) := by decide +kernel
theorem dX4_numberOfAll_152 : decode cX4_numberOfAll 152 = .ok (.getfield 314, 3) := by decide +kernel
theorem dX4_numberOfAll_155 : decode cX4_numberOfAll 155 = .ok (.ireturn, 1) := by decide +kernel
theorem dX4_numberOfAll_156 : decode cX4_numberOfAll 156 = .ok (.aload_n 0, 1) := by decide +kernel
theorem dX4_numberOfAll_157 : decode cX4_numberOfAll 157 = .ok (.getfield 10, 3) := by decide +kernel
theorem dX4_numberOfAll_160 : decode cX4_numberOfAll 160 = .ok (.getfield 151, 3) := by decide +kernel
theorem dX4_numberOfAll_163 : decode cX4_numberOfAll 163 = .ok (.ireturn, 1) := by decide +kernel
theorem dX4_numberOfAll_164 : decode cX4_numberOfAll 164 = .ok (.aload_n 0, 1) := by decide +kernel
theorem dX4_numberOfAll_165 : decode cX4_numberOfAll 165 = .ok (.getfield 29, 3) := by decide +kernel
theorem dX4_numberOfAll_168 : decode cX4_numberOfAll 168 = .ok (.getfield 175, 3) := by decide +kernel
theorem dX4_numberOfAll_171 : decode cX4_numberOfAll 171 = .ok (.ireturn, 1) := by decide +kernel
theorem dX4_numberOfAll_172 : decode cX4_numberOfAll 172 = .ok (.aload_n 0, 1) := by decide +kernel
theorem dX4_numberOfAll_173 : decode cX4_numberOfAll 173 = .ok (.getfield 10, 3) := by decide +kernel
theorem dX4_numberOfAll_176 : decode cX4_numberOfAll 176 = .ok (.iload_n 1, 1) := by decide +kernel
theorem dX4_numberOfAll_177 : decode cX4_numberOfAll 177 = .ok (.bipush 11, 2) := by decide +kernel
theorem dX4_numberOfAll_179 : decode cX4_numberOfAll 179 = .ok (.isub, 1) := by decide +kernel
theorem dX4_numberOfAll_180 : decode cX4_numberOfAll 180 = .ok (.invokevirtual 104, 3) := by decide +kernel
theorem dX4_numberOfAll_183 : decode cX4_numberOfAll 183 = .ok (.ireturn, 1) := by decide +kernel
theorem dX4_millOfRank_0 : decode cX4_millOfRank 0 = .ok (.iload_n 1, 1) := by decide +kernel
theorem dX4_millOfRank_1 : decode cX4_millOfRank 1 = .ok (.iconst 5, 1) := by decide +kernel
theorem dX4_millOfRank_2 : decode cX4_millOfRank 2 = .ok (.if_icmp .lt 5, 3) := by decide +kernel
theorem dX4_millOfRank_5 : decode cX4_millOfRank 5 = .ok (.iconst (-1), 1) := by decide +kernel
theorem dX4_millOfRank_6 : decode cX4_millOfRank 6 = .ok (.ireturn, 1) := by decide +kernel
theorem dX4_millOfRank_7 : decode cX4_millOfRank 7 = .ok (.aload_n 0, 1) := by decide +kernel
theorem dX4_millOfRank_8 : decode cX4_millOfRank 8 = .ok (.getfield 10, 3) := by decide +kernel
theorem dX4_millOfRank_11 : decode cX4_millOfRank 11 = .ok (.aconst_null, 1) := by decide +kernel
theorem dX4_millOfRank_12 : decode cX4_millOfRank 12 = .ok (.invokevirtual 317, 3) := by decide +kernel
theorem dX4_millOfRank_15 : decode cX4_millOfRank 15 = .ok (.astore_n 2, 1) := by decide +kernel
theorem dX4_millOfRank_16 : decode cX4_millOfRank 16 = .ok (.iconst 0, 1) := by decide +kernel
theorem dX4_millOfRank_17 : decode cX4_millOfRank 17 = .ok (.istore_n 3, 1) := by decide +kernel
theorem dX4_millOfRank_18 : decode cX4_millOfRank 18 = .ok (.iload_n 3, 1) := by decide +kernel
theorem dX4_millOfRank_19 : decode cX4_millOfRank 19 = .ok (.iload_n 1, 1) := by decide +kernel
theorem dX4_millOfRank_20 : decode cX4_millOfRank 20 = .ok (.if_icmp .ge 22, 3) := by decide +kernel
theorem dX4_millOfRank_23 : decode cX4_millOfRank 23 = .ok (.aload_n 2, 1) := by decide +kernel
theorem dX4_millOfRank_24 : decode cX4_millOfRank 24 = .ok (.ifnull 18, 3) := by decide +kernel
theorem dX4_millOfRank_27 : decode cX4_millOfRank 27 = .ok (.aload_n 0, 1) := by decide +kernel
theorem dX4_millOfRank_28 : decode cX4_millOfRank 28 = .ok (.getfield 10, 3) := by decide +kernel
theorem dX4_millOfRank_31 : decode cX4_millOfRank 31 = .ok (.aload_n 2, 1) := by decide +kernel
theorem dX4_millOfRank_32 : decode cX4_millOfRank 32 = .ok (.invokevirtual 317, 3) := by decide +kernel
theorem dX4_millOfRank_35 : decode cX4_millOfRank 35 = .ok (.astore_n 2, 1) := by decide +kernel
theorem dX4_millOfRank_36 : decode cX4_millOfRank 36 = .ok (.iinc 3 1, 3) := by decide +kernel
theorem dX4_millOfRank_39 : decode cX4_millOfRank 39 = .ok (.goto (-21), 3) := by decide +kernel
theorem dX4_millOfRank_42 : decode cX4_millOfRank 42 = .ok (.aload_n 2, 1) := by decide +kernel
theorem dX4_millOfRank_43 : decode cX4_millOfRank 43 = .ok (.invokestatic 220, 3) := by decide +kernel
theorem dX4_millOfRank_46 : decode cX4_millOfRank 46 = .ok (.ireturn, 1) := by decide +kernel
theorem dX4_foreseen_0 : decode cX4_foreseen 0 = .ok (.aload_n 0, 1) := by decide +kernel
theorem dX4_foreseen_1 : decode cX4_foreseen 1 = .ok (.getfield 16, 3) := by decide +kernel
theorem dX4_foreseen_4 : decode cX4_foreseen 4 = .ok (.aload_n 0, 1) := by decide +kernel
theorem dX4_foreseen_5 : decode cX4_foreseen 5 = .ok (.getfield 10, 3) := by decide +kernel
theorem dX4_foreseen_8 : decode cX4_foreseen 8 = .ok (.invokevirtual 181, 3) := by decide +kernel
theorem dX4_foreseen_11 : decode cX4_foreseen 11 = .ok (.aload_n 0, 1) := by decide +kernel
theorem dX4_foreseen_12 : decode cX4_foreseen 12 = .ok (.getfield 16, 3) := by decide +kernel
theorem dX4_foreseen_15 : decode cX4_foreseen 15 = .ok (.iload_n 1, 1) := by decide +kernel
theorem dX4_foreseen_16 : decode cX4_foreseen 16 = .ok (.invokevirtual 114, 3) := by decide +kernel
theorem dX4_foreseen_19 : decode cX4_foreseen 19 = .ok (.iload_n 2, 1) := by decide +kernel
theorem dX4_foreseen_20 : decode cX4_foreseen 20 = .ok (.tableswitch 76 0 2 #[28, 44, 60], 28) := by decide +kernel
theorem dX4_foreseen_48 : decode cX4_foreseen 48 = .ok (.aload_n 0, 1) := by decide +kernel
theorem dX4_foreseen_49 : decode cX4_foreseen 49 = .ok (.getfield 16, 3) := by decide +kernel
theorem dX4_foreseen_52 : decode cX4_foreseen 52 = .ok (.getfield 111, 3) := by decide +kernel
theorem dX4_foreseen_55 : decode cX4_foreseen 55 = .ok (.aload_n 0, 1) := by decide +kernel
theorem dX4_foreseen_56 : decode cX4_foreseen 56 = .ok (.getfield 10, 3) := by decide +kernel
theorem dX4_foreseen_59 : decode cX4_foreseen 59 = .ok (.getfield 111, 3) := by decide +kernel
theorem dX4_foreseen_62 : decode cX4_foreseen 62 = .ok (.isub, 1) := by decide +kernel
theorem dX4_foreseen_63 : decode cX4_foreseen 63 = .ok (.ireturn, 1) := by decide +kernel
theorem dX4_foreseen_64 : decode cX4_foreseen 64 = .ok (.aload_n 0, 1) := by decide +kernel
theorem dX4_foreseen_65 : decode cX4_foreseen 65 = .ok (.getfield 16, 3) := by decide +kernel
theorem dX4_foreseen_68 : decode cX4_foreseen 68 = .ok (.getfield 314, 3) := by decide +kernel
theorem dX4_foreseen_71 : decode cX4_foreseen 71 = .ok (.aload_n 0, 1) := by decide +kernel
theorem dX4_foreseen_72 : decode cX4_foreseen 72 = .ok (.getfield 10, 3) := by decide +kernel
theorem dX4_foreseen_75 : decode cX4_foreseen 75 = .ok (.getfield 314, 3) := by decide +kernel
theorem dX4_foreseen_78 : decode cX4_foreseen 78 = .ok (.isub, 1) := by decide +kernel
theorem dX4_foreseen_79 : decode cX4_foreseen 79 = .ok (.ireturn, 1) := by decide +kernel
theorem dX4_foreseen_80 : decode cX4_foreseen 80 = .ok (.aload_n 0, 1) := by decide +kernel
theorem dX4_foreseen_81 : decode cX4_foreseen 81 = .ok (.getfield 16, 3) := by decide +kernel
theorem dX4_foreseen_84 : decode cX4_foreseen 84 = .ok (.getfield 296, 3) := by decide +kernel
theorem dX4_foreseen_87 : decode cX4_foreseen 87 = .ok (.aload_n 0, 1) := by decide +kernel
theorem dX4_foreseen_88 : decode cX4_foreseen 88 = .ok (.getfield 10, 3) := by decide +kernel
theorem dX4_foreseen_91 : decode cX4_foreseen 91 = .ok (.getfield 296, 3) := by decide +kernel
theorem dX4_foreseen_94 : decode cX4_foreseen 94 = .ok (.isub, 1) := by decide +kernel
theorem dX4_foreseen_95 : decode cX4_foreseen 95 = .ok (.ireturn, 1) := by decide +kernel
theorem dX4_foreseen_96 : decode cX4_foreseen 96 = .ok (.aload_n 0, 1) := by decide +kernel
theorem dX4_foreseen_97 : decode cX4_foreseen 97 = .ok (.getfield 16, 3) := by decide +kernel
theorem dX4_foreseen_100 : decode cX4_foreseen 100 = .ok (.getfield 302, 3) := by decide +kernel
theorem dX4_foreseen_103 : decode cX4_foreseen 103 = .ok (.aload_n 0, 1) := by decide +kernel
theorem dX4_foreseen_104 : decode cX4_foreseen 104 = .ok (.getfield 10, 3) := by decide +kernel
theorem dX4_foreseen_107 : decode cX4_foreseen 107 = .ok (.getfield 302, 3) := by decide +kernel
theorem dX4_foreseen_110 : decode cX4_foreseen 110 = .ok (.isub, 1) := by decide +kernel
theorem dX4_foreseen_111 : decode cX4_foreseen 111 = .ok (.ireturn, 1) := by decide +kernel
theorem dX4_hoursToGround_0 : decode cX4_hoursToGround 0 = .ok (.aload_n 0, 1) := by decide +kernel
theorem dX4_hoursToGround_1 : decode cX4_hoursToGround 1 = .ok (.getfield 16, 3) := by decide +kernel
theorem dX4_hoursToGround_4 : decode cX4_hoursToGround 4 = .ok (.aload_n 0, 1) := by decide +kernel
theorem dX4_hoursToGround_5 : decode cX4_hoursToGround 5 = .ok (.getfield 10, 3) := by decide +kernel
theorem dX4_hoursToGround_8 : decode cX4_hoursToGround 8 = .ok (.invokevirtual 181, 3) := by decide +kernel
theorem dX4_hoursToGround_11 : decode cX4_hoursToGround 11 = .ok (.aload_n 0, 1) := by decide +kernel
theorem dX4_hoursToGround_12 : decode cX4_hoursToGround 12 = .ok (.getfield 16, 3) := by decide +kernel
theorem dX4_hoursToGround_15 : decode cX4_hoursToGround 15 = .ok (.iload_n 1, 1) := by decide +kernel
theorem dX4_hoursToGround_16 : decode cX4_hoursToGround 16 = .ok (.invokevirtual 197, 3) := by decide +kernel
theorem dX4_hoursToGround_19 : decode cX4_hoursToGround 19 = .ok (.astore_n 2, 1) := by decide +kernel
theorem dX4_hoursToGround_20 : decode cX4_hoursToGround 20 = .ok (.aload_n 2, 1) := by decide +kernel
theorem dX4_hoursToGround_21 : decode cX4_hoursToGround 21 = .ok (.ifnonnull 5, 3) := by decide +kernel
theorem dX4_hoursToGround_24 : decode cX4_hoursToGround 24 = .ok (.iconst (-1), 1) := by decide +kernel
theorem dX4_hoursToGround_25 : decode cX4_hoursToGround 25 = .ok (.ireturn, 1) := by decide +kernel
theorem dX4_hoursToGround_26 : decode cX4_hoursToGround 26 = .ok (.iconst 1, 1) := by decide +kernel
theorem dX4_hoursToGround_27 : decode cX4_hoursToGround 27 = .ok (.istore_n 3, 1) := by decide +kernel
theorem dX4_hoursToGround_28 : decode cX4_hoursToGround 28 = .ok (.iload_n 3, 1) := by decide +kernel
theorem dX4_hoursToGround_29 : decode cX4_hoursToGround 29 = .ok (.sipush 200, 3) := by decide +kernel
theorem dX4_hoursToGround_32 : decode cX4_hoursToGround 32 = .ok (.if_icmp .gt 28, 3) := by decide +kernel
theorem dX4_hoursToGround_35 : decode cX4_hoursToGround 35 = .ok (.aload_n 0, 1) := by decide +kernel
theorem dX4_hoursToGround_36 : decode cX4_hoursToGround 36 = .ok (.getfield 16, 3) := by decide +kernel
theorem dX4_hoursToGround_39 : decode cX4_hoursToGround 39 = .ok (.iconst 1, 1) := by decide +kernel
theorem dX4_hoursToGround_40 : decode cX4_hoursToGround 40 = .ok (.invokevirtual 114, 3) := by decide +kernel
theorem dX4_hoursToGround_43 : decode cX4_hoursToGround 43 = .ok (.aload_n 2, 1) := by decide +kernel
theorem dX4_hoursToGround_44 : decode cX4_hoursToGround 44 = .ok (.iload_n 1, 1) := by decide +kernel
theorem dX4_hoursToGround_45 : decode cX4_hoursToGround 45 = .ok (.invokevirtual 132, 3) := by decide +kernel
theorem dX4_hoursToGround_48 : decode cX4_hoursToGround 48 = .ok (.iconst (-1), 1) := by decide +kernel
theorem dX4_hoursToGround_49 : decode cX4_hoursToGround 49 = .ok (.if_icmp .ne 5, 3) := by decide +kernel
theorem dX4_hoursToGround_52 : decode cX4_hoursToGround 52 = .ok (.iload_n 3, 1) := by decide +kernel
theorem dX4_hoursToGround_53 : decode cX4_hoursToGround 53 = .ok (.ireturn, 1) := by decide +kernel
theorem dX4_hoursToGround_54 : decode cX4_hoursToGround 54 = .ok (.iinc 3 1, 3) := by decide +kernel
theorem dX4_hoursToGround_57 : decode cX4_hoursToGround 57 = .ok (.goto (-29), 3) := by decide +kernel
theorem dX4_hoursToGround_60 : decode cX4_hoursToGround 60 = .ok (.iconst (-1), 1) := by decide +kernel
theorem dX4_hoursToGround_61 : decode cX4_hoursToGround 61 = .ok (.ireturn, 1) := by decide +kernel
theorem dX4_stoneThatGrindsMost_0 : decode cX4_stoneThatGrindsMost 0 = .ok (.aload_n 1, 1) := by decide +kernel
theorem dX4_stoneThatGrindsMost_1 : decode cX4_stoneThatGrindsMost 1 = .ok (.getfield 129, 3) := by decide +kernel
theorem dX4_stoneThatGrindsMost_4 : decode cX4_stoneThatGrindsMost 4 = .ok (.ifCond .ne 6, 3) := by decide +kernel
theorem dX4_stoneThatGrindsMost_7 : decode cX4_stoneThatGrindsMost 7 = .ok (.bipush 60, 2) := by decide +kernel
theorem dX4_stoneThatGrindsMost_9 : decode cX4_stoneThatGrindsMost 9 = .ok (.ireturn, 1) := by decide +kernel
theorem dX4_stoneThatGrindsMost_10 : decode cX4_stoneThatGrindsMost 10 = .ok (.bipush 60, 2) := by decide +kernel
theorem dX4_stoneThatGrindsMost_12 : decode cX4_stoneThatGrindsMost 12 = .ok (.istore_n 2, 1) := by decide +kernel
theorem dX4_stoneThatGrindsMost_13 : decode cX4_stoneThatGrindsMost 13 = .ok (.iconst (-1), 1) := by decide +kernel
theorem dX4_stoneThatGrindsMost_14 : decode cX4_stoneThatGrindsMost 14 = .ok (.istore_n 3, 1) := by decide +kernel
theorem dX4_stoneThatGrindsMost_15 : decode cX4_stoneThatGrindsMost 15 = .ok (.aload_n 0, 1) := by decide +kernel
theorem dX4_stoneThatGrindsMost_16 : decode cX4_stoneThatGrindsMost 16 = .ok (.getfield 10, 3) := by decide +kernel
theorem dX4_stoneThatGrindsMost_19 : decode cX4_stoneThatGrindsMost 19 = .ok (.invokevirtual 321, 3) := by decide +kernel
theorem dX4_stoneThatGrindsMost_22 : decode cX4_stoneThatGrindsMost 22 = .ok (.istore 4, 2) := by decide +kernel
theorem dX4_stoneThatGrindsMost_24 : decode cX4_stoneThatGrindsMost 24 = .ok (.bipush 60, 2) := by decide +kernel
theorem dX4_stoneThatGrindsMost_26 : decode cX4_stoneThatGrindsMost 26 = .ok (.istore 5, 2) := by decide +kernel
theorem dX4_stoneThatGrindsMost_28 : decode cX4_stoneThatGrindsMost 28 = .ok (.iload 5, 2) := by decide +kernel
theorem dX4_stoneThatGrindsMost_30 : decode cX4_stoneThatGrindsMost 30 = .ok (.bipush 8, 2) := by decide +kernel
theorem dX4_stoneThatGrindsMost_32 : decode cX4_stoneThatGrindsMost 32 = .ok (.if_icmp .lt 66, 3) := by decide +kernel
theorem dX4_stoneThatGrindsMost_35 : decode cX4_stoneThatGrindsMost 35 = .ok (.aload_n 0, 1) := by decide +kernel
theorem dX4_stoneThatGrindsMost_36 : decode cX4_stoneThatGrindsMost 36 = .ok (.getfield 16, 3) := by decide +kernel
theorem dX4_stoneThatGrindsMost_39 : decode cX4_stoneThatGrindsMost 39 = .ok (.aload_n 0, 1) := by decide +kernel
theorem dX4_stoneThatGrindsMost_40 : decode cX4_stoneThatGrindsMost 40 = .ok (.getfield 10, 3) := by decide +kernel
theorem dX4_stoneThatGrindsMost_43 : decode cX4_stoneThatGrindsMost 43 = .ok (.invokevirtual 181, 3) := by decide +kernel
theorem dX4_stoneThatGrindsMost_46 : decode cX4_stoneThatGrindsMost 46 = .ok (.aload_n 0, 1) := by decide +kernel
theorem dX4_stoneThatGrindsMost_47 : decode cX4_stoneThatGrindsMost 47 = .ok (.getfield 16, 3) := by decide +kernel
theorem dX4_stoneThatGrindsMost_50 : decode cX4_stoneThatGrindsMost 50 = .ok (.aload_n 1, 1) := by decide +kernel
theorem dX4_stoneThatGrindsMost_51 : decode cX4_stoneThatGrindsMost 51 = .ok (.getfield 269, 3) := by decide +kernel
theorem dX4_stoneThatGrindsMost_54 : decode cX4_stoneThatGrindsMost 54 = .ok (.iload 5, 2) := by decide +kernel
theorem dX4_stoneThatGrindsMost_56 : decode cX4_stoneThatGrindsMost 56 = .ok (.invokevirtual 324, 3) := by decide +kernel
theorem dX4_stoneThatGrindsMost_59 : decode cX4_stoneThatGrindsMost 59 = .ok (.aload_n 0, 1) := by decide +kernel
theorem dX4_stoneThatGrindsMost_60 : decode cX4_stoneThatGrindsMost 60 = .ok (.getfield 16, 3) := by decide +kernel
theorem dX4_stoneThatGrindsMost_63 : decode cX4_stoneThatGrindsMost 63 = .ok (.bipush 24, 2) := by decide +kernel
theorem dX4_stoneThatGrindsMost_65 : decode cX4_stoneThatGrindsMost 65 = .ok (.invokevirtual 114, 3) := by decide +kernel
theorem dX4_stoneThatGrindsMost_68 : decode cX4_stoneThatGrindsMost 68 = .ok (.iload 4, 2) := by decide +kernel
theorem dX4_stoneThatGrindsMost_70 : decode cX4_stoneThatGrindsMost 70 = .ok (.aload_n 0, 1) := by decide +kernel
theorem dX4_stoneThatGrindsMost_71 : decode cX4_stoneThatGrindsMost 71 = .ok (.getfield 16, 3) := by decide +kernel
theorem dX4_stoneThatGrindsMost_74 : decode cX4_stoneThatGrindsMost 74 = .ok (.invokevirtual 321, 3) := by decide +kernel
theorem dX4_stoneThatGrindsMost_77 : decode cX4_stoneThatGrindsMost 77 = .ok (.isub, 1) := by decide +kernel
theorem dX4_stoneThatGrindsMost_78 : decode cX4_stoneThatGrindsMost 78 = .ok (.istore 6, 2) := by decide +kernel
theorem dX4_stoneThatGrindsMost_80 : decode cX4_stoneThatGrindsMost 80 = .ok (.iload 6, 2) := by decide +kernel
theorem dX4_stoneThatGrindsMost_82 : decode cX4_stoneThatGrindsMost 82 = .ok (.iload_n 3, 1) := by decide +kernel
theorem dX4_stoneThatGrindsMost_83 : decode cX4_stoneThatGrindsMost 83 = .ok (.if_icmp .le 9, 3) := by decide +kernel
theorem dX4_stoneThatGrindsMost_86 : decode cX4_stoneThatGrindsMost 86 = .ok (.iload 6, 2) := by decide +kernel
theorem dX4_stoneThatGrindsMost_88 : decode cX4_stoneThatGrindsMost 88 = .ok (.istore_n 3, 1) := by decide +kernel
theorem dX4_stoneThatGrindsMost_89 : decode cX4_stoneThatGrindsMost 89 = .ok (.iload 5, 2) := by decide +kernel
theorem dX4_stoneThatGrindsMost_91 : decode cX4_stoneThatGrindsMost 91 = .ok (.istore_n 2, 1) := by decide +kernel
theorem dX4_stoneThatGrindsMost_92 : decode cX4_stoneThatGrindsMost 92 = .ok (.iinc 5 (-4), 3) := by decide +kernel
theorem dX4_stoneThatGrindsMost_95 : decode cX4_stoneThatGrindsMost 95 = .ok (.goto (-67), 3) := by decide +kernel
theorem dX4_stoneThatGrindsMost_98 : decode cX4_stoneThatGrindsMost 98 = .ok (.iload_n 2, 1) := by decide +kernel
theorem dX4_stoneThatGrindsMost_99 : decode cX4_stoneThatGrindsMost 99 = .ok (.ireturn, 1) := by decide +kernel
theorem dX4_shareInTime_0 : decode cX4_shareInTime 0 = .ok (.aload_n 0, 1) := by decide +kernel
theorem dX4_shareInTime_1 : decode cX4_shareInTime 1 = .ok (.getfield 10, 3) := by decide +kernel
theorem dX4_shareInTime_4 : decode cX4_shareInTime 4 = .ok (.getfield 111, 3) := by decide +kernel
theorem dX4_shareInTime_7 : decode cX4_shareInTime 7 = .ok (.istore_n 1, 1) := by decide +kernel
theorem dX4_shareInTime_8 : decode cX4_shareInTime 8 = .ok (.iload_n 1, 1) := by decide +kernel
theorem dX4_shareInTime_9 : decode cX4_shareInTime 9 = .ok (.ifCond .gt 5, 3) := by decide +kernel
theorem dX4_shareInTime_12 : decode cX4_shareInTime 12 = .ok (.dconst 1, 1) := by decide +kernel
theorem dX4_shareInTime_13 : decode cX4_shareInTime 13 = .ok (.dreturn, 1) := by decide +kernel
theorem dX4_shareInTime_14 : decode cX4_shareInTime 14 = .ok (.iload_n 1, 1) := by decide +kernel
theorem dX4_shareInTime_15 : decode cX4_shareInTime 15 = .ok (.aload_n 0, 1) := by decide +kernel
theorem dX4_shareInTime_16 : decode cX4_shareInTime 16 = .ok (.getfield 10, 3) := by decide +kernel
theorem dX4_shareInTime_19 : decode cX4_shareInTime 19 = .ok (.getfield 314, 3) := by decide +kernel
theorem dX4_shareInTime_22 : decode cX4_shareInTime 22 = .ok (.isub, 1) := by decide +kernel
theorem dX4_shareInTime_23 : decode cX4_shareInTime 23 = .ok (.i2d, 1) := by decide +kernel
theorem dX4_shareInTime_24 : decode cX4_shareInTime 24 = .ok (.iload_n 1, 1) := by decide +kernel
theorem dX4_shareInTime_25 : decode cX4_shareInTime 25 = .ok (.i2d, 1) := by decide +kernel
theorem dX4_shareInTime_26 : decode cX4_shareInTime 26 = .ok (.ddiv, 1) := by decide +kernel
theorem dX4_shareInTime_27 : decode cX4_shareInTime 27 = .ok (.dreturn, 1) := by decide +kernel
theorem dX4_withMill_0 : decode cX4_withMill 0 = .ok (.lload_n 1, 1) := by decide +kernel
theorem dX4_withMill_1 : decode cX4_withMill 1 = .ok (.lstore 4, 2) := by decide +kernel
theorem dX4_withMill_3 : decode cX4_withMill 3 = .ok (.iconst 0, 1) := by decide +kernel
theorem dX4_withMill_4 : decode cX4_withMill 4 = .ok (.istore 6, 2) := by decide +kernel
theorem dX4_withMill_6 : decode cX4_withMill 6 = .ok (.iload 6, 2) := by decide +kernel
theorem dX4_withMill_8 : decode cX4_withMill 8 = .ok (.bipush 10, 2) := by decide +kernel
theorem dX4_withMill_10 : decode cX4_withMill 10 = .ok (.if_icmp .gt 26, 3) := by decide +kernel
theorem dX4_withMill_13 : decode cX4_withMill 13 = .ok (.ldc2_w 239, 3) := by decide +kernel
theorem dX4_withMill_16 : decode cX4_withMill 16 = .ok (.lload 4, 2) := by decide +kernel
theorem dX4_withMill_18 : decode cX4_withMill 18 = .ok (.lmul, 1) := by decide +kernel
theorem dX4_withMill_19 : decode cX4_withMill 19 = .ok (.aload_n 0, 1) := by decide +kernel
theorem dX4_withMill_20 : decode cX4_withMill 20 = .ok (.aload_n 3, 1) := by decide +kernel
theorem dX4_withMill_21 : decode cX4_withMill 21 = .ok (.iload 6, 2) := by decide +kernel
theorem dX4_withMill_23 : decode cX4_withMill 23 = .ok (.invokevirtual 187, 3) := by decide +kernel
theorem dX4_withMill_26 : decode cX4_withMill 26 = .ok (.i2l, 1) := by decide +kernel
theorem dX4_withMill_27 : decode cX4_withMill 27 = .ok (.ladd, 1) := by decide +kernel
theorem dX4_withMill_28 : decode cX4_withMill 28 = .ok (.lstore 4, 2) := by decide +kernel
theorem dX4_withMill_30 : decode cX4_withMill 30 = .ok (.iinc 6 1, 3) := by decide +kernel
theorem dX4_withMill_33 : decode cX4_withMill 33 = .ok (.goto (-27), 3) := by decide +kernel
theorem dX4_withMill_36 : decode cX4_withMill 36 = .ok (.ldc2_w 239, 3) := by decide +kernel
theorem dX4_withMill_39 : decode cX4_withMill 39 = .ok (.lload 4, 2) := by decide +kernel
theorem dX4_withMill_41 : decode cX4_withMill 41 = .ok (.lmul, 1) := by decide +kernel
theorem dX4_withMill_42 : decode cX4_withMill 42 = .ok (.aload_n 0, 1) := by decide +kernel
theorem dX4_withMill_43 : decode cX4_withMill 43 = .ok (.getfield 10, 3) := by decide +kernel
theorem dX4_withMill_46 : decode cX4_withMill 46 = .ok (.aload_n 3, 1) := by decide +kernel
theorem dX4_withMill_47 : decode cX4_withMill 47 = .ok (.invokevirtual 203, 3) := by decide +kernel
theorem dX4_withMill_50 : decode cX4_withMill 50 = .ok (.i2l, 1) := by decide +kernel
theorem dX4_withMill_51 : decode cX4_withMill 51 = .ok (.ladd, 1) := by decide +kernel
theorem dX4_withMill_52 : decode cX4_withMill 52 = .ok (.lstore 4, 2) := by decide +kernel
theorem dX4_withMill_54 : decode cX4_withMill 54 = .ok (.iconst 0, 1) := by decide +kernel
theorem dX4_withMill_55 : decode cX4_withMill 55 = .ok (.istore 6, 2) := by decide +kernel
theorem dX4_withMill_57 : decode cX4_withMill 57 = .ok (.iload 6, 2) := by decide +kernel
theorem dX4_withMill_59 : decode cX4_withMill 59 = .ok (.aload_n 3, 1) := by decide +kernel
theorem dX4_withMill_60 : decode cX4_withMill 60 = .ok (.getfield 129, 3) := by decide +kernel
theorem dX4_withMill_63 : decode cX4_withMill 63 = .ok (.if_icmp .ge 41, 3) := by decide +kernel
theorem dX4_withMill_66 : decode cX4_withMill 66 = .ok (.ldc2_w 239, 3) := by decide +kernel
theorem dX4_withMill_69 : decode cX4_withMill 69 = .ok (.lload 4, 2) := by decide +kernel
theorem dX4_withMill_71 : decode cX4_withMill 71 = .ok (.lmul, 1) := by decide +kernel
theorem dX4_withMill_72 : decode cX4_withMill 72 = .ok (.aload_n 3, 1) := by decide +kernel
theorem dX4_withMill_73 : decode cX4_withMill 73 = .ok (.iload 6, 2) := by decide +kernel
theorem dX4_withMill_75 : decode cX4_withMill 75 = .ok (.invokevirtual 194, 3) := by decide +kernel
theorem dX4_withMill_78 : decode cX4_withMill 78 = .ok (.i2l, 1) := by decide +kernel
theorem dX4_withMill_79 : decode cX4_withMill 79 = .ok (.ladd, 1) := by decide +kernel
theorem dX4_withMill_80 : decode cX4_withMill 80 = .ok (.lstore 4, 2) := by decide +kernel
theorem dX4_withMill_82 : decode cX4_withMill 82 = .ok (.ldc2_w 239, 3) := by decide +kernel
theorem dX4_withMill_85 : decode cX4_withMill 85 = .ok (.lload 4, 2) := by decide +kernel
theorem dX4_withMill_87 : decode cX4_withMill 87 = .ok (.lmul, 1) := by decide +kernel
theorem dX4_withMill_88 : decode cX4_withMill 88 = .ok (.aload_n 3, 1) := by decide +kernel
theorem dX4_withMill_89 : decode cX4_withMill 89 = .ok (.iload 6, 2) := by decide +kernel
theorem dX4_withMill_91 : decode cX4_withMill 91 = .ok (.invokevirtual 138, 3) := by decide +kernel
theorem dX4_withMill_94 : decode cX4_withMill 94 = .ok (.i2l, 1) := by decide +kernel
theorem dX4_withMill_95 : decode cX4_withMill 95 = .ok (.ladd, 1) := by decide +kernel
theorem dX4_withMill_96 : decode cX4_withMill 96 = .ok (.lstore 4, 2) := by decide +kernel
theorem dX4_withMill_98 : decode cX4_withMill 98 = .ok (.iinc 6 1, 3) := by decide +kernel
theorem dX4_withMill_101 : decode cX4_withMill 101 = .ok (.goto (-44), 3) := by decide +kernel
theorem dX4_withMill_104 : decode cX4_withMill 104 = .ok (.aload_n 3, 1) := by decide +kernel
theorem dX4_withMill_105 : decode cX4_withMill 105 = .ok (.iconst 0, 1) := by decide +kernel
theorem dX4_withMill_106 : decode cX4_withMill 106 = .ok (.invokevirtual 194, 3) := by decide +kernel
theorem dX4_withMill_109 : decode cX4_withMill 109 = .ok (.istore 6, 2) := by decide +kernel
theorem dX4_withMill_111 : decode cX4_withMill 111 = .ok (.ldc2_w 239, 3) := by decide +kernel
theorem dX4_withMill_114 : decode cX4_withMill 114 = .ok (.lload 4, 2) := by decide +kernel
theorem dX4_withMill_116 : decode cX4_withMill 116 = .ok (.lmul, 1) := by decide +kernel
theorem dX4_withMill_117 : decode cX4_withMill 117 = .ok (.iload 6, 2) := by decide +kernel
theorem dX4_withMill_119 : decode cX4_withMill 119 = .ok (.iconst (-1), 1) := by decide +kernel
theorem dX4_withMill_120 : decode cX4_withMill 120 = .ok (.if_icmp .ne 7, 3) := by decide +kernel
theorem dX4_withMill_123 : decode cX4_withMill 123 = .ok (.iconst (-1), 1) := by decide +kernel
theorem dX4_withMill_124 : decode cX4_withMill 124 = .ok (.goto 9, 3) := by decide +kernel
theorem dX4_withMill_127 : decode cX4_withMill 127 = .ok (.aload_n 0, 1) := by decide +kernel
theorem dX4_withMill_128 : decode cX4_withMill 128 = .ok (.iload 6, 2) := by decide +kernel
theorem dX4_withMill_130 : decode cX4_withMill 130 = .ok (.invokevirtual 227, 3) := by decide +kernel
theorem dX4_withMill_133 : decode cX4_withMill 133 = .ok (.i2l, 1) := by decide +kernel
theorem dX4_withMill_134 : decode cX4_withMill 134 = .ok (.ladd, 1) := by decide +kernel
theorem dX4_withMill_135 : decode cX4_withMill 135 = .ok (.lstore 4, 2) := by decide +kernel
theorem dX4_withMill_137 : decode cX4_withMill 137 = .ok (.ldc2_w 239, 3) := by decide +kernel
theorem dX4_withMill_140 : decode cX4_withMill 140 = .ok (.lload 4, 2) := by decide +kernel
theorem dX4_withMill_142 : decode cX4_withMill 142 = .ok (.lmul, 1) := by decide +kernel
theorem dX4_withMill_143 : decode cX4_withMill 143 = .ok (.aload_n 0, 1) := by decide +kernel
theorem dX4_withMill_144 : decode cX4_withMill 144 = .ok (.aload_n 3, 1) := by decide +kernel
theorem dX4_withMill_145 : decode cX4_withMill 145 = .ok (.invokevirtual 230, 3) := by decide +kernel
theorem dX4_withMill_148 : decode cX4_withMill 148 = .ok (.i2l, 1) := by decide +kernel
theorem dX4_withMill_149 : decode cX4_withMill 149 = .ok (.ladd, 1) := by decide +kernel
theorem dX4_withMill_150 : decode cX4_withMill 150 = .ok (.lreturn, 1) := by decide +kernel
theorem dX4_bitsOfShare_0 : decode cX4_bitsOfShare 0 = .ok (.dload_n 0, 1) := by decide +kernel
theorem dX4_bitsOfShare_1 : decode cX4_bitsOfShare 1 = .ok (.dconst 0, 1) := by decide +kernel
theorem dX4_bitsOfShare_2 : decode cX4_bitsOfShare 2 = .ok (.dcmp .g, 1) := by decide +kernel
theorem dX4_bitsOfShare_3 : decode cX4_bitsOfShare 3 = .ok (.ifCond .gt 5, 3) := by decide +kernel
theorem dX4_bitsOfShare_6 : decode cX4_bitsOfShare 6 = .ok (.lconst 0, 1) := by decide +kernel
theorem dX4_bitsOfShare_7 : decode cX4_bitsOfShare 7 = .ok (.lreturn, 1) := by decide +kernel
theorem dX4_bitsOfShare_8 : decode cX4_bitsOfShare 8 = .ok (.dload_n 0, 1) := by decide +kernel
theorem dX4_bitsOfShare_9 : decode cX4_bitsOfShare 9 = .ok (.dstore_n 2, 1) := by decide +kernel
theorem dX4_bitsOfShare_10 : decode cX4_bitsOfShare 10 = .ok (.ldc2_w 327, 3) := by decide +kernel
theorem dX4_bitsOfShare_13 : decode cX4_bitsOfShare 13 = .ok (.lstore 4, 2) := by decide +kernel
theorem dX4_bitsOfShare_15 : decode cX4_bitsOfShare 15 = .ok (.iconst 0, 1) := by decide +kernel
theorem dX4_bitsOfShare_16 : decode cX4_bitsOfShare 16 = .ok (.istore 6, 2) := by decide +kernel
theorem dX4_bitsOfShare_18 : decode cX4_bitsOfShare 18 = .ok (.iload 6, 2) := by decide +kernel
theorem dX4_bitsOfShare_20 : decode cX4_bitsOfShare 20 = .ok (.sipush 1022, 3) := by decide +kernel
theorem dX4_bitsOfShare_23 : decode cX4_bitsOfShare 23 = .ok (.if_icmp .ge 27, 3) := by decide +kernel
theorem dX4_bitsOfShare_26 : decode cX4_bitsOfShare 26 = .ok (.dload_n 2, 1) := by decide +kernel
theorem dX4_bitsOfShare_27 : decode cX4_bitsOfShare 27 = .ok (.dconst 1, 1) := by decide +kernel
theorem dX4_bitsOfShare_28 : decode cX4_bitsOfShare 28 = .ok (.dcmp .g, 1) := by decide +kernel
theorem dX4_bitsOfShare_29 : decode cX4_bitsOfShare 29 = .ok (.ifCond .ge 21, 3) := by decide +kernel
theorem dX4_bitsOfShare_32 : decode cX4_bitsOfShare 32 = .ok (.dload_n 2, 1) := by decide +kernel
theorem dX4_bitsOfShare_33 : decode cX4_bitsOfShare 33 = .ok (.ldc2_w 329, 3) := by decide +kernel
theorem dX4_bitsOfShare_36 : decode cX4_bitsOfShare 36 = .ok (.dmul, 1) := by decide +kernel
theorem dX4_bitsOfShare_37 : decode cX4_bitsOfShare 37 = .ok (.dstore_n 2, 1) := by decide +kernel
theorem dX4_bitsOfShare_38 : decode cX4_bitsOfShare 38 = .ok (.lload 4, 2) := by decide +kernel
theorem dX4_bitsOfShare_40 : decode cX4_bitsOfShare 40 = .ok (.lconst 1, 1) := by decide +kernel
theorem dX4_bitsOfShare_41 : decode cX4_bitsOfShare 41 = .ok (.lsub, 1) := by decide +kernel
theorem dX4_bitsOfShare_42 : decode cX4_bitsOfShare 42 = .ok (.lstore 4, 2) := by decide +kernel
theorem dX4_bitsOfShare_44 : decode cX4_bitsOfShare 44 = .ok (.iinc 6 1, 3) := by decide +kernel
theorem dX4_bitsOfShare_47 : decode cX4_bitsOfShare 47 = .ok (.goto (-29), 3) := by decide +kernel
theorem dX4_bitsOfShare_50 : decode cX4_bitsOfShare 50 = .ok (.dload_n 2, 1) := by decide +kernel
theorem dX4_bitsOfShare_51 : decode cX4_bitsOfShare 51 = .ok (.dconst 1, 1) := by decide +kernel
theorem dX4_bitsOfShare_52 : decode cX4_bitsOfShare 52 = .ok (.dsub, 1) := by decide +kernel
theorem dX4_bitsOfShare_53 : decode cX4_bitsOfShare 53 = .ok (.ldc2_w 331, 3) := by decide +kernel
theorem dX4_bitsOfShare_56 : decode cX4_bitsOfShare 56 = .ok (.dmul, 1) := by decide +kernel
theorem dX4_bitsOfShare_57 : decode cX4_bitsOfShare 57 = .ok (.d2l, 1) := by decide +kernel
theorem dX4_bitsOfShare_58 : decode cX4_bitsOfShare 58 = .ok (.lstore 6, 2) := by decide +kernel
theorem dX4_bitsOfShare_60 : decode cX4_bitsOfShare 60 = .ok (.lload 4, 2) := by decide +kernel
theorem dX4_bitsOfShare_62 : decode cX4_bitsOfShare 62 = .ok (.bipush 52, 2) := by decide +kernel
theorem dX4_bitsOfShare_64 : decode cX4_bitsOfShare 64 = .ok (.lshl, 1) := by decide +kernel
theorem dX4_bitsOfShare_65 : decode cX4_bitsOfShare 65 = .ok (.lload 6, 2) := by decide +kernel
theorem dX4_bitsOfShare_67 : decode cX4_bitsOfShare 67 = .ok (.ladd, 1) := by decide +kernel
theorem dX4_bitsOfShare_68 : decode cX4_bitsOfShare 68 = .ok (.lreturn, 1) := by decide +kernel
theorem dX5_init_0 : decode cX5_init 0 = .ok (.aload_n 0, 1) := by decide +kernel
theorem dX5_init_1 : decode cX5_init 1 = .ok (.invokespecial 1, 3) := by decide +kernel
theorem dX5_init_4 : decode cX5_init 4 = .ok (.aload_n 0, 1) := by decide +kernel
theorem dX5_init_5 : decode cX5_init 5 = .ok (.sipush 182, 3) := by decide +kernel
theorem dX5_init_8 : decode cX5_init 8 = .ok (.newarray .int, 2) := by decide +kernel
theorem dX5_init_10 : decode cX5_init 10 = .ok (.putfield 7, 3) := by decide +kernel
theorem dX5_init_13 : decode cX5_init 13 = .ok (.aload_n 0, 1) := by decide +kernel
theorem dX5_init_14 : decode cX5_init 14 = .ok (.sipush 1092, 3) := by decide +kernel
theorem dX5_init_17 : decode cX5_init 17 = .ok (.newarray .int, 2) := by decide +kernel
theorem dX5_init_19 : decode cX5_init 19 = .ok (.putfield 13, 3) := by decide +kernel
theorem dX5_init_22 : decode cX5_init 22 = .ok (.aload_n 0, 1) := by decide +kernel
theorem dX5_init_23 : decode cX5_init 23 = .ok (.sipush 182, 3) := by decide +kernel
theorem dX5_init_26 : decode cX5_init 26 = .ok (.newarray .int, 2) := by decide +kernel
theorem dX5_init_28 : decode cX5_init 28 = .ok (.putfield 16, 3) := by decide +kernel
theorem dX5_init_31 : decode cX5_init 31 = .ok (.aload_n 0, 1) := by decide +kernel
theorem dX5_init_32 : decode cX5_init 32 = .ok (.sipush 182, 3) := by decide +kernel
theorem dX5_init_35 : decode cX5_init 35 = .ok (.newarray .int, 2) := by decide +kernel
theorem dX5_init_37 : decode cX5_init 37 = .ok (.putfield 19, 3) := by decide +kernel
theorem dX5_init_40 : decode cX5_init 40 = .ok (.aload_n 0, 1) := by decide +kernel
theorem dX5_init_41 : decode cX5_init 41 = .ok (.bipush 60, 2) := by decide +kernel
theorem dX5_init_43 : decode cX5_init 43 = .ok (.newarray .int, 2) := by decide +kernel
theorem dX5_init_45 : decode cX5_init 45 = .ok (.putfield 22, 3) := by decide +kernel
theorem dX5_init_48 : decode cX5_init 48 = .ok (.aload_n 0, 1) := by decide +kernel
theorem dX5_init_49 : decode cX5_init 49 = .ok (.iconst 3, 1) := by decide +kernel
theorem dX5_init_50 : decode cX5_init 50 = .ok (.newarray .int, 2) := by decide +kernel
theorem dX5_init_52 : decode cX5_init 52 = .ok (.putfield 25, 3) := by decide +kernel
theorem dX5_init_55 : decode cX5_init 55 = .ok (.aload_n 0, 1) := by decide +kernel
theorem dX5_init_56 : decode cX5_init 56 = .ok (.getfield 7, 3) := by decide +kernel
theorem dX5_init_59 : decode cX5_init 59 = .ok (.bipush 9, 2) := by decide +kernel
theorem dX5_init_61 : decode cX5_init 61 = .ok (.bipush 10, 2) := by decide +kernel
theorem dX5_init_63 : decode cX5_init 63 = .ok (.iastore, 1) := by decide +kernel
theorem dX5_init_64 : decode cX5_init 64 = .ok (.aload_n 0, 1) := by decide +kernel
theorem dX5_init_65 : decode cX5_init 65 = .ok (.getfield 7, 3) := by decide +kernel
theorem dX5_init_68 : decode cX5_init 68 = .ok (.bipush 10, 2) := by decide +kernel
theorem dX5_init_70 : decode cX5_init 70 = .ok (.bipush 20, 2) := by decide +kernel
theorem dX5_init_72 : decode cX5_init 72 = .ok (.iastore, 1) := by decide +kernel
theorem dX5_init_73 : decode cX5_init 73 = .ok (.aload_n 0, 1) := by decide +kernel
theorem dX5_init_74 : decode cX5_init 74 = .ok (.getfield 7, 3) := by decide +kernel
theorem dX5_init_77 : decode cX5_init 77 = .ok (.bipush 11, 2) := by decide +kernel
theorem dX5_init_79 : decode cX5_init 79 = .ok (.bipush 20, 2) := by decide +kernel
theorem dX5_init_81 : decode cX5_init 81 = .ok (.iastore, 1) := by decide +kernel
theorem dX5_init_82 : decode cX5_init 82 = .ok (.iconst 0, 1) := by decide +kernel
theorem dX5_init_83 : decode cX5_init 83 = .ok (.istore_n 1, 1) := by decide +kernel
theorem dX5_init_84 : decode cX5_init 84 = .ok (.iload_n 1, 1) := by decide +kernel
theorem dX5_init_85 : decode cX5_init 85 = .ok (.iconst 5, 1) := by decide +kernel
theorem dX5_init_86 : decode cX5_init 86 = .ok (.if_icmp .ge 51, 3) := by decide +kernel
theorem dX5_init_89 : decode cX5_init 89 = .ok (.aload_n 0, 1) := by decide +kernel
theorem dX5_init_90 : decode cX5_init 90 = .ok (.iload_n 1, 1) := by decide +kernel
theorem dX5_init_91 : decode cX5_init 91 = .ok (.iconst 0, 1) := by decide +kernel
theorem dX5_init_92 : decode cX5_init 92 = .ok (.sipush 200, 3) := by decide +kernel
theorem dX5_init_95 : decode cX5_init 95 = .ok (.invokevirtual 28, 3) := by decide +kernel
theorem dX5_init_98 : decode cX5_init 98 = .ok (.aload_n 0, 1) := by decide +kernel
theorem dX5_init_99 : decode cX5_init 99 = .ok (.iload_n 1, 1) := by decide +kernel
theorem dX5_init_100 : decode cX5_init 100 = .ok (.iconst 2, 1) := by decide +kernel
theorem dX5_init_101 : decode cX5_init 101 = .ok (.bipush 20, 2) := by decide +kernel
theorem dX5_init_103 : decode cX5_init 103 = .ok (.invokevirtual 28, 3) := by decide +kernel
theorem dX5_init_106 : decode cX5_init 106 = .ok (.aload_n 0, 1) := by decide +kernel
theorem dX5_init_107 : decode cX5_init 107 = .ok (.iload_n 1, 1) := by decide +kernel
theorem dX5_init_108 : decode cX5_init 108 = .ok (.iconst 4, 1) := by decide +kernel
theorem dX5_init_109 : decode cX5_init 109 = .ok (.bipush 11, 2) := by decide +kernel
theorem dX5_init_111 : decode cX5_init 111 = .ok (.invokevirtual 28, 3) := by decide +kernel
theorem dX5_init_114 : decode cX5_init 114 = .ok (.aload_n 0, 1) := by decide +kernel
theorem dX5_init_115 : decode cX5_init 115 = .ok (.iload_n 1, 1) := by decide +kernel
theorem dX5_init_116 : decode cX5_init 116 = .ok (.iconst 5, 1) := by decide +kernel
theorem dX5_init_117 : decode cX5_init 117 = .ok (.bipush 40, 2) := by decide +kernel
theorem dX5_init_119 : decode cX5_init 119 = .ok (.invokevirtual 28, 3) := by decide +kernel
theorem dX5_init_122 : decode cX5_init 122 = .ok (.aload_n 0, 1) := by decide +kernel
theorem dX5_init_123 : decode cX5_init 123 = .ok (.iload_n 1, 1) := by decide +kernel
theorem dX5_init_124 : decode cX5_init 124 = .ok (.bipush 6, 2) := by decide +kernel
theorem dX5_init_126 : decode cX5_init 126 = .ok (.bipush 10, 2) := by decide +kernel
theorem dX5_init_128 : decode cX5_init 128 = .ok (.invokevirtual 28, 3) := by decide +kernel
theorem dX5_init_131 : decode cX5_init 131 = .ok (.iinc 1 1, 3) := by decide +kernel
theorem dX5_init_134 : decode cX5_init 134 = .ok (.goto (-50), 3) := by decide +kernel
theorem dX5_init_137 : decode cX5_init 137 = .ok (.return_, 1) := by decide +kernel
theorem dX5_thrown_0 : decode cX5_thrown 0 = .ok (.aload_n 0, 1) := by decide +kernel
theorem dX5_thrown_1 : decode cX5_thrown 1 = .ok (.getfield 32, 3) := by decide +kernel
theorem dX5_thrown_4 : decode cX5_thrown 4 = .ok (.ireturn, 1) := by decide +kernel
theorem dX5_holds_0 : decode cX5_holds 0 = .ok (.aload_n 0, 1) := by decide +kernel
theorem dX5_holds_1 : decode cX5_holds 1 = .ok (.iload_n 1, 1) := by decide +kernel
theorem dX5_holds_2 : decode cX5_holds 2 = .ok (.putfield 32, 3) := by decide +kernel
theorem dX5_holds_5 : decode cX5_holds 5 = .ok (.iload_n 1, 1) := by decide +kernel
theorem dX5_holds_6 : decode cX5_holds 6 = .ok (.ifCond .ne 7, 3) := by decide +kernel
theorem dX5_holds_9 : decode cX5_holds 9 = .ok (.iconst 1, 1) := by decide +kernel
theorem dX5_holds_10 : decode cX5_holds 10 = .ok (.goto 4, 3) := by decide +kernel
theorem dX5_holds_13 : decode cX5_holds 13 = .ok (.iconst 0, 1) := by decide +kernel
theorem dX5_holds_14 : decode cX5_holds 14 = .ok (.ireturn, 1) := by decide +kernel
theorem dX5_in_0 : decode cX5_in 0 = .ok (.iload_n 0, 1) := by decide +kernel
theorem dX5_in_1 : decode cX5_in 1 = .ok (.iload_n 1, 1) := by decide +kernel
theorem dX5_in_2 : decode cX5_in 2 = .ok (.if_icmp .lt 12, 3) := by decide +kernel
theorem dX5_in_5 : decode cX5_in 5 = .ok (.iload_n 0, 1) := by decide +kernel
theorem dX5_in_6 : decode cX5_in 6 = .ok (.iload_n 2, 1) := by decide +kernel
theorem dX5_in_7 : decode cX5_in 7 = .ok (.if_icmp .gt 7, 3) := by decide +kernel
theorem dX5_in_10 : decode cX5_in 10 = .ok (.iconst 1, 1) := by decide +kernel
theorem dX5_in_11 : decode cX5_in 11 = .ok (.goto 4, 3) := by decide +kernel
theorem dX5_in_14 : decode cX5_in 14 = .ok (.iconst 0, 1) := by decide +kernel
theorem dX5_in_15 : decode cX5_in 15 = .ok (.ireturn, 1) := by decide +kernel
theorem dX5_isMill_0 : decode cX5_isMill 0 = .ok (.iload_n 0, 1) := by decide +kernel
theorem dX5_isMill_1 : decode cX5_isMill 1 = .ok (.iconst 0, 1) := by decide +kernel
theorem dX5_isMill_2 : decode cX5_isMill 2 = .ok (.iconst 4, 1) := by decide +kernel
theorem dX5_isMill_3 : decode cX5_isMill 3 = .ok (.invokestatic 36, 3) := by decide +kernel
theorem dX5_isMill_6 : decode cX5_isMill 6 = .ok (.ireturn, 1) := by decide +kernel
theorem dX5_of_0 : decode cX5_of 0 = .ok (.aload_n 0, 1) := by decide +kernel
theorem dX5_of_1 : decode cX5_of 1 = .ok (.getfield 7, 3) := by decide +kernel
theorem dX5_of_4 : decode cX5_of 4 = .ok (.bipush 12, 2) := by decide +kernel
theorem dX5_of_6 : decode cX5_of 6 = .ok (.bipush 34, 2) := by decide +kernel
theorem dX5_of_8 : decode cX5_of 8 = .ok (.iload_n 1, 1) := by decide +kernel
theorem dX5_of_9 : decode cX5_of 9 = .ok (.imul, 1) := by decide +kernel
theorem dX5_of_10 : decode cX5_of 10 = .ok (.iadd, 1) := by decide +kernel
theorem dX5_of_11 : decode cX5_of 11 = .ok (.iload_n 2, 1) := by decide +kernel
theorem dX5_of_12 : decode cX5_of 12 = .ok (.iadd, 1) := by decide +kernel
theorem dX5_of_13 : decode cX5_of 13 = .ok (.iaload, 1) := by decide +kernel
theorem dX5_of_14 : decode cX5_of 14 = .ok (.ireturn, 1) := by decide +kernel
theorem dX5_put_0 : decode cX5_put 0 = .ok (.aload_n 0, 1) := by decide +kernel
theorem dX5_put_1 : decode cX5_put 1 = .ok (.getfield 7, 3) := by decide +kernel
theorem dX5_put_4 : decode cX5_put 4 = .ok (.bipush 12, 2) := by decide +kernel
theorem dX5_put_6 : decode cX5_put 6 = .ok (.bipush 34, 2) := by decide +kernel
theorem dX5_put_8 : decode cX5_put 8 = .ok (.iload_n 1, 1) := by decide +kernel
theorem dX5_put_9 : decode cX5_put 9 = .ok (.imul, 1) := by decide +kernel
theorem dX5_put_10 : decode cX5_put 10 = .ok (.iadd, 1) := by decide +kernel
theorem dX5_put_11 : decode cX5_put 11 = .ok (.iload_n 2, 1) := by decide +kernel
theorem dX5_put_12 : decode cX5_put 12 = .ok (.iadd, 1) := by decide +kernel
theorem dX5_put_13 : decode cX5_put 13 = .ok (.iload_n 3, 1) := by decide +kernel
theorem dX5_put_14 : decode cX5_put 14 = .ok (.iastore, 1) := by decide +kernel
theorem dX5_put_15 : decode cX5_put 15 = .ok (.return_, 1) := by decide +kernel
theorem dX5_add_0 : decode cX5_add 0 = .ok (.aload_n 0, 1) := by decide +kernel
theorem dX5_add_1 : decode cX5_add 1 = .ok (.getfield 7, 3) := by decide +kernel
theorem dX5_add_4 : decode cX5_add 4 = .ok (.bipush 12, 2) := by decide +kernel
theorem dX5_add_6 : decode cX5_add 6 = .ok (.bipush 34, 2) := by decide +kernel
theorem dX5_add_8 : decode cX5_add 8 = .ok (.iload_n 1, 1) := by decide +kernel
theorem dX5_add_9 : decode cX5_add 9 = .ok (.imul, 1) := by decide +kernel
theorem dX5_add_10 : decode cX5_add 10 = .ok (.iadd, 1) := by decide +kernel
theorem dX5_add_11 : decode cX5_add 11 = .ok (.iload_n 2, 1) := by decide +kernel
theorem dX5_add_12 : decode cX5_add 12 = .ok (.iadd, 1) := by decide +kernel
theorem dX5_add_13 : decode cX5_add 13 = .ok (.dup2, 1) := by decide +kernel
theorem dX5_add_14 : decode cX5_add 14 = .ok (.iaload, 1) := by decide +kernel
theorem dX5_add_15 : decode cX5_add 15 = .ok (.iload_n 3, 1) := by decide +kernel
theorem dX5_add_16 : decode cX5_add 16 = .ok (.iadd, 1) := by decide +kernel
theorem dX5_add_17 : decode cX5_add 17 = .ok (.iastore, 1) := by decide +kernel
theorem dX5_add_18 : decode cX5_add 18 = .ok (.return_, 1) := by decide +kernel
theorem dX5_sackRow_0 : decode cX5_sackRow 0 = .ok (.bipush 12, 2) := by decide +kernel
theorem dX5_sackRow_2 : decode cX5_sackRow 2 = .ok (.bipush 34, 2) := by decide +kernel
theorem dX5_sackRow_4 : decode cX5_sackRow 4 = .ok (.iload_n 1, 1) := by decide +kernel
theorem dX5_sackRow_5 : decode cX5_sackRow 5 = .ok (.imul, 1) := by decide +kernel
theorem dX5_sackRow_6 : decode cX5_sackRow 6 = .ok (.iadd, 1) := by decide +kernel
theorem dX5_sackRow_7 : decode cX5_sackRow 7 = .ok (.bipush 10, 2) := by decide +kernel
theorem dX5_sackRow_9 : decode cX5_sackRow 9 = .ok (.iadd, 1) := by decide +kernel
theorem dX5_sackRow_10 : decode cX5_sackRow 10 = .ok (.iconst 4, 1) := by decide +kernel
theorem dX5_sackRow_11 : decode cX5_sackRow 11 = .ok (.iload_n 2, 1) := by decide +kernel
theorem dX5_sackRow_12 : decode cX5_sackRow 12 = .ok (.imul, 1) := by decide +kernel
theorem dX5_sackRow_13 : decode cX5_sackRow 13 = .ok (.iadd, 1) := by decide +kernel
theorem dX5_sackRow_14 : decode cX5_sackRow 14 = .ok (.ireturn, 1) := by decide +kernel
theorem dX5_copy_0 : decode cX5_copy 0 = .ok (.iconst 0, 1) := by decide +kernel
theorem dX5_copy_1 : decode cX5_copy 1 = .ok (.istore 4, 2) := by decide +kernel
theorem dX5_copy_3 : decode cX5_copy 3 = .ok (.iload 4, 2) := by decide +kernel
theorem dX5_copy_5 : decode cX5_copy 5 = .ok (.sipush 182, 3) := by decide +kernel
theorem dX5_copy_8 : decode cX5_copy 8 = .ok (.if_icmp .ge 21, 3) := by decide +kernel
theorem dX5_copy_11 : decode cX5_copy 11 = .ok (.aload_n 2, 1) := by decide +kernel
theorem dX5_copy_12 : decode cX5_copy 12 = .ok (.iload_n 3, 1) := by decide +kernel
theorem dX5_copy_13 : decode cX5_copy 13 = .ok (.iload 4, 2) := by decide +kernel
theorem dX5_copy_15 : decode cX5_copy 15 = .ok (.iadd, 1) := by decide +kernel
theorem dX5_copy_16 : decode cX5_copy 16 = .ok (.aload_n 0, 1) := by decide +kernel
theorem dX5_copy_17 : decode cX5_copy 17 = .ok (.iload_n 1, 1) := by decide +kernel
theorem dX5_copy_18 : decode cX5_copy 18 = .ok (.iload 4, 2) := by decide +kernel
theorem dX5_copy_20 : decode cX5_copy 20 = .ok (.iadd, 1) := by decide +kernel
theorem dX5_copy_21 : decode cX5_copy 21 = .ok (.iaload, 1) := by decide +kernel
theorem dX5_copy_22 : decode cX5_copy 22 = .ok (.iastore, 1) := by decide +kernel
theorem dX5_copy_23 : decode cX5_copy 23 = .ok (.iinc 4 1, 3) := by decide +kernel
theorem dX5_copy_26 : decode cX5_copy 26 = .ok (.goto (-23), 3) := by decide +kernel
theorem dX5_copy_29 : decode cX5_copy 29 = .ok (.return_, 1) := by decide +kernel
theorem dX5_save_0 : decode cX5_save 0 = .ok (.aload_n 0, 1) := by decide +kernel
theorem dX5_save_1 : decode cX5_save 1 = .ok (.getfield 40, 3) := by decide +kernel
theorem dX5_save_4 : decode cX5_save 4 = .ok (.bipush 6, 2) := by decide +kernel
theorem dX5_save_6 : decode cX5_save 6 = .ok (.if_icmp .ne 44, 3) := by decide +kernel
theorem dX5_save_9 : decode cX5_save 9 = .ok (.iconst 0, 1) := by decide +kernel
theorem dX5_save_10 : decode cX5_save 10 = .ok (.istore_n 1, 1) := by decide +kernel
theorem dX5_save_11 : decode cX5_save 11 = .ok (.iload_n 1, 1) := by decide +kernel
theorem dX5_save_12 : decode cX5_save 12 = .ok (.sipush 910, 3) := by decide +kernel
theorem dX5_save_15 : decode cX5_save 15 = .ok (.if_icmp .ge 25, 3) := by decide +kernel
theorem dX5_save_18 : decode cX5_save 18 = .ok (.aload_n 0, 1) := by decide +kernel
theorem dX5_save_19 : decode cX5_save 19 = .ok (.getfield 13, 3) := by decide +kernel
theorem dX5_save_22 : decode cX5_save 22 = .ok (.iload_n 1, 1) := by decide +kernel
theorem dX5_save_23 : decode cX5_save 23 = .ok (.aload_n 0, 1) := by decide +kernel
theorem dX5_save_24 : decode cX5_save 24 = .ok (.getfield 13, 3) := by decide +kernel
theorem dX5_save_27 : decode cX5_save 27 = .ok (.sipush 182, 3) := by decide +kernel
theorem dX5_save_30 : decode cX5_save 30 = .ok (.iload_n 1, 1) := by decide +kernel
theorem dX5_save_31 : decode cX5_save 31 = .ok (.iadd, 1) := by decide +kernel
theorem dX5_save_32 : decode cX5_save 32 = .ok (.iaload, 1) := by decide +kernel
theorem dX5_save_33 : decode cX5_save 33 = .ok (.iastore, 1) := by decide +kernel
theorem dX5_save_34 : decode cX5_save 34 = .ok (.iinc 1 1, 3) := by decide +kernel
theorem dX5_save_37 : decode cX5_save 37 = .ok (.goto (-26), 3) := by decide +kernel
theorem dX5_save_40 : decode cX5_save 40 = .ok (.aload_n 0, 1) := by decide +kernel
theorem dX5_save_41 : decode cX5_save 41 = .ok (.dup, 1) := by decide +kernel
theorem dX5_save_42 : decode cX5_save 42 = .ok (.getfield 40, 3) := by decide +kernel
theorem dX5_save_45 : decode cX5_save 45 = .ok (.iconst 1, 1) := by decide +kernel
theorem dX5_save_46 : decode cX5_save 46 = .ok (.isub, 1) := by decide +kernel
theorem dX5_save_47 : decode cX5_save 47 = .ok (.putfield 40, 3) := by decide +kernel
theorem dX5_save_50 : decode cX5_save 50 = .ok (.aload_n 0, 1) := by decide +kernel
theorem dX5_save_51 : decode cX5_save 51 = .ok (.getfield 7, 3) := by decide +kernel
theorem dX5_save_54 : decode cX5_save 54 = .ok (.iconst 0, 1) := by decide +kernel
theorem dX5_save_55 : decode cX5_save 55 = .ok (.aload_n 0, 1) := by decide +kernel
theorem dX5_save_56 : decode cX5_save 56 = .ok (.getfield 13, 3) := by decide +kernel
theorem dX5_save_59 : decode cX5_save 59 = .ok (.sipush 182, 3) := by decide +kernel
theorem dX5_save_62 : decode cX5_save 62 = .ok (.aload_n 0, 1) := by decide +kernel
theorem dX5_save_63 : decode cX5_save 63 = .ok (.getfield 40, 3) := by decide +kernel
theorem dX5_save_66 : decode cX5_save 66 = .ok (.imul, 1) := by decide +kernel
theorem dX5_save_67 : decode cX5_save 67 = .ok (.invokestatic 43, 3) := by decide +kernel
theorem dX5_save_70 : decode cX5_save 70 = .ok (.aload_n 0, 1) := by decide +kernel
theorem dX5_save_71 : decode cX5_save 71 = .ok (.dup, 1) := by decide +kernel
theorem dX5_save_72 : decode cX5_save 72 = .ok (.getfield 40, 3) := by decide +kernel
theorem dX5_save_75 : decode cX5_save 75 = .ok (.iconst 1, 1) := by decide +kernel
theorem dX5_save_76 : decode cX5_save 76 = .ok (.iadd, 1) := by decide +kernel
theorem dX5_save_77 : decode cX5_save 77 = .ok (.putfield 40, 3) := by decide +kernel
theorem dX5_save_80 : decode cX5_save 80 = .ok (.return_, 1) := by decide +kernel
theorem dX5_insert_0 : decode cX5_insert 0 = .ok (.aload_n 0, 1) := by decide +kernel
theorem dX5_insert_1 : decode cX5_insert 1 = .ok (.iload_n 1, 1) := by decide +kernel
theorem dX5_insert_2 : decode cX5_insert 2 = .ok (.bipush 9, 2) := by decide +kernel
theorem dX5_insert_4 : decode cX5_insert 4 = .ok (.invokevirtual 47, 3) := by decide +kernel
theorem dX5_insert_7 : decode cX5_insert 7 = .ok (.istore 6, 2) := by decide +kernel
theorem dX5_insert_9 : decode cX5_insert 9 = .ok (.iload 6, 2) := by decide +kernel
theorem dX5_insert_11 : decode cX5_insert 11 = .ok (.ifCond .le 75, 3) := by decide +kernel
theorem dX5_insert_14 : decode cX5_insert 14 = .ok (.aload_n 0, 1) := by decide +kernel
theorem dX5_insert_15 : decode cX5_insert 15 = .ok (.iload 5, 2) := by decide +kernel
theorem dX5_insert_17 : decode cX5_insert 17 = .ok (.iload_n 2, 1) := by decide +kernel
theorem dX5_insert_18 : decode cX5_insert 18 = .ok (.aload_n 0, 1) := by decide +kernel
theorem dX5_insert_19 : decode cX5_insert 19 = .ok (.iload_n 1, 1) := by decide +kernel
theorem dX5_insert_20 : decode cX5_insert 20 = .ok (.iload 6, 2) := by decide +kernel
theorem dX5_insert_22 : decode cX5_insert 22 = .ok (.iconst 1, 1) := by decide +kernel
theorem dX5_insert_23 : decode cX5_insert 23 = .ok (.isub, 1) := by decide +kernel
theorem dX5_insert_24 : decode cX5_insert 24 = .ok (.invokevirtual 51, 3) := by decide +kernel
theorem dX5_insert_27 : decode cX5_insert 27 = .ok (.invokevirtual 54, 3) := by decide +kernel
theorem dX5_insert_30 : decode cX5_insert 30 = .ok (.ifCond .eq 56, 3) := by decide +kernel
theorem dX5_insert_33 : decode cX5_insert 33 = .ok (.iconst 0, 1) := by decide +kernel
theorem dX5_insert_34 : decode cX5_insert 34 = .ok (.istore 7, 2) := by decide +kernel
theorem dX5_insert_36 : decode cX5_insert 36 = .ok (.iload 7, 2) := by decide +kernel
theorem dX5_insert_38 : decode cX5_insert 38 = .ok (.iconst 4, 1) := by decide +kernel
theorem dX5_insert_39 : decode cX5_insert 39 = .ok (.if_icmp .ge 41, 3) := by decide +kernel
theorem dX5_insert_42 : decode cX5_insert 42 = .ok (.aload_n 0, 1) := by decide +kernel
theorem dX5_insert_43 : decode cX5_insert 43 = .ok (.getfield 7, 3) := by decide +kernel
theorem dX5_insert_46 : decode cX5_insert 46 = .ok (.aload_n 0, 1) := by decide +kernel
theorem dX5_insert_47 : decode cX5_insert 47 = .ok (.iload_n 1, 1) := by decide +kernel
theorem dX5_insert_48 : decode cX5_insert 48 = .ok (.iload 6, 2) := by decide +kernel
theorem dX5_insert_50 : decode cX5_insert 50 = .ok (.invokevirtual 51, 3) := by decide +kernel
theorem dX5_insert_53 : decode cX5_insert 53 = .ok (.iload 7, 2) := by decide +kernel
theorem dX5_insert_55 : decode cX5_insert 55 = .ok (.iadd, 1) := by decide +kernel
theorem dX5_insert_56 : decode cX5_insert 56 = .ok (.aload_n 0, 1) := by decide +kernel
theorem dX5_insert_57 : decode cX5_insert 57 = .ok (.getfield 7, 3) := by decide +kernel
theorem dX5_insert_60 : decode cX5_insert 60 = .ok (.aload_n 0, 1) := by decide +kernel
theorem dX5_insert_61 : decode cX5_insert 61 = .ok (.iload_n 1, 1) := by decide +kernel
theorem dX5_insert_62 : decode cX5_insert 62 = .ok (.iload 6, 2) := by decide +kernel
theorem dX5_insert_64 : decode cX5_insert 64 = .ok (.iconst 1, 1) := by decide +kernel
theorem dX5_insert_65 : decode cX5_insert 65 = .ok (.isub, 1) := by decide +kernel
theorem dX5_insert_66 : decode cX5_insert 66 = .ok (.invokevirtual 51, 3) := by decide +kernel
theorem dX5_insert_69 : decode cX5_insert 69 = .ok (.iload 7, 2) := by decide +kernel
theorem dX5_insert_71 : decode cX5_insert 71 = .ok (.iadd, 1) := by decide +kernel
theorem dX5_insert_72 : decode cX5_insert 72 = .ok (.iaload, 1) := by decide +kernel
theorem dX5_insert_73 : decode cX5_insert 73 = .ok (.iastore, 1) := by decide +kernel
theorem dX5_insert_74 : decode cX5_insert 74 = .ok (.iinc 7 1, 3) := by decide +kernel
theorem dX5_insert_77 : decode cX5_insert 77 = .ok (.goto (-41), 3) := by decide +kernel
theorem dX5_insert_80 : decode cX5_insert 80 = .ok (.iinc 6 (-1), 3) := by decide +kernel
theorem dX5_insert_83 : decode cX5_insert 83 = .ok (.goto (-74), 3) := by decide +kernel
theorem dX5_insert_86 : decode cX5_insert 86 = .ok (.aload_n 0, 1) := by decide +kernel
theorem dX5_insert_87 : decode cX5_insert 87 = .ok (.iload_n 1, 1) := by decide +kernel
theorem dX5_insert_88 : decode cX5_insert 88 = .ok (.iload 6, 2) := by decide +kernel
theorem dX5_insert_90 : decode cX5_insert 90 = .ok (.invokevirtual 51, 3) := by decide +kernel
theorem dX5_insert_93 : decode cX5_insert 93 = .ok (.istore 7, 2) := by decide +kernel
theorem dX5_insert_95 : decode cX5_insert 95 = .ok (.aload_n 0, 1) := by decide +kernel
theorem dX5_insert_96 : decode cX5_insert 96 = .ok (.getfield 7, 3) := by decide +kernel
theorem dX5_insert_99 : decode cX5_insert 99 = .ok (.iload 7, 2) := by decide +kernel
theorem dX5_insert_101 : decode cX5_insert 101 = .ok (.iconst 0, 1) := by decide +kernel
theorem dX5_insert_102 : decode cX5_insert 102 = .ok (.iadd, 1) := by decide +kernel
theorem dX5_insert_103 : decode cX5_insert 103 = .ok (.iload_n 2, 1) := by decide +kernel
theorem dX5_insert_104 : decode cX5_insert 104 = .ok (.iastore, 1) := by decide +kernel
theorem dX5_insert_105 : decode cX5_insert 105 = .ok (.aload_n 0, 1) := by decide +kernel
theorem dX5_insert_106 : decode cX5_insert 106 = .ok (.getfield 7, 3) := by decide +kernel
theorem dX5_insert_109 : decode cX5_insert 109 = .ok (.iload 7, 2) := by decide +kernel
theorem dX5_insert_111 : decode cX5_insert 111 = .ok (.iconst 1, 1) := by decide +kernel
theorem dX5_insert_112 : decode cX5_insert 112 = .ok (.iadd, 1) := by decide +kernel
theorem dX5_insert_113 : decode cX5_insert 113 = .ok (.iload_n 3, 1) := by decide +kernel
theorem dX5_insert_114 : decode cX5_insert 114 = .ok (.iastore, 1) := by decide +kernel
theorem dX5_insert_115 : decode cX5_insert 115 = .ok (.aload_n 0, 1) := by decide +kernel
theorem dX5_insert_116 : decode cX5_insert 116 = .ok (.getfield 7, 3) := by decide +kernel
theorem dX5_insert_119 : decode cX5_insert 119 = .ok (.iload 7, 2) := by decide +kernel
theorem dX5_insert_121 : decode cX5_insert 121 = .ok (.iconst 2, 1) := by decide +kernel
theorem dX5_insert_122 : decode cX5_insert 122 = .ok (.iadd, 1) := by decide +kernel
theorem dX5_insert_123 : decode cX5_insert 123 = .ok (.iload 4, 2) := by decide +kernel
theorem dX5_insert_125 : decode cX5_insert 125 = .ok (.iastore, 1) := by decide +kernel
theorem dX5_insert_126 : decode cX5_insert 126 = .ok (.aload_n 0, 1) := by decide +kernel
theorem dX5_insert_127 : decode cX5_insert 127 = .ok (.getfield 7, 3) := by decide +kernel
theorem dX5_insert_130 : decode cX5_insert 130 = .ok (.iload 7, 2) := by decide +kernel
theorem dX5_insert_132 : decode cX5_insert 132 = .ok (.iconst 3, 1) := by decide +kernel
theorem dX5_insert_133 : decode cX5_insert 133 = .ok (.iadd, 1) := by decide +kernel
theorem dX5_insert_134 : decode cX5_insert 134 = .ok (.iload 5, 2) := by decide +kernel
theorem dX5_insert_136 : decode cX5_insert 136 = .ok (.iastore, 1) := by decide +kernel
theorem dX5_insert_137 : decode cX5_insert 137 = .ok (.aload_n 0, 1) := by decide +kernel
theorem dX5_insert_138 : decode cX5_insert 138 = .ok (.iload_n 1, 1) := by decide +kernel
theorem dX5_insert_139 : decode cX5_insert 139 = .ok (.bipush 9, 2) := by decide +kernel
theorem dX5_insert_141 : decode cX5_insert 141 = .ok (.iconst 1, 1) := by decide +kernel
theorem dX5_insert_142 : decode cX5_insert 142 = .ok (.invokevirtual 57, 3) := by decide +kernel
theorem dX5_insert_145 : decode cX5_insert 145 = .ok (.iload 6, 2) := by decide +kernel
theorem dX5_insert_147 : decode cX5_insert 147 = .ok (.ireturn, 1) := by decide +kernel
theorem dX5_comesAhead_0 : decode cX5_comesAhead 0 = .ok (.iload_n 1, 1) := by decide +kernel
theorem dX5_comesAhead_1 : decode cX5_comesAhead 1 = .ok (.aload_n 0, 1) := by decide +kernel
theorem dX5_comesAhead_2 : decode cX5_comesAhead 2 = .ok (.getfield 7, 3) := by decide +kernel
theorem dX5_comesAhead_5 : decode cX5_comesAhead 5 = .ok (.iload_n 3, 1) := by decide +kernel
theorem dX5_comesAhead_6 : decode cX5_comesAhead 6 = .ok (.iconst 3, 1) := by decide +kernel
theorem dX5_comesAhead_7 : decode cX5_comesAhead 7 = .ok (.iadd, 1) := by decide +kernel
theorem dX5_comesAhead_8 : decode cX5_comesAhead 8 = .ok (.iaload, 1) := by decide +kernel
theorem dX5_comesAhead_9 : decode cX5_comesAhead 9 = .ok (.if_icmp .lt 27, 3) := by decide +kernel
theorem dX5_comesAhead_12 : decode cX5_comesAhead 12 = .ok (.iload_n 1, 1) := by decide +kernel
theorem dX5_comesAhead_13 : decode cX5_comesAhead 13 = .ok (.aload_n 0, 1) := by decide +kernel
theorem dX5_comesAhead_14 : decode cX5_comesAhead 14 = .ok (.getfield 7, 3) := by decide +kernel
theorem dX5_comesAhead_17 : decode cX5_comesAhead 17 = .ok (.iload_n 3, 1) := by decide +kernel
theorem dX5_comesAhead_18 : decode cX5_comesAhead 18 = .ok (.iconst 3, 1) := by decide +kernel
theorem dX5_comesAhead_19 : decode cX5_comesAhead 19 = .ok (.iadd, 1) := by decide +kernel
theorem dX5_comesAhead_20 : decode cX5_comesAhead 20 = .ok (.iaload, 1) := by decide +kernel
theorem dX5_comesAhead_21 : decode cX5_comesAhead 21 = .ok (.if_icmp .ne 19, 3) := by decide +kernel
theorem dX5_comesAhead_24 : decode cX5_comesAhead 24 = .ok (.iload_n 2, 1) := by decide +kernel
theorem dX5_comesAhead_25 : decode cX5_comesAhead 25 = .ok (.aload_n 0, 1) := by decide +kernel
theorem dX5_comesAhead_26 : decode cX5_comesAhead 26 = .ok (.getfield 7, 3) := by decide +kernel
theorem dX5_comesAhead_29 : decode cX5_comesAhead 29 = .ok (.iload_n 3, 1) := by decide +kernel
theorem dX5_comesAhead_30 : decode cX5_comesAhead 30 = .ok (.iconst 0, 1) := by decide +kernel
theorem dX5_comesAhead_31 : decode cX5_comesAhead 31 = .ok (.iadd, 1) := by decide +kernel
theorem dX5_comesAhead_32 : decode cX5_comesAhead 32 = .ok (.iaload, 1) := by decide +kernel
theorem dX5_comesAhead_33 : decode cX5_comesAhead 33 = .ok (.if_icmp .ge 7, 3) := by decide +kernel
theorem dX5_comesAhead_36 : decode cX5_comesAhead 36 = .ok (.iconst 1, 1) := by decide +kernel
theorem dX5_comesAhead_37 : decode cX5_comesAhead 37 = .ok (.goto 4, 3) := by decide +kernel
theorem dX5_comesAhead_40 : decode cX5_comesAhead 40 = .ok (.iconst 0, 1) := by decide +kernel
theorem dX5_comesAhead_41 : decode cX5_comesAhead 41 = .ok (.ireturn, 1) := by decide +kernel
theorem dX5_remove_0 : decode cX5_remove 0 = .ok (.aload_n 0, 1) := by decide +kernel
theorem dX5_remove_1 : decode cX5_remove 1 = .ok (.iload_n 1, 1) := by decide +kernel
theorem dX5_remove_2 : decode cX5_remove 2 = .ok (.bipush 9, 2) := by decide +kernel
theorem dX5_remove_4 : decode cX5_remove 4 = .ok (.iconst (-1), 1) := by decide +kernel
theorem dX5_remove_5 : decode cX5_remove 5 = .ok (.invokevirtual 57, 3) := by decide +kernel
theorem dX5_remove_8 : decode cX5_remove 8 = .ok (.aload_n 0, 1) := by decide +kernel
theorem dX5_remove_9 : decode cX5_remove 9 = .ok (.iload_n 1, 1) := by decide +kernel
theorem dX5_remove_10 : decode cX5_remove 10 = .ok (.iload_n 2, 1) := by decide +kernel
theorem dX5_remove_11 : decode cX5_remove 11 = .ok (.invokevirtual 51, 3) := by decide +kernel
theorem dX5_remove_14 : decode cX5_remove 14 = .ok (.istore_n 3, 1) := by decide +kernel
theorem dX5_remove_15 : decode cX5_remove 15 = .ok (.iload_n 3, 1) := by decide +kernel
theorem dX5_remove_16 : decode cX5_remove 16 = .ok (.aload_n 0, 1) := by decide +kernel
theorem dX5_remove_17 : decode cX5_remove 17 = .ok (.iload_n 1, 1) := by decide +kernel
theorem dX5_remove_18 : decode cX5_remove 18 = .ok (.aload_n 0, 1) := by decide +kernel
theorem dX5_remove_19 : decode cX5_remove 19 = .ok (.iload_n 1, 1) := by decide +kernel
theorem dX5_remove_20 : decode cX5_remove 20 = .ok (.bipush 9, 2) := by decide +kernel
theorem dX5_remove_22 : decode cX5_remove 22 = .ok (.invokevirtual 47, 3) := by decide +kernel
theorem dX5_remove_25 : decode cX5_remove 25 = .ok (.invokevirtual 51, 3) := by decide +kernel
theorem dX5_remove_28 : decode cX5_remove 28 = .ok (.if_icmp .ge 23, 3) := by decide +kernel
theorem dX5_remove_31 : decode cX5_remove 31 = .ok (.aload_n 0, 1) := by decide +kernel
theorem dX5_remove_32 : decode cX5_remove 32 = .ok (.getfield 7, 3) := by decide +kernel
theorem dX5_remove_35 : decode cX5_remove 35 = .ok (.iload_n 3, 1) := by decide +kernel
theorem dX5_remove_36 : decode cX5_remove 36 = .ok (.aload_n 0, 1) := by decide +kernel
theorem dX5_remove_37 : decode cX5_remove 37 = .ok (.getfield 7, 3) := by decide +kernel
theorem dX5_remove_40 : decode cX5_remove 40 = .ok (.iload_n 3, 1) := by decide +kernel
theorem dX5_remove_41 : decode cX5_remove 41 = .ok (.iconst 4, 1) := by decide +kernel
theorem dX5_remove_42 : decode cX5_remove 42 = .ok (.iadd, 1) := by decide +kernel
theorem dX5_remove_43 : decode cX5_remove 43 = .ok (.iaload, 1) := by decide +kernel
theorem dX5_remove_44 : decode cX5_remove 44 = .ok (.iastore, 1) := by decide +kernel
theorem dX5_remove_45 : decode cX5_remove 45 = .ok (.iinc 3 1, 3) := by decide +kernel
theorem dX5_remove_48 : decode cX5_remove 48 = .ok (.goto (-33), 3) := by decide +kernel
theorem dX5_remove_51 : decode cX5_remove 51 = .ok (.return_, 1) := by decide +kernel
theorem dX5_whereIs_0 : decode cX5_whereIs 0 = .ok (.iconst 0, 1) := by decide +kernel
theorem dX5_whereIs_1 : decode cX5_whereIs 1 = .ok (.istore_n 2, 1) := by decide +kernel
theorem dX5_whereIs_2 : decode cX5_whereIs 2 = .ok (.iload_n 2, 1) := by decide +kernel
theorem dX5_whereIs_3 : decode cX5_whereIs 3 = .ok (.bipush 30, 2) := by decide +kernel
theorem dX5_whereIs_5 : decode cX5_whereIs 5 = .ok (.if_icmp .ge 51, 3) := by decide +kernel
theorem dX5_whereIs_8 : decode cX5_whereIs 8 = .ok (.iload_n 2, 1) := by decide +kernel
theorem dX5_whereIs_9 : decode cX5_whereIs 9 = .ok (.bipush 6, 2) := by decide +kernel
theorem dX5_whereIs_11 : decode cX5_whereIs 11 = .ok (.irem, 1) := by decide +kernel
theorem dX5_whereIs_12 : decode cX5_whereIs 12 = .ok (.aload_n 0, 1) := by decide +kernel
theorem dX5_whereIs_13 : decode cX5_whereIs 13 = .ok (.iload_n 2, 1) := by decide +kernel
theorem dX5_whereIs_14 : decode cX5_whereIs 14 = .ok (.bipush 6, 2) := by decide +kernel
theorem dX5_whereIs_16 : decode cX5_whereIs 16 = .ok (.idiv, 1) := by decide +kernel
theorem dX5_whereIs_17 : decode cX5_whereIs 17 = .ok (.bipush 9, 2) := by decide +kernel
theorem dX5_whereIs_19 : decode cX5_whereIs 19 = .ok (.invokevirtual 47, 3) := by decide +kernel
theorem dX5_whereIs_22 : decode cX5_whereIs 22 = .ok (.if_icmp .ge 28, 3) := by decide +kernel
theorem dX5_whereIs_25 : decode cX5_whereIs 25 = .ok (.aload_n 0, 1) := by decide +kernel
theorem dX5_whereIs_26 : decode cX5_whereIs 26 = .ok (.getfield 7, 3) := by decide +kernel
theorem dX5_whereIs_29 : decode cX5_whereIs 29 = .ok (.aload_n 0, 1) := by decide +kernel
theorem dX5_whereIs_30 : decode cX5_whereIs 30 = .ok (.iload_n 2, 1) := by decide +kernel
theorem dX5_whereIs_31 : decode cX5_whereIs 31 = .ok (.bipush 6, 2) := by decide +kernel
theorem dX5_whereIs_33 : decode cX5_whereIs 33 = .ok (.idiv, 1) := by decide +kernel
theorem dX5_whereIs_34 : decode cX5_whereIs 34 = .ok (.iload_n 2, 1) := by decide +kernel
theorem dX5_whereIs_35 : decode cX5_whereIs 35 = .ok (.bipush 6, 2) := by decide +kernel
theorem dX5_whereIs_37 : decode cX5_whereIs 37 = .ok (.irem, 1) := by decide +kernel
theorem dX5_whereIs_38 : decode cX5_whereIs 38 = .ok (.invokevirtual 51, 3) := by decide +kernel
theorem dX5_whereIs_41 : decode cX5_whereIs 41 = .ok (.iconst 0, 1) := by decide +kernel
theorem dX5_whereIs_42 : decode cX5_whereIs 42 = .ok (.iadd, 1) := by decide +kernel
theorem dX5_whereIs_43 : decode cX5_whereIs 43 = .ok (.iaload, 1) := by decide +kernel
theorem dX5_whereIs_44 : decode cX5_whereIs 44 = .ok (.iload_n 1, 1) := by decide +kernel
theorem dX5_whereIs_45 : decode cX5_whereIs 45 = .ok (.if_icmp .ne 5, 3) := by decide +kernel
theorem dX5_whereIs_48 : decode cX5_whereIs 48 = .ok (.iload_n 2, 1) := by decide +kernel
theorem dX5_whereIs_49 : decode cX5_whereIs 49 = .ok (.ireturn, 1) := by decide +kernel
theorem dX5_whereIs_50 : decode cX5_whereIs 50 = .ok (.iinc 2 1, 3) := by decide +kernel
theorem dX5_whereIs_53 : decode cX5_whereIs 53 = .ok (.goto (-51), 3) := by decide +kernel
theorem dX5_whereIs_56 : decode cX5_whereIs 56 = .ok (.iconst (-1), 1) := by decide +kernel
theorem dX5_whereIs_57 : decode cX5_whereIs 57 = .ok (.ireturn, 1) := by decide +kernel
theorem dX5_tideIn_0 : decode cX5_tideIn 0 = .ok (.bipush 6, 2) := by decide +kernel
theorem dX5_tideIn_2 : decode cX5_tideIn 2 = .ok (.iload_n 1, 1) := by decide +kernel
theorem dX5_tideIn_3 : decode cX5_tideIn 3 = .ok (.bipush 12, 2) := by decide +kernel
theorem dX5_tideIn_5 : decode cX5_tideIn 5 = .ok (.irem, 1) := by decide +kernel
theorem dX5_tideIn_6 : decode cX5_tideIn 6 = .ok (.isub, 1) := by decide +kernel
theorem dX5_tideIn_7 : decode cX5_tideIn 7 = .ok (.istore_n 2, 1) := by decide +kernel
theorem dX5_tideIn_8 : decode cX5_tideIn 8 = .ok (.aload_n 0, 1) := by decide +kernel
theorem dX5_tideIn_9 : decode cX5_tideIn 9 = .ok (.getfield 7, 3) := by decide +kernel
theorem dX5_tideIn_12 : decode cX5_tideIn 12 = .ok (.bipush 9, 2) := by decide +kernel
theorem dX5_tideIn_14 : decode cX5_tideIn 14 = .ok (.iaload, 1) := by decide +kernel
theorem dX5_tideIn_15 : decode cX5_tideIn 15 = .ok (.iload_n 2, 1) := by decide +kernel
theorem dX5_tideIn_16 : decode cX5_tideIn 16 = .ok (.ifCond .ge 8, 3) := by decide +kernel
theorem dX5_tideIn_19 : decode cX5_tideIn 19 = .ok (.iload_n 2, 1) := by decide +kernel
theorem dX5_tideIn_20 : decode cX5_tideIn 20 = .ok (.ineg, 1) := by decide +kernel
theorem dX5_tideIn_21 : decode cX5_tideIn 21 = .ok (.goto 4, 3) := by decide +kernel
theorem dX5_tideIn_24 : decode cX5_tideIn 24 = .ok (.iload_n 2, 1) := by decide +kernel
theorem dX5_tideIn_25 : decode cX5_tideIn 25 = .ok (.imul, 1) := by decide +kernel
theorem dX5_tideIn_26 : decode cX5_tideIn 26 = .ok (.ireturn, 1) := by decide +kernel
theorem dX5_head_0 : decode cX5_head 0 = .ok (.aload_n 0, 1) := by decide +kernel
theorem dX5_head_1 : decode cX5_head 1 = .ok (.iload_n 1, 1) := by decide +kernel
theorem dX5_head_2 : decode cX5_head 2 = .ok (.iconst 1, 1) := by decide +kernel
theorem dX5_head_3 : decode cX5_head 3 = .ok (.invokevirtual 47, 3) := by decide +kernel
theorem dX5_head_6 : decode cX5_head 6 = .ok (.bipush 100, 2) := by decide +kernel
theorem dX5_head_8 : decode cX5_head 8 = .ok (.imul, 1) := by decide +kernel
theorem dX5_head_9 : decode cX5_head 9 = .ok (.aload_n 0, 1) := by decide +kernel
theorem dX5_head_10 : decode cX5_head 10 = .ok (.iload_n 1, 1) := by decide +kernel
theorem dX5_head_11 : decode cX5_head 11 = .ok (.iconst 0, 1) := by decide +kernel
theorem dX5_head_12 : decode cX5_head 12 = .ok (.invokevirtual 47, 3) := by decide +kernel
theorem dX5_head_15 : decode cX5_head 15 = .ok (.idiv, 1) := by decide +kernel
theorem dX5_head_16 : decode cX5_head 16 = .ok (.aload_n 0, 1) := by decide +kernel
theorem dX5_head_17 : decode cX5_head 17 = .ok (.aload_n 0, 1) := by decide +kernel
theorem dX5_head_18 : decode cX5_head 18 = .ok (.getfield 7, 3) := by decide +kernel
theorem dX5_head_21 : decode cX5_head 21 = .ok (.iconst 0, 1) := by decide +kernel
theorem dX5_head_22 : decode cX5_head 22 = .ok (.iaload, 1) := by decide +kernel
theorem dX5_head_23 : decode cX5_head 23 = .ok (.invokevirtual 60, 3) := by decide +kernel
theorem dX5_head_26 : decode cX5_head 26 = .ok (.isub, 1) := by decide +kernel
theorem dX5_head_27 : decode cX5_head 27 = .ok (.ireturn, 1) := by decide +kernel
theorem dX5_fill_0 : decode cX5_fill 0 = .ok (.aload_n 0, 1) := by decide +kernel
theorem dX5_fill_1 : decode cX5_fill 1 = .ok (.aload_n 0, 1) := by decide +kernel
theorem dX5_fill_2 : decode cX5_fill 2 = .ok (.getfield 7, 3) := by decide +kernel
theorem dX5_fill_5 : decode cX5_fill 5 = .ok (.iconst 0, 1) := by decide +kernel
theorem dX5_fill_6 : decode cX5_fill 6 = .ok (.iaload, 1) := by decide +kernel
theorem dX5_fill_7 : decode cX5_fill 7 = .ok (.invokevirtual 60, 3) := by decide +kernel
theorem dX5_fill_10 : decode cX5_fill 10 = .ok (.aload_n 0, 1) := by decide +kernel
theorem dX5_fill_11 : decode cX5_fill 11 = .ok (.iload_n 1, 1) := by decide +kernel
theorem dX5_fill_12 : decode cX5_fill 12 = .ok (.iconst 2, 1) := by decide +kernel
theorem dX5_fill_13 : decode cX5_fill 13 = .ok (.invokevirtual 47, 3) := by decide +kernel
theorem dX5_fill_16 : decode cX5_fill 16 = .ok (.isub, 1) := by decide +kernel
theorem dX5_fill_17 : decode cX5_fill 17 = .ok (.istore_n 2, 1) := by decide +kernel
theorem dX5_fill_18 : decode cX5_fill 18 = .ok (.iload_n 2, 1) := by decide +kernel
theorem dX5_fill_19 : decode cX5_fill 19 = .ok (.ifCond .le 79, 3) := by decide +kernel
theorem dX5_fill_22 : decode cX5_fill 22 = .ok (.aload_n 0, 1) := by decide +kernel
theorem dX5_fill_23 : decode cX5_fill 23 = .ok (.getfield 7, 3) := by decide +kernel
theorem dX5_fill_26 : decode cX5_fill 26 = .ok (.iconst 0, 1) := by decide +kernel
theorem dX5_fill_27 : decode cX5_fill 27 = .ok (.iaload, 1) := by decide +kernel
theorem dX5_fill_28 : decode cX5_fill 28 = .ok (.bipush 12, 2) := by decide +kernel
theorem dX5_fill_30 : decode cX5_fill 30 = .ok (.irem, 1) := by decide +kernel
theorem dX5_fill_31 : decode cX5_fill 31 = .ok (.aload_n 0, 1) := by decide +kernel
theorem dX5_fill_32 : decode cX5_fill 32 = .ok (.iload_n 1, 1) := by decide +kernel
theorem dX5_fill_33 : decode cX5_fill 33 = .ok (.iconst 3, 1) := by decide +kernel
theorem dX5_fill_34 : decode cX5_fill 34 = .ok (.invokevirtual 47, 3) := by decide +kernel
theorem dX5_fill_37 : decode cX5_fill 37 = .ok (.aload_n 0, 1) := by decide +kernel
theorem dX5_fill_38 : decode cX5_fill 38 = .ok (.iload_n 1, 1) := by decide +kernel
theorem dX5_fill_39 : decode cX5_fill 39 = .ok (.iconst 4, 1) := by decide +kernel
theorem dX5_fill_40 : decode cX5_fill 40 = .ok (.invokevirtual 47, 3) := by decide +kernel
theorem dX5_fill_43 : decode cX5_fill 43 = .ok (.invokestatic 36, 3) := by decide +kernel
theorem dX5_fill_46 : decode cX5_fill 46 = .ok (.ifCond .eq 52, 3) := by decide +kernel
theorem dX5_fill_49 : decode cX5_fill 49 = .ok (.aload_n 0, 1) := by decide +kernel
theorem dX5_fill_50 : decode cX5_fill 50 = .ok (.iload_n 1, 1) := by decide +kernel
theorem dX5_fill_51 : decode cX5_fill 51 = .ok (.iconst 0, 1) := by decide +kernel
theorem dX5_fill_52 : decode cX5_fill 52 = .ok (.invokevirtual 47, 3) := by decide +kernel
theorem dX5_fill_55 : decode cX5_fill 55 = .ok (.aload_n 0, 1) := by decide +kernel
theorem dX5_fill_56 : decode cX5_fill 56 = .ok (.iload_n 1, 1) := by decide +kernel
theorem dX5_fill_57 : decode cX5_fill 57 = .ok (.iconst 1, 1) := by decide +kernel
theorem dX5_fill_58 : decode cX5_fill 58 = .ok (.invokevirtual 47, 3) := by decide +kernel
theorem dX5_fill_61 : decode cX5_fill 61 = .ok (.isub, 1) := by decide +kernel
theorem dX5_fill_62 : decode cX5_fill 62 = .ok (.istore_n 3, 1) := by decide +kernel
theorem dX5_fill_63 : decode cX5_fill 63 = .ok (.iconst 2, 1) := by decide +kernel
theorem dX5_fill_64 : decode cX5_fill 64 = .ok (.iload_n 2, 1) := by decide +kernel
theorem dX5_fill_65 : decode cX5_fill 65 = .ok (.imul, 1) := by decide +kernel
theorem dX5_fill_66 : decode cX5_fill 66 = .ok (.iload_n 3, 1) := by decide +kernel
theorem dX5_fill_67 : decode cX5_fill 67 = .ok (.if_icmp .ge 9, 3) := by decide +kernel
theorem dX5_fill_70 : decode cX5_fill 70 = .ok (.iconst 2, 1) := by decide +kernel
theorem dX5_fill_71 : decode cX5_fill 71 = .ok (.iload_n 2, 1) := by decide +kernel
theorem dX5_fill_72 : decode cX5_fill 72 = .ok (.imul, 1) := by decide +kernel
theorem dX5_fill_73 : decode cX5_fill 73 = .ok (.goto 4, 3) := by decide +kernel
theorem dX5_fill_76 : decode cX5_fill 76 = .ok (.iload_n 3, 1) := by decide +kernel
theorem dX5_fill_77 : decode cX5_fill 77 = .ok (.istore 4, 2) := by decide +kernel
theorem dX5_fill_79 : decode cX5_fill 79 = .ok (.aload_n 0, 1) := by decide +kernel
theorem dX5_fill_80 : decode cX5_fill 80 = .ok (.iload_n 1, 1) := by decide +kernel
theorem dX5_fill_81 : decode cX5_fill 81 = .ok (.iconst 1, 1) := by decide +kernel
theorem dX5_fill_82 : decode cX5_fill 82 = .ok (.iload 4, 2) := by decide +kernel
theorem dX5_fill_84 : decode cX5_fill 84 = .ok (.invokevirtual 57, 3) := by decide +kernel
theorem dX5_fill_87 : decode cX5_fill 87 = .ok (.aload_n 0, 1) := by decide +kernel
theorem dX5_fill_88 : decode cX5_fill 88 = .ok (.getfield 7, 3) := by decide +kernel
theorem dX5_fill_91 : decode cX5_fill 91 = .ok (.iconst 3, 1) := by decide +kernel
theorem dX5_fill_92 : decode cX5_fill 92 = .ok (.dup2, 1) := by decide +kernel
theorem dX5_fill_93 : decode cX5_fill 93 = .ok (.iaload, 1) := by decide +kernel
theorem dX5_fill_94 : decode cX5_fill 94 = .ok (.iload 4, 2) := by decide +kernel
theorem dX5_fill_96 : decode cX5_fill 96 = .ok (.iadd, 1) := by decide +kernel
theorem dX5_fill_97 : decode cX5_fill 97 = .ok (.iastore, 1) := by decide +kernel
theorem dX5_fill_98 : decode cX5_fill 98 = .ok (.return_, 1) := by decide +kernel
theorem dX5_reason_0 : decode cX5_reason 0 = .ok (.aload_n 0, 1) := by decide +kernel
theorem dX5_reason_1 : decode cX5_reason 1 = .ok (.iload_n 1, 1) := by decide +kernel
theorem dX5_reason_2 : decode cX5_reason 2 = .ok (.bipush 9, 2) := by decide +kernel
theorem dX5_reason_4 : decode cX5_reason 4 = .ok (.invokevirtual 47, 3) := by decide +kernel
theorem dX5_reason_7 : decode cX5_reason 7 = .ok (.ifCond .ne 5, 3) := by decide +kernel
theorem dX5_reason_10 : decode cX5_reason 10 = .ok (.iconst 1, 1) := by decide +kernel
theorem dX5_reason_11 : decode cX5_reason 11 = .ok (.ireturn, 1) := by decide +kernel
theorem dX5_reason_12 : decode cX5_reason 12 = .ok (.aload_n 0, 1) := by decide +kernel
theorem dX5_reason_13 : decode cX5_reason 13 = .ok (.iload_n 1, 1) := by decide +kernel
theorem dX5_reason_14 : decode cX5_reason 14 = .ok (.invokevirtual 64, 3) := by decide +kernel
theorem dX5_reason_17 : decode cX5_reason 17 = .ok (.aload_n 0, 1) := by decide +kernel
theorem dX5_reason_18 : decode cX5_reason 18 = .ok (.getfield 7, 3) := by decide +kernel
theorem dX5_reason_21 : decode cX5_reason 21 = .ok (.bipush 10, 2) := by decide +kernel
theorem dX5_reason_23 : decode cX5_reason 23 = .ok (.iaload, 1) := by decide +kernel
theorem dX5_reason_24 : decode cX5_reason 24 = .ok (.if_icmp .ge 7, 3) := by decide +kernel
theorem dX5_reason_27 : decode cX5_reason 27 = .ok (.iconst 2, 1) := by decide +kernel
theorem dX5_reason_28 : decode cX5_reason 28 = .ok (.goto 24, 3) := by decide +kernel
theorem dX5_reason_31 : decode cX5_reason 31 = .ok (.aload_n 0, 1) := by decide +kernel
theorem dX5_reason_32 : decode cX5_reason 32 = .ok (.iload_n 1, 1) := by decide +kernel
theorem dX5_reason_33 : decode cX5_reason 33 = .ok (.iconst 1, 1) := by decide +kernel
theorem dX5_reason_34 : decode cX5_reason 34 = .ok (.invokevirtual 47, 3) := by decide +kernel
theorem dX5_reason_37 : decode cX5_reason 37 = .ok (.aload_n 0, 1) := by decide +kernel
theorem dX5_reason_38 : decode cX5_reason 38 = .ok (.getfield 7, 3) := by decide +kernel
theorem dX5_reason_41 : decode cX5_reason 41 = .ok (.bipush 11, 2) := by decide +kernel
theorem dX5_reason_43 : decode cX5_reason 43 = .ok (.iaload, 1) := by decide +kernel
theorem dX5_reason_44 : decode cX5_reason 44 = .ok (.if_icmp .ge 7, 3) := by decide +kernel
