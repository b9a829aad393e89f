theorem dX0_init_0 : decode cX0_init 0 = .ok (.aload_n 0, 1) := by decide +kernel
theorem dX0_init_1 : decode cX0_init 1 = .ok (.invokespecial 3, 3) := by decide +kernel
theorem dX0_init_4 : decode cX0_init 4 = .ok (.aload_n 0, 1) := by decide +kernel
theorem dX0_init_5 : decode cX0_init 5 = .ok (.bipush 20, 2) := by decide +kernel
theorem dX0_init_7 : decode cX0_init 7 = .ok (.putfield 9, 3) := by decide +kernel
theorem dX0_init_10 : decode cX0_init 10 = .ok (.aload_n 0, 1) := by decide +kernel
theorem dX0_init_11 : decode cX0_init 11 = .ok (.bipush 20, 2) := by decide +kernel
theorem dX0_init_13 : decode cX0_init 13 = .ok (.putfield 15, 3) := by decide +kernel
theorem dX0_init_16 : decode cX0_init 16 = .ok (.return_, 1) := by decide +kernel
theorem dX0_copyFrom_0 : decode cX0_copyFrom 0 = .ok (.aload_n 0, 1) := by decide +kernel
theorem dX0_copyFrom_1 : decode cX0_copyFrom 1 = .ok (.aload_n 1, 1) := by decide +kernel
theorem dX0_copyFrom_2 : decode cX0_copyFrom 2 = .ok (.getfield 18, 3) := by decide +kernel
theorem dX0_copyFrom_5 : decode cX0_copyFrom 5 = .ok (.putfield 18, 3) := by decide +kernel
theorem dX0_copyFrom_8 : decode cX0_copyFrom 8 = .ok (.aload_n 0, 1) := by decide +kernel
theorem dX0_copyFrom_9 : decode cX0_copyFrom 9 = .ok (.aload_n 1, 1) := by decide +kernel
theorem dX0_copyFrom_10 : decode cX0_copyFrom 10 = .ok (.getfield 21, 3) := by decide +kernel
theorem dX0_copyFrom_13 : decode cX0_copyFrom 13 = .ok (.putfield 21, 3) := by decide +kernel
theorem dX0_copyFrom_16 : decode cX0_copyFrom 16 = .ok (.aload_n 0, 1) := by decide +kernel
theorem dX0_copyFrom_17 : decode cX0_copyFrom 17 = .ok (.aload_n 1, 1) := by decide +kernel
theorem dX0_copyFrom_18 : decode cX0_copyFrom 18 = .ok (.getfield 24, 3) := by decide +kernel
theorem dX0_copyFrom_21 : decode cX0_copyFrom 21 = .ok (.putfield 24, 3) := by decide +kernel
theorem dX0_copyFrom_24 : decode cX0_copyFrom 24 = .ok (.aload_n 0, 1) := by decide +kernel
theorem dX0_copyFrom_25 : decode cX0_copyFrom 25 = .ok (.aload_n 1, 1) := by decide +kernel
theorem dX0_copyFrom_26 : decode cX0_copyFrom 26 = .ok (.getfield 27, 3) := by decide +kernel
theorem dX0_copyFrom_29 : decode cX0_copyFrom 29 = .ok (.putfield 27, 3) := by decide +kernel
theorem dX0_copyFrom_32 : decode cX0_copyFrom 32 = .ok (.aload_n 0, 1) := by decide +kernel
theorem dX0_copyFrom_33 : decode cX0_copyFrom 33 = .ok (.aload_n 1, 1) := by decide +kernel
theorem dX0_copyFrom_34 : decode cX0_copyFrom 34 = .ok (.getfield 30, 3) := by decide +kernel
theorem dX0_copyFrom_37 : decode cX0_copyFrom 37 = .ok (.putfield 30, 3) := by decide +kernel
theorem dX0_copyFrom_40 : decode cX0_copyFrom 40 = .ok (.aload_n 0, 1) := by decide +kernel
theorem dX0_copyFrom_41 : decode cX0_copyFrom 41 = .ok (.aload_n 1, 1) := by decide +kernel
theorem dX0_copyFrom_42 : decode cX0_copyFrom 42 = .ok (.getfield 33, 3) := by decide +kernel
theorem dX0_copyFrom_45 : decode cX0_copyFrom 45 = .ok (.putfield 33, 3) := by decide +kernel
theorem dX0_copyFrom_48 : decode cX0_copyFrom 48 = .ok (.aload_n 0, 1) := by decide +kernel
theorem dX0_copyFrom_49 : decode cX0_copyFrom 49 = .ok (.aload_n 1, 1) := by decide +kernel
theorem dX0_copyFrom_50 : decode cX0_copyFrom 50 = .ok (.getfield 36, 3) := by decide +kernel
theorem dX0_copyFrom_53 : decode cX0_copyFrom 53 = .ok (.putfield 36, 3) := by decide +kernel
theorem dX0_copyFrom_56 : decode cX0_copyFrom 56 = .ok (.aload_n 0, 1) := by decide +kernel
theorem dX0_copyFrom_57 : decode cX0_copyFrom 57 = .ok (.aload_n 1, 1) := by decide +kernel
theorem dX0_copyFrom_58 : decode cX0_copyFrom 58 = .ok (.getfield 39, 3) := by decide +kernel
theorem dX0_copyFrom_61 : decode cX0_copyFrom 61 = .ok (.putfield 39, 3) := by decide +kernel
theorem dX0_copyFrom_64 : decode cX0_copyFrom 64 = .ok (.aload_n 0, 1) := by decide +kernel
theorem dX0_copyFrom_65 : decode cX0_copyFrom 65 = .ok (.aload_n 1, 1) := by decide +kernel
theorem dX0_copyFrom_66 : decode cX0_copyFrom 66 = .ok (.getfield 42, 3) := by decide +kernel
theorem dX0_copyFrom_69 : decode cX0_copyFrom 69 = .ok (.putfield 42, 3) := by decide +kernel
theorem dX0_copyFrom_72 : decode cX0_copyFrom 72 = .ok (.aload_n 0, 1) := by decide +kernel
theorem dX0_copyFrom_73 : decode cX0_copyFrom 73 = .ok (.aload_n 1, 1) := by decide +kernel
theorem dX0_copyFrom_74 : decode cX0_copyFrom 74 = .ok (.getfield 9, 3) := by decide +kernel
theorem dX0_copyFrom_77 : decode cX0_copyFrom 77 = .ok (.putfield 9, 3) := by decide +kernel
theorem dX0_copyFrom_80 : decode cX0_copyFrom 80 = .ok (.aload_n 0, 1) := by decide +kernel
theorem dX0_copyFrom_81 : decode cX0_copyFrom 81 = .ok (.aload_n 1, 1) := by decide +kernel
theorem dX0_copyFrom_82 : decode cX0_copyFrom 82 = .ok (.getfield 15, 3) := by decide +kernel
theorem dX0_copyFrom_85 : decode cX0_copyFrom 85 = .ok (.putfield 15, 3) := by decide +kernel
theorem dX0_copyFrom_88 : decode cX0_copyFrom 88 = .ok (.aload_n 0, 1) := by decide +kernel
theorem dX0_copyFrom_89 : decode cX0_copyFrom 89 = .ok (.aload_n 1, 1) := by decide +kernel
theorem dX0_copyFrom_90 : decode cX0_copyFrom 90 = .ok (.getfield 45, 3) := by decide +kernel
theorem dX0_copyFrom_93 : decode cX0_copyFrom 93 = .ok (.putfield 45, 3) := by decide +kernel
theorem dX0_copyFrom_96 : decode cX0_copyFrom 96 = .ok (.aload_n 0, 1) := by decide +kernel
theorem dX0_copyFrom_97 : decode cX0_copyFrom 97 = .ok (.aload_n 1, 1) := by decide +kernel
theorem dX0_copyFrom_98 : decode cX0_copyFrom 98 = .ok (.getfield 48, 3) := by decide +kernel
theorem dX0_copyFrom_101 : decode cX0_copyFrom 101 = .ok (.putfield 48, 3) := by decide +kernel
theorem dX0_copyFrom_104 : decode cX0_copyFrom 104 = .ok (.return_, 1) := by decide +kernel
theorem dX0_weight_0 : decode cX0_weight 0 = .ok (.aload_n 0, 1) := by decide +kernel
theorem dX0_weight_1 : decode cX0_weight 1 = .ok (.iconst 0, 1) := by decide +kernel
theorem dX0_weight_2 : decode cX0_weight 2 = .ok (.invokevirtual 51, 3) := by decide +kernel
theorem dX0_weight_5 : decode cX0_weight 5 = .ok (.ireturn, 1) := by decide +kernel
theorem dX0_weightWith_0 : decode cX0_weightWith 0 = .ok (.aload_n 0, 1) := by decide +kernel
theorem dX0_weightWith_1 : decode cX0_weightWith 1 = .ok (.getfield 18, 3) := by decide +kernel
theorem dX0_weightWith_4 : decode cX0_weightWith 4 = .ok (.bipush 9, 2) := by decide +kernel
theorem dX0_weightWith_6 : decode cX0_weightWith 6 = .ok (.iadd, 1) := by decide +kernel
theorem dX0_weightWith_7 : decode cX0_weightWith 7 = .ok (.bipush 10, 2) := by decide +kernel
theorem dX0_weightWith_9 : decode cX0_weightWith 9 = .ok (.idiv, 1) := by decide +kernel
theorem dX0_weightWith_10 : decode cX0_weightWith 10 = .ok (.aload_n 0, 1) := by decide +kernel
theorem dX0_weightWith_11 : decode cX0_weightWith 11 = .ok (.getfield 24, 3) := by decide +kernel
theorem dX0_weightWith_14 : decode cX0_weightWith 14 = .ok (.iadd, 1) := by decide +kernel
theorem dX0_weightWith_15 : decode cX0_weightWith 15 = .ok (.aload_n 0, 1) := by decide +kernel
theorem dX0_weightWith_16 : decode cX0_weightWith 16 = .ok (.getfield 30, 3) := by decide +kernel
theorem dX0_weightWith_19 : decode cX0_weightWith 19 = .ok (.iadd, 1) := by decide +kernel
theorem dX0_weightWith_20 : decode cX0_weightWith 20 = .ok (.aload_n 0, 1) := by decide +kernel
theorem dX0_weightWith_21 : decode cX0_weightWith 21 = .ok (.getfield 36, 3) := by decide +kernel
theorem dX0_weightWith_24 : decode cX0_weightWith 24 = .ok (.iload_n 1, 1) := by decide +kernel
theorem dX0_weightWith_25 : decode cX0_weightWith 25 = .ok (.iadd, 1) := by decide +kernel
theorem dX0_weightWith_26 : decode cX0_weightWith 26 = .ok (.iconst 2, 1) := by decide +kernel
theorem dX0_weightWith_27 : decode cX0_weightWith 27 = .ok (.iadd, 1) := by decide +kernel
theorem dX0_weightWith_28 : decode cX0_weightWith 28 = .ok (.iconst 3, 1) := by decide +kernel
theorem dX0_weightWith_29 : decode cX0_weightWith 29 = .ok (.idiv, 1) := by decide +kernel
theorem dX0_weightWith_30 : decode cX0_weightWith 30 = .ok (.iadd, 1) := by decide +kernel
theorem dX0_weightWith_31 : decode cX0_weightWith 31 = .ok (.ireturn, 1) := by decide +kernel
theorem dX0_bears_0 : decode cX0_bears 0 = .ok (.aload_n 0, 1) := by decide +kernel
theorem dX0_bears_1 : decode cX0_bears 1 = .ok (.getfield 21, 3) := by decide +kernel
theorem dX0_bears_4 : decode cX0_bears 4 = .ok (.aload_n 0, 1) := by decide +kernel
theorem dX0_bears_5 : decode cX0_bears 5 = .ok (.iconst 0, 1) := by decide +kernel
theorem dX0_bears_6 : decode cX0_bears 6 = .ok (.invokevirtual 51, 3) := by decide +kernel
theorem dX0_bears_9 : decode cX0_bears 9 = .ok (.isub, 1) := by decide +kernel
theorem dX0_bears_10 : decode cX0_bears 10 = .ok (.ireturn, 1) := by decide +kernel
theorem dX0_distance_0 : decode cX0_distance 0 = .ok (.aload_n 0, 1) := by decide +kernel
theorem dX0_distance_1 : decode cX0_distance 1 = .ok (.getfield 9, 3) := by decide +kernel
theorem dX0_distance_4 : decode cX0_distance 4 = .ok (.aload_n 0, 1) := by decide +kernel
theorem dX0_distance_5 : decode cX0_distance 5 = .ok (.getfield 15, 3) := by decide +kernel
theorem dX0_distance_8 : decode cX0_distance 8 = .ok (.invokestatic 55, 3) := by decide +kernel
theorem dX0_distance_11 : decode cX0_distance 11 = .ok (.ireturn, 1) := by decide +kernel
theorem dX0_sendsWord_0 : decode cX0_sendsWord 0 = .ok (.aload_n 0, 1) := by decide +kernel
theorem dX0_sendsWord_1 : decode cX0_sendsWord 1 = .ok (.getfield 39, 3) := by decide +kernel
theorem dX0_sendsWord_4 : decode cX0_sendsWord 4 = .ok (.iconst 2, 1) := by decide +kernel
theorem dX0_sendsWord_5 : decode cX0_sendsWord 5 = .ok (.if_icmp .ne 14, 3) := by decide +kernel
theorem dX0_sendsWord_8 : decode cX0_sendsWord 8 = .ok (.aload_n 0, 1) := by decide +kernel
theorem dX0_sendsWord_9 : decode cX0_sendsWord 9 = .ok (.getfield 27, 3) := by decide +kernel
theorem dX0_sendsWord_12 : decode cX0_sendsWord 12 = .ok (.ifCond .le 7, 3) := by decide +kernel
theorem dX0_sendsWord_15 : decode cX0_sendsWord 15 = .ok (.iconst 1, 1) := by decide +kernel
theorem dX0_sendsWord_16 : decode cX0_sendsWord 16 = .ok (.goto 4, 3) := by decide +kernel
theorem dX0_sendsWord_19 : decode cX0_sendsWord 19 = .ok (.iconst 0, 1) := by decide +kernel
theorem dX0_sendsWord_20 : decode cX0_sendsWord 20 = .ok (.ireturn, 1) := by decide +kernel
theorem dX0_numberOf_0 : decode cX0_numberOf 0 = .ok (.iload_n 1, 1) := by decide +kernel
theorem dX0_numberOf_1 : decode cX0_numberOf 1 = .ok (.tableswitch 114 0 10 #[59, 64, 69, 74, 79, 84, 89, 94, 99, 104, 109], 59) := by decide +kernel
theorem dX0_numberOf_60 : decode cX0_numberOf 60 = .ok (.aload_n 0, 1) := by decide +kernel
theorem dX0_numberOf_61 : decode cX0_numberOf 61 = .ok (.getfield 18, 3) := by decide +kernel
theorem dX0_numberOf_64 : decode cX0_numberOf 64 = .ok (.ireturn, 1) := by decide +kernel
theorem dX0_numberOf_65 : decode cX0_numberOf 65 = .ok (.aload_n 0, 1) := by decide +kernel
theorem dX0_numberOf_66 : decode cX0_numberOf 66 = .ok (.getfield 21, 3) := by decide +kernel
theorem dX0_numberOf_69 : decode cX0_numberOf 69 = .ok (.ireturn, 1) := by decide +kernel
theorem dX0_numberOf_70 : decode cX0_numberOf 70 = .ok (.aload_n 0, 1) := by decide +kernel
theorem dX0_numberOf_71 : decode cX0_numberOf 71 = .ok (.getfield 24, 3) := by decide +kernel
theorem dX0_numberOf_74 : decode cX0_numberOf 74 = .ok (.ireturn, 1) := by decide +kernel
theorem dX0_numberOf_75 : decode cX0_numberOf 75 = .ok (.aload_n 0, 1) := by decide +kernel
theorem dX0_numberOf_76 : decode cX0_numberOf 76 = .ok (.getfield 27, 3) := by decide +kernel
theorem dX0_numberOf_79 : decode cX0_numberOf 79 = .ok (.ireturn, 1) := by decide +kernel
theorem dX0_numberOf_80 : decode cX0_numberOf 80 = .ok (.aload_n 0, 1) := by decide +kernel
theorem dX0_numberOf_81 : decode cX0_numberOf 81 = .ok (.getfield 33, 3) := by decide +kernel
theorem dX0_numberOf_84 : decode cX0_numberOf 84 = .ok (.ireturn, 1) := by decide +kernel
theorem dX0_numberOf_85 : decode cX0_numberOf 85 = .ok (.aload_n 0, 1) := by decide +kernel
theorem dX0_numberOf_86 : decode cX0_numberOf 86 = .ok (.invokevirtual 59, 3) := by decide +kernel
theorem dX0_numberOf_89 : decode cX0_numberOf 89 = .ok (.ireturn, 1) := by decide +kernel
theorem dX0_numberOf_90 : decode cX0_numberOf 90 = .ok (.aload_n 0, 1) := by decide +kernel
theorem dX0_numberOf_91 : decode cX0_numberOf 91 = .ok (.invokevirtual 63, 3) := by decide +kernel
theorem dX0_numberOf_94 : decode cX0_numberOf 94 = .ok (.ireturn, 1) := by decide +kernel
theorem dX0_numberOf_95 : decode cX0_numberOf 95 = .ok (.aload_n 0, 1) := by decide +kernel
theorem dX0_numberOf_96 : decode cX0_numberOf 96 = .ok (.getfield 39, 3) := by decide +kernel
theorem dX0_numberOf_99 : decode cX0_numberOf 99 = .ok (.ireturn, 1) := by decide +kernel
theorem dX0_numberOf_100 : decode cX0_numberOf 100 = .ok (.aload_n 0, 1) := by decide +kernel
theorem dX0_numberOf_101 : decode cX0_numberOf 101 = .ok (.getfield 42, 3) := by decide +kernel
theorem dX0_numberOf_104 : decode cX0_numberOf 104 = .ok (.ireturn, 1) := by decide +kernel
theorem dX0_numberOf_105 : decode cX0_numberOf 105 = .ok (.aload_n 0, 1) := by decide +kernel
theorem dX0_numberOf_106 : decode cX0_numberOf 106 = .ok (.getfield 9, 3) := by decide +kernel
theorem dX0_numberOf_109 : decode cX0_numberOf 109 = .ok (.ireturn, 1) := by decide +kernel
theorem dX0_numberOf_110 : decode cX0_numberOf 110 = .ok (.aload_n 0, 1) := by decide +kernel
theorem dX0_numberOf_111 : decode cX0_numberOf 111 = .ok (.getfield 15, 3) := by decide +kernel
theorem dX0_numberOf_114 : decode cX0_numberOf 114 = .ok (.ireturn, 1) := by decide +kernel
theorem dX0_numberOf_115 : decode cX0_numberOf 115 = .ok (.aload_n 0, 1) := by decide +kernel
theorem dX0_numberOf_116 : decode cX0_numberOf 116 = .ok (.getfield 45, 3) := by decide +kernel
theorem dX0_numberOf_119 : decode cX0_numberOf 119 = .ok (.ireturn, 1) := by decide +kernel
theorem dX0_flyAnHour_0 : decode cX0_flyAnHour 0 = .ok (.aload_n 0, 1) := by decide +kernel
theorem dX0_flyAnHour_1 : decode cX0_flyAnHour 1 = .ok (.dup, 1) := by decide +kernel
theorem dX0_flyAnHour_2 : decode cX0_flyAnHour 2 = .ok (.getfield 45, 3) := by decide +kernel
theorem dX0_flyAnHour_5 : decode cX0_flyAnHour 5 = .ok (.iconst 1, 1) := by decide +kernel
theorem dX0_flyAnHour_6 : decode cX0_flyAnHour 6 = .ok (.iadd, 1) := by decide +kernel
theorem dX0_flyAnHour_7 : decode cX0_flyAnHour 7 = .ok (.putfield 45, 3) := by decide +kernel
theorem dX0_flyAnHour_10 : decode cX0_flyAnHour 10 = .ok (.aload_n 0, 1) := by decide +kernel
theorem dX0_flyAnHour_11 : decode cX0_flyAnHour 11 = .ok (.dup, 1) := by decide +kernel
theorem dX0_flyAnHour_12 : decode cX0_flyAnHour 12 = .ok (.getfield 21, 3) := by decide +kernel
theorem dX0_flyAnHour_15 : decode cX0_flyAnHour 15 = .ok (.aload_n 0, 1) := by decide +kernel
theorem dX0_flyAnHour_16 : decode cX0_flyAnHour 16 = .ok (.getfield 21, 3) := by decide +kernel
theorem dX0_flyAnHour_19 : decode cX0_flyAnHour 19 = .ok (.bipush 19, 2) := by decide +kernel
theorem dX0_flyAnHour_21 : decode cX0_flyAnHour 21 = .ok (.iadd, 1) := by decide +kernel
theorem dX0_flyAnHour_22 : decode cX0_flyAnHour 22 = .ok (.bipush 20, 2) := by decide +kernel
theorem dX0_flyAnHour_24 : decode cX0_flyAnHour 24 = .ok (.idiv, 1) := by decide +kernel
theorem dX0_flyAnHour_25 : decode cX0_flyAnHour 25 = .ok (.isub, 1) := by decide +kernel
theorem dX0_flyAnHour_26 : decode cX0_flyAnHour 26 = .ok (.putfield 21, 3) := by decide +kernel
theorem dX0_flyAnHour_29 : decode cX0_flyAnHour 29 = .ok (.aload_n 0, 1) := by decide +kernel
theorem dX0_flyAnHour_30 : decode cX0_flyAnHour 30 = .ok (.invokevirtual 63, 3) := by decide +kernel
theorem dX0_flyAnHour_33 : decode cX0_flyAnHour 33 = .ok (.istore_n 2, 1) := by decide +kernel
theorem dX0_flyAnHour_34 : decode cX0_flyAnHour 34 = .ok (.iload_n 2, 1) := by decide +kernel
theorem dX0_flyAnHour_35 : decode cX0_flyAnHour 35 = .ok (.ifCond .ge 28, 3) := by decide +kernel
theorem dX0_flyAnHour_38 : decode cX0_flyAnHour 38 = .ok (.aload_n 0, 1) := by decide +kernel
theorem dX0_flyAnHour_39 : decode cX0_flyAnHour 39 = .ok (.aload_n 1, 1) := by decide +kernel
theorem dX0_flyAnHour_40 : decode cX0_flyAnHour 40 = .ok (.aload_n 0, 1) := by decide +kernel
theorem dX0_flyAnHour_41 : decode cX0_flyAnHour 41 = .ok (.getfield 9, 3) := by decide +kernel
theorem dX0_flyAnHour_44 : decode cX0_flyAnHour 44 = .ok (.aload_n 0, 1) := by decide +kernel
theorem dX0_flyAnHour_45 : decode cX0_flyAnHour 45 = .ok (.getfield 15, 3) := by decide +kernel
theorem dX0_flyAnHour_48 : decode cX0_flyAnHour 48 = .ok (.invokevirtual 66, 3) := by decide +kernel
theorem dX0_flyAnHour_51 : decode cX0_flyAnHour 51 = .ok (.ifCond .eq 7, 3) := by decide +kernel
theorem dX0_flyAnHour_54 : decode cX0_flyAnHour 54 = .ok (.iconst 3, 1) := by decide +kernel
theorem dX0_flyAnHour_55 : decode cX0_flyAnHour 55 = .ok (.goto 4, 3) := by decide +kernel
theorem dX0_flyAnHour_58 : decode cX0_flyAnHour 58 = .ok (.iconst 2, 1) := by decide +kernel
theorem dX0_flyAnHour_59 : decode cX0_flyAnHour 59 = .ok (.invokevirtual 72, 3) := by decide +kernel
theorem dX0_flyAnHour_62 : decode cX0_flyAnHour 62 = .ok (.return_, 1) := by decide +kernel
theorem dX0_flyAnHour_63 : decode cX0_flyAnHour 63 = .ok (.aload_n 0, 1) := by decide +kernel
theorem dX0_flyAnHour_64 : decode cX0_flyAnHour 64 = .ok (.iload_n 2, 1) := by decide +kernel
theorem dX0_flyAnHour_65 : decode cX0_flyAnHour 65 = .ok (.iconst 4, 1) := by decide +kernel
theorem dX0_flyAnHour_66 : decode cX0_flyAnHour 66 = .ok (.idiv, 1) := by decide +kernel
theorem dX0_flyAnHour_67 : decode cX0_flyAnHour 67 = .ok (.iconst 5, 1) := by decide +kernel
theorem dX0_flyAnHour_68 : decode cX0_flyAnHour 68 = .ok (.invokestatic 76, 3) := by decide +kernel
theorem dX0_flyAnHour_71 : decode cX0_flyAnHour 71 = .ok (.putfield 42, 3) := by decide +kernel
theorem dX0_flyAnHour_74 : decode cX0_flyAnHour 74 = .ok (.aload_n 0, 1) := by decide +kernel
theorem dX0_flyAnHour_75 : decode cX0_flyAnHour 75 = .ok (.dup, 1) := by decide +kernel
theorem dX0_flyAnHour_76 : decode cX0_flyAnHour 76 = .ok (.getfield 9, 3) := by decide +kernel
theorem dX0_flyAnHour_79 : decode cX0_flyAnHour 79 = .ok (.aload_n 1, 1) := by decide +kernel
theorem dX0_flyAnHour_80 : decode cX0_flyAnHour 80 = .ok (.getfield 81, 3) := by decide +kernel
theorem dX0_flyAnHour_83 : decode cX0_flyAnHour 83 = .ok (.aload_n 0, 1) := by decide +kernel
theorem dX0_flyAnHour_84 : decode cX0_flyAnHour 84 = .ok (.getfield 42, 3) := by decide +kernel
theorem dX0_flyAnHour_87 : decode cX0_flyAnHour 87 = .ok (.iaload, 1) := by decide +kernel
theorem dX0_flyAnHour_88 : decode cX0_flyAnHour 88 = .ok (.iadd, 1) := by decide +kernel
theorem dX0_flyAnHour_89 : decode cX0_flyAnHour 89 = .ok (.putfield 9, 3) := by decide +kernel
theorem dX0_flyAnHour_92 : decode cX0_flyAnHour 92 = .ok (.aload_n 0, 1) := by decide +kernel
theorem dX0_flyAnHour_93 : decode cX0_flyAnHour 93 = .ok (.dup, 1) := by decide +kernel
theorem dX0_flyAnHour_94 : decode cX0_flyAnHour 94 = .ok (.getfield 15, 3) := by decide +kernel
theorem dX0_flyAnHour_97 : decode cX0_flyAnHour 97 = .ok (.aload_n 1, 1) := by decide +kernel
theorem dX0_flyAnHour_98 : decode cX0_flyAnHour 98 = .ok (.getfield 85, 3) := by decide +kernel
theorem dX0_flyAnHour_101 : decode cX0_flyAnHour 101 = .ok (.aload_n 0, 1) := by decide +kernel
theorem dX0_flyAnHour_102 : decode cX0_flyAnHour 102 = .ok (.getfield 42, 3) := by decide +kernel
theorem dX0_flyAnHour_105 : decode cX0_flyAnHour 105 = .ok (.iaload, 1) := by decide +kernel
theorem dX0_flyAnHour_106 : decode cX0_flyAnHour 106 = .ok (.iadd, 1) := by decide +kernel
theorem dX0_flyAnHour_107 : decode cX0_flyAnHour 107 = .ok (.putfield 15, 3) := by decide +kernel
theorem dX0_flyAnHour_110 : decode cX0_flyAnHour 110 = .ok (.aload_n 0, 1) := by decide +kernel
theorem dX0_flyAnHour_111 : decode cX0_flyAnHour 111 = .ok (.getfield 9, 3) := by decide +kernel
theorem dX0_flyAnHour_114 : decode cX0_flyAnHour 114 = .ok (.aload_n 0, 1) := by decide +kernel
theorem dX0_flyAnHour_115 : decode cX0_flyAnHour 115 = .ok (.getfield 15, 3) := by decide +kernel
theorem dX0_flyAnHour_118 : decode cX0_flyAnHour 118 = .ok (.invokestatic 88, 3) := by decide +kernel
theorem dX0_flyAnHour_121 : decode cX0_flyAnHour 121 = .ok (.ifCond .ne 8, 3) := by decide +kernel
theorem dX0_flyAnHour_124 : decode cX0_flyAnHour 124 = .ok (.aload_n 0, 1) := by decide +kernel
theorem dX0_flyAnHour_125 : decode cX0_flyAnHour 125 = .ok (.iconst 3, 1) := by decide +kernel
theorem dX0_flyAnHour_126 : decode cX0_flyAnHour 126 = .ok (.invokevirtual 72, 3) := by decide +kernel
theorem dX0_flyAnHour_129 : decode cX0_flyAnHour 129 = .ok (.return_, 1) := by decide +kernel
theorem dX0_end_0 : decode cX0_end 0 = .ok (.aload_n 0, 1) := by decide +kernel
theorem dX0_end_1 : decode cX0_end 1 = .ok (.iload_n 1, 1) := by decide +kernel
theorem dX0_end_2 : decode cX0_end 2 = .ok (.putfield 39, 3) := by decide +kernel
theorem dX0_end_5 : decode cX0_end 5 = .ok (.aload_n 0, 1) := by decide +kernel
theorem dX0_end_6 : decode cX0_end 6 = .ok (.iconst 0, 1) := by decide +kernel
theorem dX0_end_7 : decode cX0_end 7 = .ok (.putfield 42, 3) := by decide +kernel
theorem dX0_end_10 : decode cX0_end 10 = .ok (.return_, 1) := by decide +kernel
theorem dX1_init_0 : decode cX1_init 0 = .ok (.aload_n 0, 1) := by decide +kernel
theorem dX1_init_1 : decode cX1_init 1 = .ok (.invokespecial 3, 3) := by decide +kernel
theorem dX1_init_4 : decode cX1_init 4 = .ok (.aload_n 0, 1) := by decide +kernel
theorem dX1_init_5 : decode cX1_init 5 = .ok (.bipush 9, 2) := by decide +kernel
theorem dX1_init_7 : decode cX1_init 7 = .ok (.anewarray 9, 3) := by decide +kernel
theorem dX1_init_10 : decode cX1_init 10 = .ok (.putfield 11, 3) := by decide +kernel
theorem dX1_init_13 : decode cX1_init 13 = .ok (.iconst 0, 1) := by decide +kernel
theorem dX1_init_14 : decode cX1_init 14 = .ok (.istore_n 1, 1) := by decide +kernel
theorem dX1_init_15 : decode cX1_init 15 = .ok (.iload_n 1, 1) := by decide +kernel
theorem dX1_init_16 : decode cX1_init 16 = .ok (.bipush 8, 2) := by decide +kernel
theorem dX1_init_18 : decode cX1_init 18 = .ok (.if_icmp .gt 22, 3) := by decide +kernel
theorem dX1_init_21 : decode cX1_init 21 = .ok (.aload_n 0, 1) := by decide +kernel
theorem dX1_init_22 : decode cX1_init 22 = .ok (.getfield 11, 3) := by decide +kernel
theorem dX1_init_25 : decode cX1_init 25 = .ok (.iload_n 1, 1) := by decide +kernel
theorem dX1_init_26 : decode cX1_init 26 = .ok (.new 9, 3) := by decide +kernel
theorem dX1_init_29 : decode cX1_init 29 = .ok (.dup, 1) := by decide +kernel
theorem dX1_init_30 : decode cX1_init 30 = .ok (.invokespecial 17, 3) := by decide +kernel
theorem dX1_init_33 : decode cX1_init 33 = .ok (.aastore, 1) := by decide +kernel
theorem dX1_init_34 : decode cX1_init 34 = .ok (.iinc 1 1, 3) := by decide +kernel
theorem dX1_init_37 : decode cX1_init 37 = .ok (.goto (-22), 3) := by decide +kernel
theorem dX1_init_40 : decode cX1_init 40 = .ok (.return_, 1) := by decide +kernel
theorem dX1_prepare_0 : decode cX1_prepare 0 = .ok (.aload_n 0, 1) := by decide +kernel
theorem dX1_prepare_1 : decode cX1_prepare 1 = .ok (.getfield 11, 3) := by decide +kernel
theorem dX1_prepare_4 : decode cX1_prepare 4 = .ok (.aload_n 0, 1) := by decide +kernel
theorem dX1_prepare_5 : decode cX1_prepare 5 = .ok (.getfield 18, 3) := by decide +kernel
theorem dX1_prepare_8 : decode cX1_prepare 8 = .ok (.aaload, 1) := by decide +kernel
theorem dX1_prepare_9 : decode cX1_prepare 9 = .ok (.aload_n 1, 1) := by decide +kernel
theorem dX1_prepare_10 : decode cX1_prepare 10 = .ok (.invokevirtual 22, 3) := by decide +kernel
theorem dX1_prepare_13 : decode cX1_prepare 13 = .ok (.return_, 1) := by decide +kernel
theorem dX1_takeBack_0 : decode cX1_takeBack 0 = .ok (.aload_n 1, 1) := by decide +kernel
theorem dX1_takeBack_1 : decode cX1_takeBack 1 = .ok (.aload_n 0, 1) := by decide +kernel
theorem dX1_takeBack_2 : decode cX1_takeBack 2 = .ok (.getfield 11, 3) := by decide +kernel
theorem dX1_takeBack_5 : decode cX1_takeBack 5 = .ok (.aload_n 0, 1) := by decide +kernel
theorem dX1_takeBack_6 : decode cX1_takeBack 6 = .ok (.getfield 18, 3) := by decide +kernel
theorem dX1_takeBack_9 : decode cX1_takeBack 9 = .ok (.aaload, 1) := by decide +kernel
theorem dX1_takeBack_10 : decode cX1_takeBack 10 = .ok (.invokevirtual 22, 3) := by decide +kernel
theorem dX1_takeBack_13 : decode cX1_takeBack 13 = .ok (.return_, 1) := by decide +kernel
theorem dX1_keep_0 : decode cX1_keep 0 = .ok (.aload_n 0, 1) := by decide +kernel
theorem dX1_keep_1 : decode cX1_keep 1 = .ok (.aload_n 0, 1) := by decide +kernel
theorem dX1_keep_2 : decode cX1_keep 2 = .ok (.getfield 18, 3) := by decide +kernel
theorem dX1_keep_5 : decode cX1_keep 5 = .ok (.bipush 8, 2) := by decide +kernel
theorem dX1_keep_7 : decode cX1_keep 7 = .ok (.if_icmp .ge 12, 3) := by decide +kernel
theorem dX1_keep_10 : decode cX1_keep 10 = .ok (.aload_n 0, 1) := by decide +kernel
theorem dX1_keep_11 : decode cX1_keep 11 = .ok (.getfield 18, 3) := by decide +kernel
theorem dX1_keep_14 : decode cX1_keep 14 = .ok (.iconst 1, 1) := by decide +kernel
theorem dX1_keep_15 : decode cX1_keep 15 = .ok (.iadd, 1) := by decide +kernel
theorem dX1_keep_16 : decode cX1_keep 16 = .ok (.goto 4, 3) := by decide +kernel
theorem dX1_keep_19 : decode cX1_keep 19 = .ok (.iconst 0, 1) := by decide +kernel
theorem dX1_keep_20 : decode cX1_keep 20 = .ok (.putfield 18, 3) := by decide +kernel
theorem dX1_keep_23 : decode cX1_keep 23 = .ok (.aload_n 0, 1) := by decide +kernel
theorem dX1_keep_24 : decode cX1_keep 24 = .ok (.getfield 26, 3) := by decide +kernel
theorem dX1_keep_27 : decode cX1_keep 27 = .ok (.bipush 8, 2) := by decide +kernel
theorem dX1_keep_29 : decode cX1_keep 29 = .ok (.if_icmp .ge 13, 3) := by decide +kernel
theorem dX1_keep_32 : decode cX1_keep 32 = .ok (.aload_n 0, 1) := by decide +kernel
theorem dX1_keep_33 : decode cX1_keep 33 = .ok (.dup, 1) := by decide +kernel
theorem dX1_keep_34 : decode cX1_keep 34 = .ok (.getfield 26, 3) := by decide +kernel
theorem dX1_keep_37 : decode cX1_keep 37 = .ok (.iconst 1, 1) := by decide +kernel
theorem dX1_keep_38 : decode cX1_keep 38 = .ok (.iadd, 1) := by decide +kernel
theorem dX1_keep_39 : decode cX1_keep 39 = .ok (.putfield 26, 3) := by decide +kernel
theorem dX1_keep_42 : decode cX1_keep 42 = .ok (.return_, 1) := by decide +kernel
theorem dX1_stepBack_0 : decode cX1_stepBack 0 = .ok (.aload_n 0, 1) := by decide +kernel
theorem dX1_stepBack_1 : decode cX1_stepBack 1 = .ok (.getfield 26, 3) := by decide +kernel
theorem dX1_stepBack_4 : decode cX1_stepBack 4 = .ok (.ifCond .ne 5, 3) := by decide +kernel
theorem dX1_stepBack_7 : decode cX1_stepBack 7 = .ok (.iconst 0, 1) := by decide +kernel
theorem dX1_stepBack_8 : decode cX1_stepBack 8 = .ok (.ireturn, 1) := by decide +kernel
theorem dX1_stepBack_9 : decode cX1_stepBack 9 = .ok (.aload_n 0, 1) := by decide +kernel
theorem dX1_stepBack_10 : decode cX1_stepBack 10 = .ok (.aload_n 0, 1) := by decide +kernel
theorem dX1_stepBack_11 : decode cX1_stepBack 11 = .ok (.getfield 18, 3) := by decide +kernel
theorem dX1_stepBack_14 : decode cX1_stepBack 14 = .ok (.ifCond .le 12, 3) := by decide +kernel
theorem dX1_stepBack_17 : decode cX1_stepBack 17 = .ok (.aload_n 0, 1) := by decide +kernel
theorem dX1_stepBack_18 : decode cX1_stepBack 18 = .ok (.getfield 18, 3) := by decide +kernel
theorem dX1_stepBack_21 : decode cX1_stepBack 21 = .ok (.iconst 1, 1) := by decide +kernel
theorem dX1_stepBack_22 : decode cX1_stepBack 22 = .ok (.isub, 1) := by decide +kernel
theorem dX1_stepBack_23 : decode cX1_stepBack 23 = .ok (.goto 5, 3) := by decide +kernel
theorem dX1_stepBack_26 : decode cX1_stepBack 26 = .ok (.bipush 8, 2) := by decide +kernel
theorem dX1_stepBack_28 : decode cX1_stepBack 28 = .ok (.putfield 18, 3) := by decide +kernel
theorem dX1_stepBack_31 : decode cX1_stepBack 31 = .ok (.aload_n 0, 1) := by decide +kernel
theorem dX1_stepBack_32 : decode cX1_stepBack 32 = .ok (.dup, 1) := by decide +kernel
theorem dX1_stepBack_33 : decode cX1_stepBack 33 = .ok (.getfield 26, 3) := by decide +kernel
theorem dX1_stepBack_36 : decode cX1_stepBack 36 = .ok (.iconst 1, 1) := by decide +kernel
theorem dX1_stepBack_37 : decode cX1_stepBack 37 = .ok (.isub, 1) := by decide +kernel
theorem dX1_stepBack_38 : decode cX1_stepBack 38 = .ok (.putfield 26, 3) := by decide +kernel
theorem dX1_stepBack_41 : decode cX1_stepBack 41 = .ok (.aload_n 1, 1) := by decide +kernel
theorem dX1_stepBack_42 : decode cX1_stepBack 42 = .ok (.aload_n 0, 1) := by decide +kernel
theorem dX1_stepBack_43 : decode cX1_stepBack 43 = .ok (.getfield 11, 3) := by decide +kernel
theorem dX1_stepBack_46 : decode cX1_stepBack 46 = .ok (.aload_n 0, 1) := by decide +kernel
theorem dX1_stepBack_47 : decode cX1_stepBack 47 = .ok (.getfield 18, 3) := by decide +kernel
theorem dX1_stepBack_50 : decode cX1_stepBack 50 = .ok (.aaload, 1) := by decide +kernel
theorem dX1_stepBack_51 : decode cX1_stepBack 51 = .ok (.invokevirtual 22, 3) := by decide +kernel
theorem dX1_stepBack_54 : decode cX1_stepBack 54 = .ok (.iconst 1, 1) := by decide +kernel
theorem dX1_stepBack_55 : decode cX1_stepBack 55 = .ok (.ireturn, 1) := by decide +kernel
theorem dX1_forget_0 : decode cX1_forget 0 = .ok (.aload_n 0, 1) := by decide +kernel
theorem dX1_forget_1 : decode cX1_forget 1 = .ok (.iconst 0, 1) := by decide +kernel
theorem dX1_forget_2 : decode cX1_forget 2 = .ok (.putfield 26, 3) := by decide +kernel
theorem dX1_forget_5 : decode cX1_forget 5 = .ok (.return_, 1) := by decide +kernel
theorem dX2_init_0 : decode cX2_init 0 = .ok (.aload_n 0, 1) := by decide +kernel
theorem dX2_init_1 : decode cX2_init 1 = .ok (.invokespecial 3, 3) := by decide +kernel
theorem dX2_init_4 : decode cX2_init 4 = .ok (.aload_n 0, 1) := by decide +kernel
theorem dX2_init_5 : decode cX2_init 5 = .ok (.iconst (-1), 1) := by decide +kernel
theorem dX2_init_6 : decode cX2_init 6 = .ok (.putfield 9, 3) := by decide +kernel
theorem dX2_init_9 : decode cX2_init 9 = .ok (.return_, 1) := by decide +kernel
theorem dX2_copyFrom_0 : decode cX2_copyFrom 0 = .ok (.aload_n 0, 1) := by decide +kernel
theorem dX2_copyFrom_1 : decode cX2_copyFrom 1 = .ok (.aload_n 1, 1) := by decide +kernel
theorem dX2_copyFrom_2 : decode cX2_copyFrom 2 = .ok (.getfield 15, 3) := by decide +kernel
theorem dX2_copyFrom_5 : decode cX2_copyFrom 5 = .ok (.putfield 15, 3) := by decide +kernel
theorem dX2_copyFrom_8 : decode cX2_copyFrom 8 = .ok (.aload_n 0, 1) := by decide +kernel
theorem dX2_copyFrom_9 : decode cX2_copyFrom 9 = .ok (.aload_n 1, 1) := by decide +kernel
theorem dX2_copyFrom_10 : decode cX2_copyFrom 10 = .ok (.getfield 18, 3) := by decide +kernel
theorem dX2_copyFrom_13 : decode cX2_copyFrom 13 = .ok (.putfield 18, 3) := by decide +kernel
theorem dX2_copyFrom_16 : decode cX2_copyFrom 16 = .ok (.aload_n 0, 1) := by decide +kernel
theorem dX2_copyFrom_17 : decode cX2_copyFrom 17 = .ok (.aload_n 1, 1) := by decide +kernel
theorem dX2_copyFrom_18 : decode cX2_copyFrom 18 = .ok (.getfield 9, 3) := by decide +kernel
theorem dX2_copyFrom_21 : decode cX2_copyFrom 21 = .ok (.putfield 9, 3) := by decide +kernel
theorem dX2_copyFrom_24 : decode cX2_copyFrom 24 = .ok (.return_, 1) := by decide +kernel
theorem dX3_init_0 : decode cX3_init 0 = .ok (.aload_n 0, 1) := by decide +kernel
theorem dX3_init_1 : decode cX3_init 1 = .ok (.invokespecial 3, 3) := by decide +kernel
theorem dX3_init_4 : decode cX3_init 4 = .ok (.aload_n 0, 1) := by decide +kernel
theorem dX3_init_5 : decode cX3_init 5 = .ok (.bipush 60, 2) := by decide +kernel
theorem dX3_init_7 : decode cX3_init 7 = .ok (.newarray .char, 2) := by decide +kernel
theorem dX3_init_9 : decode cX3_init 9 = .ok (.putfield 9, 3) := by decide +kernel
theorem dX3_init_12 : decode cX3_init 12 = .ok (.aload_n 0, 1) := by decide +kernel
theorem dX3_init_13 : decode cX3_init 13 = .ok (.bipush 20, 2) := by decide +kernel
theorem dX3_init_15 : decode cX3_init 15 = .ok (.newarray .int, 2) := by decide +kernel
theorem dX3_init_17 : decode cX3_init 17 = .ok (.putfield 15, 3) := by decide +kernel
theorem dX3_init_20 : decode cX3_init 20 = .ok (.aload_n 0, 1) := by decide +kernel
theorem dX3_init_21 : decode cX3_init 21 = .ok (.bipush 20, 2) := by decide +kernel
theorem dX3_init_23 : decode cX3_init 23 = .ok (.newarray .int, 2) := by decide +kernel
theorem dX3_init_25 : decode cX3_init 25 = .ok (.putfield 19, 3) := by decide +kernel
theorem dX3_init_28 : decode cX3_init 28 = .ok (.aload_n 0, 1) := by decide +kernel
theorem dX3_init_29 : decode cX3_init 29 = .ok (.bipush 20, 2) := by decide +kernel
theorem dX3_init_31 : decode cX3_init 31 = .ok (.newarray .int, 2) := by decide +kernel
theorem dX3_init_33 : decode cX3_init 33 = .ok (.putfield 22, 3) := by decide +kernel
theorem dX3_init_36 : decode cX3_init 36 = .ok (.aload_n 0, 1) := by decide +kernel
theorem dX3_init_37 : decode cX3_init 37 = .ok (.bipush 20, 2) := by decide +kernel
theorem dX3_init_39 : decode cX3_init 39 = .ok (.newarray .int, 2) := by decide +kernel
theorem dX3_init_41 : decode cX3_init 41 = .ok (.putfield 25, 3) := by decide +kernel
theorem dX3_init_44 : decode cX3_init 44 = .ok (.aload_n 0, 1) := by decide +kernel
theorem dX3_init_45 : decode cX3_init 45 = .ok (.iconst (-1), 1) := by decide +kernel
theorem dX3_init_46 : decode cX3_init 46 = .ok (.putfield 28, 3) := by decide +kernel
theorem dX3_init_49 : decode cX3_init 49 = .ok (.return_, 1) := by decide +kernel
theorem dX3_add_0 : decode cX3_add 0 = .ok (.aload_n 0, 1) := by decide +kernel
theorem dX3_add_1 : decode cX3_add 1 = .ok (.getfield 32, 3) := by decide +kernel
theorem dX3_add_4 : decode cX3_add 4 = .ok (.bipush 60, 2) := by decide +kernel
theorem dX3_add_6 : decode cX3_add 6 = .ok (.if_icmp .lt 5, 3) := by decide +kernel
theorem dX3_add_9 : decode cX3_add 9 = .ok (.iconst 0, 1) := by decide +kernel
theorem dX3_add_10 : decode cX3_add 10 = .ok (.ireturn, 1) := by decide +kernel
theorem dX3_add_11 : decode cX3_add 11 = .ok (.aload_n 0, 1) := by decide +kernel
theorem dX3_add_12 : decode cX3_add 12 = .ok (.getfield 9, 3) := by decide +kernel
theorem dX3_add_15 : decode cX3_add 15 = .ok (.aload_n 0, 1) := by decide +kernel
theorem dX3_add_16 : decode cX3_add 16 = .ok (.getfield 32, 3) := by decide +kernel
theorem dX3_add_19 : decode cX3_add 19 = .ok (.iload_n 1, 1) := by decide +kernel
theorem dX3_add_20 : decode cX3_add 20 = .ok (.castore, 1) := by decide +kernel
theorem dX3_add_21 : decode cX3_add 21 = .ok (.aload_n 0, 1) := by decide +kernel
theorem dX3_add_22 : decode cX3_add 22 = .ok (.dup, 1) := by decide +kernel
theorem dX3_add_23 : decode cX3_add 23 = .ok (.getfield 32, 3) := by decide +kernel
theorem dX3_add_26 : decode cX3_add 26 = .ok (.iconst 1, 1) := by decide +kernel
theorem dX3_add_27 : decode cX3_add 27 = .ok (.iadd, 1) := by decide +kernel
theorem dX3_add_28 : decode cX3_add 28 = .ok (.putfield 32, 3) := by decide +kernel
theorem dX3_add_31 : decode cX3_add 31 = .ok (.iconst 1, 1) := by decide +kernel
theorem dX3_add_32 : decode cX3_add 32 = .ok (.ireturn, 1) := by decide +kernel
theorem dX3_understand_0 : decode cX3_understand 0 = .ok (.aload_n 0, 1) := by decide +kernel
theorem dX3_understand_1 : decode cX3_understand 1 = .ok (.iconst 0, 1) := by decide +kernel
theorem dX3_understand_2 : decode cX3_understand 2 = .ok (.putfield 35, 3) := by decide +kernel
theorem dX3_understand_5 : decode cX3_understand 5 = .ok (.aload_n 0, 1) := by decide +kernel
theorem dX3_understand_6 : decode cX3_understand 6 = .ok (.iconst 0, 1) := by decide +kernel
theorem dX3_understand_7 : decode cX3_understand 7 = .ok (.putfield 38, 3) := by decide +kernel
theorem dX3_understand_10 : decode cX3_understand 10 = .ok (.aload_n 0, 1) := by decide +kernel
theorem dX3_understand_11 : decode cX3_understand 11 = .ok (.invokevirtual 41, 3) := by decide +kernel
theorem dX3_understand_14 : decode cX3_understand 14 = .ok (.istore_n 1, 1) := by decide +kernel
theorem dX3_understand_15 : decode cX3_understand 15 = .ok (.aload_n 0, 1) := by decide +kernel
theorem dX3_understand_16 : decode cX3_understand 16 = .ok (.iload_n 1, 1) := by decide +kernel
theorem dX3_understand_17 : decode cX3_understand 17 = .ok (.ifCond .eq 7, 3) := by decide +kernel
theorem dX3_understand_20 : decode cX3_understand 20 = .ok (.iconst (-1), 1) := by decide +kernel
theorem dX3_understand_21 : decode cX3_understand 21 = .ok (.goto 7, 3) := by decide +kernel
theorem dX3_understand_24 : decode cX3_understand 24 = .ok (.aload_n 0, 1) := by decide +kernel
theorem dX3_understand_25 : decode cX3_understand 25 = .ok (.getfield 35, 3) := by decide +kernel
theorem dX3_understand_28 : decode cX3_understand 28 = .ok (.putfield 28, 3) := by decide +kernel
theorem dX3_understand_31 : decode cX3_understand 31 = .ok (.aload_n 0, 1) := by decide +kernel
theorem dX3_understand_32 : decode cX3_understand 32 = .ok (.iconst 0, 1) := by decide +kernel
theorem dX3_understand_33 : decode cX3_understand 33 = .ok (.putfield 32, 3) := by decide +kernel
theorem dX3_understand_36 : decode cX3_understand 36 = .ok (.iload_n 1, 1) := by decide +kernel
theorem dX3_understand_37 : decode cX3_understand 37 = .ok (.ireturn, 1) := by decide +kernel
theorem dX3_takeOrders_0 : decode cX3_takeOrders 0 = .ok (.iconst 1, 1) := by decide +kernel
theorem dX3_takeOrders_1 : decode cX3_takeOrders 1 = .ok (.istore_n 1, 1) := by decide +kernel
theorem dX3_takeOrders_2 : decode cX3_takeOrders 2 = .ok (.iload_n 1, 1) := by decide +kernel
theorem dX3_takeOrders_3 : decode cX3_takeOrders 3 = .ok (.ifCond .eq 41, 3) := by decide +kernel
theorem dX3_takeOrders_6 : decode cX3_takeOrders 6 = .ok (.aload_n 0, 1) := by decide +kernel
theorem dX3_takeOrders_7 : decode cX3_takeOrders 7 = .ok (.getfield 38, 3) := by decide +kernel
theorem dX3_takeOrders_10 : decode cX3_takeOrders 10 = .ok (.bipush 20, 2) := by decide +kernel
theorem dX3_takeOrders_12 : decode cX3_takeOrders 12 = .ok (.if_icmp .ge 32, 3) := by decide +kernel
theorem dX3_takeOrders_15 : decode cX3_takeOrders 15 = .ok (.aload_n 0, 1) := by decide +kernel
theorem dX3_takeOrders_16 : decode cX3_takeOrders 16 = .ok (.invokevirtual 45, 3) := by decide +kernel
theorem dX3_takeOrders_19 : decode cX3_takeOrders 19 = .ok (.ifCond .ne 5, 3) := by decide +kernel
theorem dX3_takeOrders_22 : decode cX3_takeOrders 22 = .ok (.iconst 0, 1) := by decide +kernel
theorem dX3_takeOrders_23 : decode cX3_takeOrders 23 = .ok (.ireturn, 1) := by decide +kernel
theorem dX3_takeOrders_24 : decode cX3_takeOrders 24 = .ok (.aload_n 0, 1) := by decide +kernel
theorem dX3_takeOrders_25 : decode cX3_takeOrders 25 = .ok (.dup, 1) := by decide +kernel
theorem dX3_takeOrders_26 : decode cX3_takeOrders 26 = .ok (.getfield 38, 3) := by decide +kernel
theorem dX3_takeOrders_29 : decode cX3_takeOrders 29 = .ok (.iconst 1, 1) := by decide +kernel
theorem dX3_takeOrders_30 : decode cX3_takeOrders 30 = .ok (.iadd, 1) := by decide +kernel
theorem dX3_takeOrders_31 : decode cX3_takeOrders 31 = .ok (.putfield 38, 3) := by decide +kernel
theorem dX3_takeOrders_34 : decode cX3_takeOrders 34 = .ok (.aload_n 0, 1) := by decide +kernel
theorem dX3_takeOrders_35 : decode cX3_takeOrders 35 = .ok (.bipush 59, 2) := by decide +kernel
theorem dX3_takeOrders_37 : decode cX3_takeOrders 37 = .ok (.invokevirtual 48, 3) := by decide +kernel
theorem dX3_takeOrders_40 : decode cX3_takeOrders 40 = .ok (.istore_n 1, 1) := by decide +kernel
theorem dX3_takeOrders_41 : decode cX3_takeOrders 41 = .ok (.goto (-39), 3) := by decide +kernel
theorem dX3_takeOrders_44 : decode cX3_takeOrders 44 = .ok (.iload_n 1, 1) := by decide +kernel
theorem dX3_takeOrders_45 : decode cX3_takeOrders 45 = .ok (.ifCond .ne 18, 3) := by decide +kernel
theorem dX3_takeOrders_48 : decode cX3_takeOrders 48 = .ok (.aload_n 0, 1) := by decide +kernel
theorem dX3_takeOrders_49 : decode cX3_takeOrders 49 = .ok (.getfield 35, 3) := by decide +kernel
theorem dX3_takeOrders_52 : decode cX3_takeOrders 52 = .ok (.aload_n 0, 1) := by decide +kernel
theorem dX3_takeOrders_53 : decode cX3_takeOrders 53 = .ok (.getfield 32, 3) := by decide +kernel
theorem dX3_takeOrders_56 : decode cX3_takeOrders 56 = .ok (.if_icmp .ne 7, 3) := by decide +kernel
theorem dX3_takeOrders_59 : decode cX3_takeOrders 59 = .ok (.iconst 1, 1) := by decide +kernel
theorem dX3_takeOrders_60 : decode cX3_takeOrders 60 = .ok (.goto 4, 3) := by decide +kernel
theorem dX3_takeOrders_63 : decode cX3_takeOrders 63 = .ok (.iconst 0, 1) := by decide +kernel
theorem dX3_takeOrders_64 : decode cX3_takeOrders 64 = .ok (.ireturn, 1) := by decide +kernel
theorem dX3_takeOrder_0 : decode cX3_takeOrder 0 = .ok (.aload_n 0, 1) := by decide +kernel
theorem dX3_takeOrder_1 : decode cX3_takeOrder 1 = .ok (.getfield 35, 3) := by decide +kernel
theorem dX3_takeOrder_4 : decode cX3_takeOrder 4 = .ok (.aload_n 0, 1) := by decide +kernel
theorem dX3_takeOrder_5 : decode cX3_takeOrder 5 = .ok (.getfield 32, 3) := by decide +kernel
theorem dX3_takeOrder_8 : decode cX3_takeOrder 8 = .ok (.if_icmp .lt 5, 3) := by decide +kernel
theorem dX3_takeOrder_11 : decode cX3_takeOrder 11 = .ok (.iconst 0, 1) := by decide +kernel
theorem dX3_takeOrder_12 : decode cX3_takeOrder 12 = .ok (.ireturn, 1) := by decide +kernel
theorem dX3_takeOrder_13 : decode cX3_takeOrder 13 = .ok (.aload_n 0, 1) := by decide +kernel
theorem dX3_takeOrder_14 : decode cX3_takeOrder 14 = .ok (.getfield 9, 3) := by decide +kernel
theorem dX3_takeOrder_17 : decode cX3_takeOrder 17 = .ok (.aload_n 0, 1) := by decide +kernel
theorem dX3_takeOrder_18 : decode cX3_takeOrder 18 = .ok (.getfield 35, 3) := by decide +kernel
theorem dX3_takeOrder_21 : decode cX3_takeOrder 21 = .ok (.caload, 1) := by decide +kernel
theorem dX3_takeOrder_22 : decode cX3_takeOrder 22 = .ok (.istore_n 1, 1) := by decide +kernel
theorem dX3_takeOrder_23 : decode cX3_takeOrder 23 = .ok (.aload_n 0, 1) := by decide +kernel
theorem dX3_takeOrder_24 : decode cX3_takeOrder 24 = .ok (.getfield 15, 3) := by decide +kernel
theorem dX3_takeOrder_27 : decode cX3_takeOrder 27 = .ok (.aload_n 0, 1) := by decide +kernel
theorem dX3_takeOrder_28 : decode cX3_takeOrder 28 = .ok (.getfield 38, 3) := by decide +kernel
theorem dX3_takeOrder_31 : decode cX3_takeOrder 31 = .ok (.iload_n 1, 1) := by decide +kernel
theorem dX3_takeOrder_32 : decode cX3_takeOrder 32 = .ok (.iastore, 1) := by decide +kernel
theorem dX3_takeOrder_33 : decode cX3_takeOrder 33 = .ok (.iload_n 1, 1) := by decide +kernel
theorem dX3_takeOrder_34 : decode cX3_takeOrder 34 = .ok (.tableswitch 395 98 119 #[149, 395, 196, 395, 102, 395, 309, 395, 395, 395, 243, 395, 395, 395, 395, 395, 395, 395, 395, 290, 395, 328], 102) := by decide +kernel
theorem dX3_takeOrder_136 : decode cX3_takeOrder 136 = .ok (.aload_n 0, 1) := by decide +kernel
theorem dX3_takeOrder_137 : decode cX3_takeOrder 137 = .ok (.dup, 1) := by decide +kernel
theorem dX3_takeOrder_138 : decode cX3_takeOrder 138 = .ok (.getfield 35, 3) := by decide +kernel
theorem dX3_takeOrder_141 : decode cX3_takeOrder 141 = .ok (.iconst 1, 1) := by decide +kernel
theorem dX3_takeOrder_142 : decode cX3_takeOrder 142 = .ok (.iadd, 1) := by decide +kernel
theorem dX3_takeOrder_143 : decode cX3_takeOrder 143 = .ok (.putfield 35, 3) := by decide +kernel
theorem dX3_takeOrder_146 : decode cX3_takeOrder 146 = .ok (.aload_n 0, 1) := by decide +kernel
theorem dX3_takeOrder_147 : decode cX3_takeOrder 147 = .ok (.aload_n 0, 1) := by decide +kernel
theorem dX3_takeOrder_148 : decode cX3_takeOrder 148 = .ok (.invokevirtual 52, 3) := by decide +kernel
theorem dX3_takeOrder_151 : decode cX3_takeOrder 151 = .ok (.invokevirtual 56, 3) := by decide +kernel
theorem dX3_takeOrder_154 : decode cX3_takeOrder 154 = .ok (.ifCond .eq 27, 3) := by decide +kernel
theorem dX3_takeOrder_157 : decode cX3_takeOrder 157 = .ok (.aload_n 0, 1) := by decide +kernel
theorem dX3_takeOrder_158 : decode cX3_takeOrder 158 = .ok (.bipush 61, 2) := by decide +kernel
theorem dX3_takeOrder_160 : decode cX3_takeOrder 160 = .ok (.invokevirtual 48, 3) := by decide +kernel
theorem dX3_takeOrder_163 : decode cX3_takeOrder 163 = .ok (.ifCond .eq 18, 3) := by decide +kernel
theorem dX3_takeOrder_166 : decode cX3_takeOrder 166 = .ok (.aload_n 0, 1) := by decide +kernel
theorem dX3_takeOrder_167 : decode cX3_takeOrder 167 = .ok (.aload_n 0, 1) := by decide +kernel
theorem dX3_takeOrder_168 : decode cX3_takeOrder 168 = .ok (.invokevirtual 60, 3) := by decide +kernel
theorem dX3_takeOrder_171 : decode cX3_takeOrder 171 = .ok (.invokevirtual 63, 3) := by decide +kernel
theorem dX3_takeOrder_174 : decode cX3_takeOrder 174 = .ok (.ifCond .eq 7, 3) := by decide +kernel
theorem dX3_takeOrder_177 : decode cX3_takeOrder 177 = .ok (.iconst 1, 1) := by decide +kernel
theorem dX3_takeOrder_178 : decode cX3_takeOrder 178 = .ok (.goto 4, 3) := by decide +kernel
theorem dX3_takeOrder_181 : decode cX3_takeOrder 181 = .ok (.iconst 0, 1) := by decide +kernel
theorem dX3_takeOrder_182 : decode cX3_takeOrder 182 = .ok (.ireturn, 1) := by decide +kernel
theorem dX3_takeOrder_183 : decode cX3_takeOrder 183 = .ok (.aload_n 0, 1) := by decide +kernel
theorem dX3_takeOrder_184 : decode cX3_takeOrder 184 = .ok (.dup, 1) := by decide +kernel
theorem dX3_takeOrder_185 : decode cX3_takeOrder 185 = .ok (.getfield 35, 3) := by decide +kernel
theorem dX3_takeOrder_188 : decode cX3_takeOrder 188 = .ok (.iconst 1, 1) := by decide +kernel
theorem dX3_takeOrder_189 : decode cX3_takeOrder 189 = .ok (.iadd, 1) := by decide +kernel
theorem dX3_takeOrder_190 : decode cX3_takeOrder 190 = .ok (.putfield 35, 3) := by decide +kernel
theorem dX3_takeOrder_193 : decode cX3_takeOrder 193 = .ok (.aload_n 0, 1) := by decide +kernel
theorem dX3_takeOrder_194 : decode cX3_takeOrder 194 = .ok (.aload_n 0, 1) := by decide +kernel
theorem dX3_takeOrder_195 : decode cX3_takeOrder 195 = .ok (.invokevirtual 52, 3) := by decide +kernel
theorem dX3_takeOrder_198 : decode cX3_takeOrder 198 = .ok (.invokevirtual 56, 3) := by decide +kernel
theorem dX3_takeOrder_201 : decode cX3_takeOrder 201 = .ok (.ifCond .eq 27, 3) := by decide +kernel
theorem dX3_takeOrder_204 : decode cX3_takeOrder 204 = .ok (.aload_n 0, 1) := by decide +kernel
theorem dX3_takeOrder_205 : decode cX3_takeOrder 205 = .ok (.bipush 43, 2) := by decide +kernel
theorem dX3_takeOrder_207 : decode cX3_takeOrder 207 = .ok (.invokevirtual 48, 3) := by decide +kernel
theorem dX3_takeOrder_210 : decode cX3_takeOrder 210 = .ok (.ifCond .eq 18, 3) := by decide +kernel
theorem dX3_takeOrder_213 : decode cX3_takeOrder 213 = .ok (.aload_n 0, 1) := by decide +kernel
theorem dX3_takeOrder_214 : decode cX3_takeOrder 214 = .ok (.aload_n 0, 1) := by decide +kernel
theorem dX3_takeOrder_215 : decode cX3_takeOrder 215 = .ok (.invokevirtual 60, 3) := by decide +kernel
theorem dX3_takeOrder_218 : decode cX3_takeOrder 218 = .ok (.invokevirtual 63, 3) := by decide +kernel
theorem dX3_takeOrder_221 : decode cX3_takeOrder 221 = .ok (.ifCond .eq 7, 3) := by decide +kernel
theorem dX3_takeOrder_224 : decode cX3_takeOrder 224 = .ok (.iconst 1, 1) := by decide +kernel
theorem dX3_takeOrder_225 : decode cX3_takeOrder 225 = .ok (.goto 4, 3) := by decide +kernel
theorem dX3_takeOrder_228 : decode cX3_takeOrder 228 = .ok (.iconst 0, 1) := by decide +kernel
theorem dX3_takeOrder_229 : decode cX3_takeOrder 229 = .ok (.ireturn, 1) := by decide +kernel
theorem dX3_takeOrder_230 : decode cX3_takeOrder 230 = .ok (.aload_n 0, 1) := by decide +kernel
theorem dX3_takeOrder_231 : decode cX3_takeOrder 231 = .ok (.dup, 1) := by decide +kernel
theorem dX3_takeOrder_232 : decode cX3_takeOrder 232 = .ok (.getfield 35, 3) := by decide +kernel
theorem dX3_takeOrder_235 : decode cX3_takeOrder 235 = .ok (.iconst 1, 1) := by decide +kernel
theorem dX3_takeOrder_236 : decode cX3_takeOrder 236 = .ok (.iadd, 1) := by decide +kernel
theorem dX3_takeOrder_237 : decode cX3_takeOrder 237 = .ok (.putfield 35, 3) := by decide +kernel
theorem dX3_takeOrder_240 : decode cX3_takeOrder 240 = .ok (.aload_n 0, 1) := by decide +kernel
theorem dX3_takeOrder_241 : decode cX3_takeOrder 241 = .ok (.aload_n 0, 1) := by decide +kernel
theorem dX3_takeOrder_242 : decode cX3_takeOrder 242 = .ok (.invokevirtual 52, 3) := by decide +kernel
theorem dX3_takeOrder_245 : decode cX3_takeOrder 245 = .ok (.invokevirtual 56, 3) := by decide +kernel
theorem dX3_takeOrder_248 : decode cX3_takeOrder 248 = .ok (.ifCond .eq 27, 3) := by decide +kernel
theorem dX3_takeOrder_251 : decode cX3_takeOrder 251 = .ok (.aload_n 0, 1) := by decide +kernel
theorem dX3_takeOrder_252 : decode cX3_takeOrder 252 = .ok (.bipush 45, 2) := by decide +kernel
theorem dX3_takeOrder_254 : decode cX3_takeOrder 254 = .ok (.invokevirtual 48, 3) := by decide +kernel
theorem dX3_takeOrder_257 : decode cX3_takeOrder 257 = .ok (.ifCond .eq 18, 3) := by decide +kernel
theorem dX3_takeOrder_260 : decode cX3_takeOrder 260 = .ok (.aload_n 0, 1) := by decide +kernel
theorem dX3_takeOrder_261 : decode cX3_takeOrder 261 = .ok (.aload_n 0, 1) := by decide +kernel
theorem dX3_takeOrder_262 : decode cX3_takeOrder 262 = .ok (.invokevirtual 60, 3) := by decide +kernel
theorem dX3_takeOrder_265 : decode cX3_takeOrder 265 = .ok (.invokevirtual 63, 3) := by decide +kernel
theorem dX3_takeOrder_268 : decode cX3_takeOrder 268 = .ok (.ifCond .eq 7, 3) := by decide +kernel
theorem dX3_takeOrder_271 : decode cX3_takeOrder 271 = .ok (.iconst 1, 1) := by decide +kernel
theorem dX3_takeOrder_272 : decode cX3_takeOrder 272 = .ok (.goto 4, 3) := by decide +kernel
theorem dX3_takeOrder_275 : decode cX3_takeOrder 275 = .ok (.iconst 0, 1) := by decide +kernel
theorem dX3_takeOrder_276 : decode cX3_takeOrder 276 = .ok (.ireturn, 1) := by decide +kernel
theorem dX3_takeOrder_277 : decode cX3_takeOrder 277 = .ok (.aload_n 0, 1) := by decide +kernel
theorem dX3_takeOrder_278 : decode cX3_takeOrder 278 = .ok (.dup, 1) := by decide +kernel
theorem dX3_takeOrder_279 : decode cX3_takeOrder 279 = .ok (.getfield 35, 3) := by decide +kernel
theorem dX3_takeOrder_282 : decode cX3_takeOrder 282 = .ok (.iconst 1, 1) := by decide +kernel
theorem dX3_takeOrder_283 : decode cX3_takeOrder 283 = .ok (.iadd, 1) := by decide +kernel
theorem dX3_takeOrder_284 : decode cX3_takeOrder 284 = .ok (.putfield 35, 3) := by decide +kernel
theorem dX3_takeOrder_287 : decode cX3_takeOrder 287 = .ok (.aload_n 0, 1) := by decide +kernel
theorem dX3_takeOrder_288 : decode cX3_takeOrder 288 = .ok (.aload_n 0, 1) := by decide +kernel
theorem dX3_takeOrder_289 : decode cX3_takeOrder 289 = .ok (.invokevirtual 60, 3) := by decide +kernel
theorem dX3_takeOrder_292 : decode cX3_takeOrder 292 = .ok (.invokevirtual 56, 3) := by decide +kernel
theorem dX3_takeOrder_295 : decode cX3_takeOrder 295 = .ok (.ifCond .eq 27, 3) := by decide +kernel
theorem dX3_takeOrder_298 : decode cX3_takeOrder 298 = .ok (.aload_n 0, 1) := by decide +kernel
theorem dX3_takeOrder_299 : decode cX3_takeOrder 299 = .ok (.bipush 64, 2) := by decide +kernel
theorem dX3_takeOrder_301 : decode cX3_takeOrder 301 = .ok (.invokevirtual 48, 3) := by decide +kernel
theorem dX3_takeOrder_304 : decode cX3_takeOrder 304 = .ok (.ifCond .eq 18, 3) := by decide +kernel
theorem dX3_takeOrder_307 : decode cX3_takeOrder 307 = .ok (.aload_n 0, 1) := by decide +kernel
theorem dX3_takeOrder_308 : decode cX3_takeOrder 308 = .ok (.aload_n 0, 1) := by decide +kernel
theorem dX3_takeOrder_309 : decode cX3_takeOrder 309 = .ok (.invokevirtual 52, 3) := by decide +kernel
theorem dX3_takeOrder_312 : decode cX3_takeOrder 312 = .ok (.invokevirtual 63, 3) := by decide +kernel
theorem dX3_takeOrder_315 : decode cX3_takeOrder 315 = .ok (.ifCond .eq 7, 3) := by decide +kernel
theorem dX3_takeOrder_318 : decode cX3_takeOrder 318 = .ok (.iconst 1, 1) := by decide +kernel
theorem dX3_takeOrder_319 : decode cX3_takeOrder 319 = .ok (.goto 4, 3) := by decide +kernel
theorem dX3_takeOrder_322 : decode cX3_takeOrder 322 = .ok (.iconst 0, 1) := by decide +kernel
theorem dX3_takeOrder_323 : decode cX3_takeOrder 323 = .ok (.ireturn, 1) := by decide +kernel
theorem dX3_takeOrder_324 : decode cX3_takeOrder 324 = .ok (.aload_n 0, 1) := by decide +kernel
theorem dX3_takeOrder_325 : decode cX3_takeOrder 325 = .ok (.dup, 1) := by decide +kernel
theorem dX3_takeOrder_326 : decode cX3_takeOrder 326 = .ok (.getfield 35, 3) := by decide +kernel
theorem dX3_takeOrder_329 : decode cX3_takeOrder 329 = .ok (.iconst 1, 1) := by decide +kernel
theorem dX3_takeOrder_330 : decode cX3_takeOrder 330 = .ok (.iadd, 1) := by decide +kernel
theorem dX3_takeOrder_331 : decode cX3_takeOrder 331 = .ok (.putfield 35, 3) := by decide +kernel
theorem dX3_takeOrder_334 : decode cX3_takeOrder 334 = .ok (.aload_n 0, 1) := by decide +kernel
theorem dX3_takeOrder_335 : decode cX3_takeOrder 335 = .ok (.aload_n 0, 1) := by decide +kernel
theorem dX3_takeOrder_336 : decode cX3_takeOrder 336 = .ok (.invokevirtual 52, 3) := by decide +kernel
theorem dX3_takeOrder_339 : decode cX3_takeOrder 339 = .ok (.invokevirtual 56, 3) := by decide +kernel
theorem dX3_takeOrder_342 : decode cX3_takeOrder 342 = .ok (.ireturn, 1) := by decide +kernel
theorem dX3_takeOrder_343 : decode cX3_takeOrder 343 = .ok (.aload_n 0, 1) := by decide +kernel
theorem dX3_takeOrder_344 : decode cX3_takeOrder 344 = .ok (.dup, 1) := by decide +kernel
theorem dX3_takeOrder_345 : decode cX3_takeOrder 345 = .ok (.getfield 35, 3) := by decide +kernel
theorem dX3_takeOrder_348 : decode cX3_takeOrder 348 = .ok (.iconst 1, 1) := by decide +kernel
theorem dX3_takeOrder_349 : decode cX3_takeOrder 349 = .ok (.iadd, 1) := by decide +kernel
theorem dX3_takeOrder_350 : decode cX3_takeOrder 350 = .ok (.putfield 35, 3) := by decide +kernel
theorem dX3_takeOrder_353 : decode cX3_takeOrder 353 = .ok (.aload_n 0, 1) := by decide +kernel
theorem dX3_takeOrder_354 : decode cX3_takeOrder 354 = .ok (.aload_n 0, 1) := by decide +kernel
theorem dX3_takeOrder_355 : decode cX3_takeOrder 355 = .ok (.invokevirtual 60, 3) := by decide +kernel
theorem dX3_takeOrder_358 : decode cX3_takeOrder 358 = .ok (.invokevirtual 56, 3) := by decide +kernel
theorem dX3_takeOrder_361 : decode cX3_takeOrder 361 = .ok (.ireturn, 1) := by decide +kernel
theorem dX3_takeOrder_362 : decode cX3_takeOrder 362 = .ok (.aload_n 0, 1) := by decide +kernel
theorem dX3_takeOrder_363 : decode cX3_takeOrder 363 = .ok (.dup, 1) := by decide +kernel
theorem dX3_takeOrder_364 : decode cX3_takeOrder 364 = .ok (.getfield 35, 3) := by decide +kernel
theorem dX3_takeOrder_367 : decode cX3_takeOrder 367 = .ok (.iconst 1, 1) := by decide +kernel
theorem dX3_takeOrder_368 : decode cX3_takeOrder 368 = .ok (.iadd, 1) := by decide +kernel
theorem dX3_takeOrder_369 : decode cX3_takeOrder 369 = .ok (.putfield 35, 3) := by decide +kernel
theorem dX3_takeOrder_372 : decode cX3_takeOrder 372 = .ok (.aload_n 0, 1) := by decide +kernel
theorem dX3_takeOrder_373 : decode cX3_takeOrder 373 = .ok (.aload_n 0, 1) := by decide +kernel
theorem dX3_takeOrder_374 : decode cX3_takeOrder 374 = .ok (.invokevirtual 52, 3) := by decide +kernel
theorem dX3_takeOrder_377 : decode cX3_takeOrder 377 = .ok (.invokevirtual 56, 3) := by decide +kernel
theorem dX3_takeOrder_380 : decode cX3_takeOrder 380 = .ok (.ifCond .eq 47, 3) := by decide +kernel
theorem dX3_takeOrder_383 : decode cX3_takeOrder 383 = .ok (.aload_n 0, 1) := by decide +kernel
theorem dX3_takeOrder_384 : decode cX3_takeOrder 384 = .ok (.bipush 58, 2) := by decide +kernel
theorem dX3_takeOrder_386 : decode cX3_takeOrder 386 = .ok (.invokevirtual 48, 3) := by decide +kernel
theorem dX3_takeOrder_389 : decode cX3_takeOrder 389 = .ok (.ifCond .eq 38, 3) := by decide +kernel
theorem dX3_takeOrder_392 : decode cX3_takeOrder 392 = .ok (.aload_n 0, 1) := by decide +kernel
theorem dX3_takeOrder_393 : decode cX3_takeOrder 393 = .ok (.aload_n 0, 1) := by decide +kernel
theorem dX3_takeOrder_394 : decode cX3_takeOrder 394 = .ok (.invokevirtual 66, 3) := by decide +kernel
theorem dX3_takeOrder_397 : decode cX3_takeOrder 397 = .ok (.invokevirtual 63, 3) := by decide +kernel
theorem dX3_takeOrder_400 : decode cX3_takeOrder 400 = .ok (.ifCond .eq 27, 3) := by decide +kernel
theorem dX3_takeOrder_403 : decode cX3_takeOrder 403 = .ok (.aload_n 0, 1) := by decide +kernel
theorem dX3_takeOrder_404 : decode cX3_takeOrder 404 = .ok (.bipush 44, 2) := by decide +kernel
theorem dX3_takeOrder_406 : decode cX3_takeOrder 406 = .ok (.invokevirtual 48, 3) := by decide +kernel
theorem dX3_takeOrder_409 : decode cX3_takeOrder 409 = .ok (.ifCond .eq 18, 3) := by decide +kernel
theorem dX3_takeOrder_412 : decode cX3_takeOrder 412 = .ok (.aload_n 0, 1) := by decide +kernel
theorem dX3_takeOrder_413 : decode cX3_takeOrder 413 = .ok (.aload_n 0, 1) := by decide +kernel
theorem dX3_takeOrder_414 : decode cX3_takeOrder 414 = .ok (.invokevirtual 66, 3) := by decide +kernel
theorem dX3_takeOrder_417 : decode cX3_takeOrder 417 = .ok (.invokevirtual 69, 3) := by decide +kernel
theorem dX3_takeOrder_420 : decode cX3_takeOrder 420 = .ok (.ifCond .eq 7, 3) := by decide +kernel
theorem dX3_takeOrder_423 : decode cX3_takeOrder 423 = .ok (.iconst 1, 1) := by decide +kernel
theorem dX3_takeOrder_424 : decode cX3_takeOrder 424 = .ok (.goto 4, 3) := by decide +kernel
theorem dX3_takeOrder_427 : decode cX3_takeOrder 427 = .ok (.iconst 0, 1) := by decide +kernel
theorem dX3_takeOrder_428 : decode cX3_takeOrder 428 = .ok (.ireturn, 1) := by decide +kernel
theorem dX3_takeOrder_429 : decode cX3_takeOrder 429 = .ok (.iconst 0, 1) := by decide +kernel
theorem dX3_takeOrder_430 : decode cX3_takeOrder 430 = .ok (.ireturn, 1) := by decide +kernel
theorem dX3_takeFirst_0 : decode cX3_takeFirst 0 = .ok (.aload_n 0, 1) := by decide +kernel
theorem dX3_takeFirst_1 : decode cX3_takeFirst 1 = .ok (.getfield 19, 3) := by decide +kernel
theorem dX3_takeFirst_4 : decode cX3_takeFirst 4 = .ok (.aload_n 0, 1) := by decide +kernel
theorem dX3_takeFirst_5 : decode cX3_takeFirst 5 = .ok (.getfield 38, 3) := by decide +kernel
theorem dX3_takeFirst_8 : decode cX3_takeFirst 8 = .ok (.iload_n 1, 1) := by decide +kernel
theorem dX3_takeFirst_9 : decode cX3_takeFirst 9 = .ok (.iastore, 1) := by decide +kernel
theorem dX3_takeFirst_10 : decode cX3_takeFirst 10 = .ok (.iload_n 1, 1) := by decide +kernel
theorem dX3_takeFirst_11 : decode cX3_takeFirst 11 = .ok (.bipush (-100), 2) := by decide +kernel
theorem dX3_takeFirst_13 : decode cX3_takeFirst 13 = .ok (.if_icmp .eq 7, 3) := by decide +kernel
theorem dX3_takeFirst_16 : decode cX3_takeFirst 16 = .ok (.iconst 1, 1) := by decide +kernel
theorem dX3_takeFirst_17 : decode cX3_takeFirst 17 = .ok (.goto 4, 3) := by decide +kernel
theorem dX3_takeFirst_20 : decode cX3_takeFirst 20 = .ok (.iconst 0, 1) := by decide +kernel
theorem dX3_takeFirst_21 : decode cX3_takeFirst 21 = .ok (.ireturn, 1) := by decide +kernel
theorem dX3_takeSecond_0 : decode cX3_takeSecond 0 = .ok (.aload_n 0, 1) := by decide +kernel
theorem dX3_takeSecond_1 : decode cX3_takeSecond 1 = .ok (.getfield 22, 3) := by decide +kernel
theorem dX3_takeSecond_4 : decode cX3_takeSecond 4 = .ok (.aload_n 0, 1) := by decide +kernel
theorem dX3_takeSecond_5 : decode cX3_takeSecond 5 = .ok (.getfield 38, 3) := by decide +kernel
theorem dX3_takeSecond_8 : decode cX3_takeSecond 8 = .ok (.iload_n 1, 1) := by decide +kernel
theorem dX3_takeSecond_9 : decode cX3_takeSecond 9 = .ok (.iastore, 1) := by decide +kernel
theorem dX3_takeSecond_10 : decode cX3_takeSecond 10 = .ok (.iload_n 1, 1) := by decide +kernel
theorem dX3_takeSecond_11 : decode cX3_takeSecond 11 = .ok (.bipush (-100), 2) := by decide +kernel
theorem dX3_takeSecond_13 : decode cX3_takeSecond 13 = .ok (.if_icmp .eq 7, 3) := by decide +kernel
theorem dX3_takeSecond_16 : decode cX3_takeSecond 16 = .ok (.iconst 1, 1) := by decide +kernel
theorem dX3_takeSecond_17 : decode cX3_takeSecond 17 = .ok (.goto 4, 3) := by decide +kernel
theorem dX3_takeSecond_20 : decode cX3_takeSecond 20 = .ok (.iconst 0, 1) := by decide +kernel
theorem dX3_takeSecond_21 : decode cX3_takeSecond 21 = .ok (.ireturn, 1) := by decide +kernel
theorem dX3_takeThird_0 : decode cX3_takeThird 0 = .ok (.aload_n 0, 1) := by decide +kernel
theorem dX3_takeThird_1 : decode cX3_takeThird 1 = .ok (.getfield 25, 3) := by decide +kernel
theorem dX3_takeThird_4 : decode cX3_takeThird 4 = .ok (.aload_n 0, 1) := by decide +kernel
theorem dX3_takeThird_5 : decode cX3_takeThird 5 = .ok (.getfield 38, 3) := by decide +kernel
theorem dX3_takeThird_8 : decode cX3_takeThird 8 = .ok (.iload_n 1, 1) := by decide +kernel
theorem dX3_takeThird_9 : decode cX3_takeThird 9 = .ok (.iastore, 1) := by decide +kernel
theorem dX3_takeThird_10 : decode cX3_takeThird 10 = .ok (.iload_n 1, 1) := by decide +kernel
theorem dX3_takeThird_11 : decode cX3_takeThird 11 = .ok (.bipush (-100), 2) := by decide +kernel
theorem dX3_takeThird_13 : decode cX3_takeThird 13 = .ok (.if_icmp .eq 7, 3) := by decide +kernel
theorem dX3_takeThird_16 : decode cX3_takeThird 16 = .ok (.iconst 1, 1) := by decide +kernel
theorem dX3_takeThird_17 : decode cX3_takeThird 17 = .ok (.goto 4, 3) := by decide +kernel
theorem dX3_takeThird_20 : decode cX3_takeThird 20 = .ok (.iconst 0, 1) := by decide +kernel
theorem dX3_takeThird_21 : decode cX3_takeThird 21 = .ok (.ireturn, 1) := by decide +kernel
theorem dX3_take_0 : decode cX3_take 0 = .ok (.aload_n 0, 1) := by decide +kernel
theorem dX3_take_1 : decode cX3_take 1 = .ok (.getfield 35, 3) := by decide +kernel
theorem dX3_take_4 : decode cX3_take 4 = .ok (.aload_n 0, 1) := by decide +kernel
theorem dX3_take_5 : decode cX3_take 5 = .ok (.getfield 32, 3) := by decide +kernel
theorem dX3_take_8 : decode cX3_take 8 = .ok (.if_icmp .ge 28, 3) := by decide +kernel
theorem dX3_take_11 : decode cX3_take 11 = .ok (.aload_n 0, 1) := by decide +kernel
theorem dX3_take_12 : decode cX3_take 12 = .ok (.getfield 9, 3) := by decide +kernel
theorem dX3_take_15 : decode cX3_take 15 = .ok (.aload_n 0, 1) := by decide +kernel
theorem dX3_take_16 : decode cX3_take 16 = .ok (.getfield 35, 3) := by decide +kernel
theorem dX3_take_19 : decode cX3_take 19 = .ok (.caload, 1) := by decide +kernel
theorem dX3_take_20 : decode cX3_take 20 = .ok (.iload_n 1, 1) := by decide +kernel
theorem dX3_take_21 : decode cX3_take 21 = .ok (.if_icmp .ne 15, 3) := by decide +kernel
theorem dX3_take_24 : decode cX3_take 24 = .ok (.aload_n 0, 1) := by decide +kernel
theorem dX3_take_25 : decode cX3_take 25 = .ok (.dup, 1) := by decide +kernel
theorem dX3_take_26 : decode cX3_take 26 = .ok (.getfield 35, 3) := by decide +kernel
theorem dX3_take_29 : decode cX3_take 29 = .ok (.iconst 1, 1) := by decide +kernel
theorem dX3_take_30 : decode cX3_take 30 = .ok (.iadd, 1) := by decide +kernel
theorem dX3_take_31 : decode cX3_take 31 = .ok (.putfield 35, 3) := by decide +kernel
theorem dX3_take_34 : decode cX3_take 34 = .ok (.iconst 1, 1) := by decide +kernel
theorem dX3_take_35 : decode cX3_take 35 = .ok (.ireturn, 1) := by decide +kernel
theorem dX3_take_36 : decode cX3_take 36 = .ok (.iconst 0, 1) := by decide +kernel
theorem dX3_take_37 : decode cX3_take 37 = .ok (.ireturn, 1) := by decide +kernel
theorem dX3_digit_0 : decode cX3_digit 0 = .ok (.aload_n 0, 1) := by decide +kernel
theorem dX3_digit_1 : decode cX3_digit 1 = .ok (.getfield 35, 3) := by decide +kernel
theorem dX3_digit_4 : decode cX3_digit 4 = .ok (.aload_n 0, 1) := by decide +kernel
theorem dX3_digit_5 : decode cX3_digit 5 = .ok (.getfield 32, 3) := by decide +kernel
theorem dX3_digit_8 : decode cX3_digit 8 = .ok (.if_icmp .ge 56, 3) := by decide +kernel
theorem dX3_digit_11 : decode cX3_digit 11 = .ok (.aload_n 0, 1) := by decide +kernel
theorem dX3_digit_12 : decode cX3_digit 12 = .ok (.getfield 9, 3) := by decide +kernel
theorem dX3_digit_15 : decode cX3_digit 15 = .ok (.aload_n 0, 1) := by decide +kernel
theorem dX3_digit_16 : decode cX3_digit 16 = .ok (.getfield 35, 3) := by decide +kernel
theorem dX3_digit_19 : decode cX3_digit 19 = .ok (.caload, 1) := by decide +kernel
theorem dX3_digit_20 : decode cX3_digit 20 = .ok (.bipush 48, 2) := by decide +kernel
theorem dX3_digit_22 : decode cX3_digit 22 = .ok (.if_icmp .lt 42, 3) := by decide +kernel
theorem dX3_digit_25 : decode cX3_digit 25 = .ok (.aload_n 0, 1) := by decide +kernel
theorem dX3_digit_26 : decode cX3_digit 26 = .ok (.getfield 9, 3) := by decide +kernel
theorem dX3_digit_29 : decode cX3_digit 29 = .ok (.aload_n 0, 1) := by decide +kernel
theorem dX3_digit_30 : decode cX3_digit 30 = .ok (.getfield 35, 3) := by decide +kernel
theorem dX3_digit_33 : decode cX3_digit 33 = .ok (.caload, 1) := by decide +kernel
theorem dX3_digit_34 : decode cX3_digit 34 = .ok (.bipush 57, 2) := by decide +kernel
theorem dX3_digit_36 : decode cX3_digit 36 = .ok (.if_icmp .gt 28, 3) := by decide +kernel
theorem dX3_digit_39 : decode cX3_digit 39 = .ok (.aload_n 0, 1) := by decide +kernel
theorem dX3_digit_40 : decode cX3_digit 40 = .ok (.dup, 1) := by decide +kernel
theorem dX3_digit_41 : decode cX3_digit 41 = .ok (.getfield 35, 3) := by decide +kernel
theorem dX3_digit_44 : decode cX3_digit 44 = .ok (.iconst 1, 1) := by decide +kernel
theorem dX3_digit_45 : decode cX3_digit 45 = .ok (.iadd, 1) := by decide +kernel
theorem dX3_digit_46 : decode cX3_digit 46 = .ok (.putfield 35, 3) := by decide +kernel
theorem dX3_digit_49 : decode cX3_digit 49 = .ok (.aload_n 0, 1) := by decide +kernel
theorem dX3_digit_50 : decode cX3_digit 50 = .ok (.getfield 9, 3) := by decide +kernel
theorem dX3_digit_53 : decode cX3_digit 53 = .ok (.aload_n 0, 1) := by decide +kernel
theorem dX3_digit_54 : decode cX3_digit 54 = .ok (.getfield 35, 3) := by decide +kernel
theorem dX3_digit_57 : decode cX3_digit 57 = .ok (.iconst 1, 1) := by decide +kernel
theorem dX3_digit_58 : decode cX3_digit 58 = .ok (.isub, 1) := by decide +kernel
theorem dX3_digit_59 : decode cX3_digit 59 = .ok (.caload, 1) := by decide +kernel
theorem dX3_digit_60 : decode cX3_digit 60 = .ok (.bipush 48, 2) := by decide +kernel
theorem dX3_digit_62 : decode cX3_digit 62 = .ok (.isub, 1) := by decide +kernel
theorem dX3_digit_63 : decode cX3_digit 63 = .ok (.ireturn, 1) := by decide +kernel
theorem dX3_digit_64 : decode cX3_digit 64 = .ok (.bipush (-100), 2) := by decide +kernel
theorem dX3_digit_66 : decode cX3_digit 66 = .ok (.ireturn, 1) := by decide +kernel
theorem dX3_number_0 : decode cX3_number 0 = .ok (.aload_n 0, 1) := by decide +kernel
theorem dX3_number_1 : decode cX3_number 1 = .ok (.invokevirtual 52, 3) := by decide +kernel
theorem dX3_number_4 : decode cX3_number 4 = .ok (.istore_n 1, 1) := by decide +kernel
theorem dX3_number_5 : decode cX3_number 5 = .ok (.iload_n 1, 1) := by decide +kernel
theorem dX3_number_6 : decode cX3_number 6 = .ok (.bipush (-100), 2) := by decide +kernel
theorem dX3_number_8 : decode cX3_number 8 = .ok (.if_icmp .ne 6, 3) := by decide +kernel
theorem dX3_number_11 : decode cX3_number 11 = .ok (.bipush (-100), 2) := by decide +kernel
theorem dX3_number_13 : decode cX3_number 13 = .ok (.ireturn, 1) := by decide +kernel
theorem dX3_number_14 : decode cX3_number 14 = .ok (.aload_n 0, 1) := by decide +kernel
theorem dX3_number_15 : decode cX3_number 15 = .ok (.invokevirtual 52, 3) := by decide +kernel
theorem dX3_number_18 : decode cX3_number 18 = .ok (.istore_n 2, 1) := by decide +kernel
theorem dX3_number_19 : decode cX3_number 19 = .ok (.iload_n 2, 1) := by decide +kernel
theorem dX3_number_20 : decode cX3_number 20 = .ok (.bipush (-100), 2) := by decide +kernel
theorem dX3_number_22 : decode cX3_number 22 = .ok (.if_icmp .ne 7, 3) := by decide +kernel
theorem dX3_number_25 : decode cX3_number 25 = .ok (.iload_n 1, 1) := by decide +kernel
theorem dX3_number_26 : decode cX3_number 26 = .ok (.goto 9, 3) := by decide +kernel
theorem dX3_number_29 : decode cX3_number 29 = .ok (.bipush 10, 2) := by decide +kernel
theorem dX3_number_31 : decode cX3_number 31 = .ok (.iload_n 1, 1) := by decide +kernel
theorem dX3_number_32 : decode cX3_number 32 = .ok (.imul, 1) := by decide +kernel
theorem dX3_number_33 : decode cX3_number 33 = .ok (.iload_n 2, 1) := by decide +kernel
theorem dX3_number_34 : decode cX3_number 34 = .ok (.iadd, 1) := by decide +kernel
theorem dX3_number_35 : decode cX3_number 35 = .ok (.ireturn, 1) := by decide +kernel
theorem dX3_signedDigit_0 : decode cX3_signedDigit 0 = .ok (.aload_n 0, 1) := by decide +kernel
theorem dX3_signedDigit_1 : decode cX3_signedDigit 1 = .ok (.bipush 45, 2) := by decide +kernel
theorem dX3_signedDigit_3 : decode cX3_signedDigit 3 = .ok (.invokevirtual 48, 3) := by decide +kernel
theorem dX3_signedDigit_6 : decode cX3_signedDigit 6 = .ok (.istore_n 1, 1) := by decide +kernel
theorem dX3_signedDigit_7 : decode cX3_signedDigit 7 = .ok (.aload_n 0, 1) := by decide +kernel
theorem dX3_signedDigit_8 : decode cX3_signedDigit 8 = .ok (.invokevirtual 52, 3) := by decide +kernel
theorem dX3_signedDigit_11 : decode cX3_signedDigit 11 = .ok (.istore_n 2, 1) := by decide +kernel
theorem dX3_signedDigit_12 : decode cX3_signedDigit 12 = .ok (.iload_n 2, 1) := by decide +kernel
theorem dX3_signedDigit_13 : decode cX3_signedDigit 13 = .ok (.bipush (-100), 2) := by decide +kernel
theorem dX3_signedDigit_15 : decode cX3_signedDigit 15 = .ok (.if_icmp .ne 6, 3) := by decide +kernel
theorem dX3_signedDigit_18 : decode cX3_signedDigit 18 = .ok (.bipush (-100), 2) := by decide +kernel
theorem dX3_signedDigit_20 : decode cX3_signedDigit 20 = .ok (.ireturn, 1) := by decide +kernel
theorem dX3_signedDigit_21 : decode cX3_signedDigit 21 = .ok (.iload_n 1, 1) := by decide +kernel
theorem dX3_signedDigit_22 : decode cX3_signedDigit 22 = .ok (.ifCond .eq 8, 3) := by decide +kernel
theorem dX3_signedDigit_25 : decode cX3_signedDigit 25 = .ok (.iload_n 2, 1) := by decide +kernel
theorem dX3_signedDigit_26 : decode cX3_signedDigit 26 = .ok (.ineg, 1) := by decide +kernel
theorem dX3_signedDigit_27 : decode cX3_signedDigit 27 = .ok (.goto 4, 3) := by decide +kernel
theorem dX3_signedDigit_30 : decode cX3_signedDigit 30 = .ok (.iload_n 2, 1) := by decide +kernel
theorem dX3_signedDigit_31 : decode cX3_signedDigit 31 = .ok (.ireturn, 1) := by decide +kernel
theorem dX4_init_0 : decode cX4_init 0 = .ok (.aload_n 0, 1) := by decide +kernel
theorem dX4_init_1 : decode cX4_init 1 = .ok (.invokespecial 3, 3) := by decide +kernel
theorem dX4_init_4 : decode cX4_init 4 = .ok (.aload_n 0, 1) := by decide +kernel
theorem dX4_init_5 : decode cX4_init 5 = .ok (.bipush 6, 2) := by decide +kernel
theorem dX4_init_7 : decode cX4_init 7 = .ok (.newarray .int, 2) := by decide +kernel
theorem dX4_init_9 : decode cX4_init 9 = .ok (.putfield 9, 3) := by decide +kernel
theorem dX4_init_12 : decode cX4_init 12 = .ok (.aload_n 0, 1) := by decide +kernel
theorem dX4_init_13 : decode cX4_init 13 = .ok (.bipush 6, 2) := by decide +kernel
theorem dX4_init_15 : decode cX4_init 15 = .ok (.newarray .int, 2) := by decide +kernel
theorem dX4_init_17 : decode cX4_init 17 = .ok (.putfield 15, 3) := by decide +kernel
theorem dX4_init_20 : decode cX4_init 20 = .ok (.aload_n 0, 1) := by decide +kernel
theorem dX4_init_21 : decode cX4_init 21 = .ok (.bipush 6, 2) := by decide +kernel
theorem dX4_init_23 : decode cX4_init 23 = .ok (.anewarray 18, 3) := by decide +kernel
theorem dX4_init_26 : decode cX4_init 26 = .ok (.putfield 20, 3) := by decide +kernel
theorem dX4_init_29 : decode cX4_init 29 = .ok (.aload_n 0, 1) := by decide +kernel
theorem dX4_init_30 : decode cX4_init 30 = .ok (.bipush 24, 2) := by decide +kernel
theorem dX4_init_32 : decode cX4_init 32 = .ok (.anewarray 24, 3) := by decide +kernel
theorem dX4_init_35 : decode cX4_init 35 = .ok (.putfield 26, 3) := by decide +kernel
theorem dX4_init_38 : decode cX4_init 38 = .ok (.aload_n 0, 1) := by decide +kernel
theorem dX4_init_39 : decode cX4_init 39 = .ok (.iconst 5, 1) := by decide +kernel
theorem dX4_init_40 : decode cX4_init 40 = .ok (.putfield 30, 3) := by decide +kernel
theorem dX4_init_43 : decode cX4_init 43 = .ok (.aload_n 0, 1) := by decide +kernel
theorem dX4_init_44 : decode cX4_init 44 = .ok (.bipush 100, 2) := by decide +kernel
theorem dX4_init_46 : decode cX4_init 46 = .ok (.putfield 34, 3) := by decide +kernel
theorem dX4_init_49 : decode cX4_init 49 = .ok (.iconst 0, 1) := by decide +kernel
theorem dX4_init_50 : decode cX4_init 50 = .ok (.istore_n 1, 1) := by decide +kernel
theorem dX4_init_51 : decode cX4_init 51 = .ok (.iload_n 1, 1) := by decide +kernel
theorem dX4_init_52 : decode cX4_init 52 = .ok (.bipush 6, 2) := by decide +kernel
theorem dX4_init_54 : decode cX4_init 54 = .ok (.if_icmp .ge 22, 3) := by decide +kernel
theorem dX4_init_57 : decode cX4_init 57 = .ok (.aload_n 0, 1) := by decide +kernel
theorem dX4_init_58 : decode cX4_init 58 = .ok (.getfield 20, 3) := by decide +kernel
theorem dX4_init_61 : decode cX4_init 61 = .ok (.iload_n 1, 1) := by decide +kernel
theorem dX4_init_62 : decode cX4_init 62 = .ok (.new 18, 3) := by decide +kernel
theorem dX4_init_65 : decode cX4_init 65 = .ok (.dup, 1) := by decide +kernel
theorem dX4_init_66 : decode cX4_init 66 = .ok (.invokespecial 37, 3) := by decide +kernel
theorem dX4_init_69 : decode cX4_init 69 = .ok (.aastore, 1) := by decide +kernel
theorem dX4_init_70 : decode cX4_init 70 = .ok (.iinc 1 1, 3) := by decide +kernel
theorem dX4_init_73 : decode cX4_init 73 = .ok (.goto (-22), 3) := by decide +kernel
theorem dX4_init_76 : decode cX4_init 76 = .ok (.iconst 0, 1) := by decide +kernel
theorem dX4_init_77 : decode cX4_init 77 = .ok (.istore_n 1, 1) := by decide +kernel
theorem dX4_init_78 : decode cX4_init 78 = .ok (.iload_n 1, 1) := by decide +kernel
theorem dX4_init_79 : decode cX4_init 79 = .ok (.bipush 24, 2) := by decide +kernel
theorem dX4_init_81 : decode cX4_init 81 = .ok (.if_icmp .ge 22, 3) := by decide +kernel
theorem dX4_init_84 : decode cX4_init 84 = .ok (.aload_n 0, 1) := by decide +kernel
theorem dX4_init_85 : decode cX4_init 85 = .ok (.getfield 26, 3) := by decide +kernel
theorem dX4_init_88 : decode cX4_init 88 = .ok (.iload_n 1, 1) := by decide +kernel
theorem dX4_init_89 : decode cX4_init 89 = .ok (.new 24, 3) := by decide +kernel
theorem dX4_init_92 : decode cX4_init 92 = .ok (.dup, 1) := by decide +kernel
theorem dX4_init_93 : decode cX4_init 93 = .ok (.invokespecial 38, 3) := by decide +kernel
theorem dX4_init_96 : decode cX4_init 96 = .ok (.aastore, 1) := by decide +kernel
theorem dX4_init_97 : decode cX4_init 97 = .ok (.iinc 1 1, 3) := by decide +kernel
theorem dX4_init_100 : decode cX4_init 100 = .ok (.goto (-22), 3) := by decide +kernel
theorem dX4_init_103 : decode cX4_init 103 = .ok (.return_, 1) := by decide +kernel
theorem dX4_copyFrom_0 : decode cX4_copyFrom 0 = .ok (.iconst 0, 1) := by decide +kernel
theorem dX4_copyFrom_1 : decode cX4_copyFrom 1 = .ok (.istore_n 2, 1) := by decide +kernel
theorem dX4_copyFrom_2 : decode cX4_copyFrom 2 = .ok (.iload_n 2, 1) := by decide +kernel
theorem dX4_copyFrom_3 : decode cX4_copyFrom 3 = .ok (.bipush 6, 2) := by decide +kernel
theorem dX4_copyFrom_5 : decode cX4_copyFrom 5 = .ok (.if_icmp .ge 33, 3) := by decide +kernel
theorem dX4_copyFrom_8 : decode cX4_copyFrom 8 = .ok (.aload_n 0, 1) := by decide +kernel
theorem dX4_copyFrom_9 : decode cX4_copyFrom 9 = .ok (.getfield 9, 3) := by decide +kernel
theorem dX4_copyFrom_12 : decode cX4_copyFrom 12 = .ok (.iload_n 2, 1) := by decide +kernel
theorem dX4_copyFrom_13 : decode cX4_copyFrom 13 = .ok (.aload_n 1, 1) := by decide +kernel
theorem dX4_copyFrom_14 : decode cX4_copyFrom 14 = .ok (.getfield 9, 3) := by decide +kernel
theorem dX4_copyFrom_17 : decode cX4_copyFrom 17 = .ok (.iload_n 2, 1) := by decide +kernel
theorem dX4_copyFrom_18 : decode cX4_copyFrom 18 = .ok (.iaload, 1) := by decide +kernel
theorem dX4_copyFrom_19 : decode cX4_copyFrom 19 = .ok (.iastore, 1) := by decide +kernel
theorem dX4_copyFrom_20 : decode cX4_copyFrom 20 = .ok (.aload_n 0, 1) := by decide +kernel
theorem dX4_copyFrom_21 : decode cX4_copyFrom 21 = .ok (.getfield 15, 3) := by decide +kernel
theorem dX4_copyFrom_24 : decode cX4_copyFrom 24 = .ok (.iload_n 2, 1) := by decide +kernel
theorem dX4_copyFrom_25 : decode cX4_copyFrom 25 = .ok (.aload_n 1, 1) := by decide +kernel
theorem dX4_copyFrom_26 : decode cX4_copyFrom 26 = .ok (.getfield 15, 3) := by decide +kernel
theorem dX4_copyFrom_29 : decode cX4_copyFrom 29 = .ok (.iload_n 2, 1) := by decide +kernel
theorem dX4_copyFrom_30 : decode cX4_copyFrom 30 = .ok (.iaload, 1) := by decide +kernel
theorem dX4_copyFrom_31 : decode cX4_copyFrom 31 = .ok (.iastore, 1) := by decide +kernel
theorem dX4_copyFrom_32 : decode cX4_copyFrom 32 = .ok (.iinc 2 1, 3) := by decide +kernel
theorem dX4_copyFrom_35 : decode cX4_copyFrom 35 = .ok (.goto (-33), 3) := by decide +kernel
theorem dX4_copyFrom_38 : decode cX4_copyFrom 38 = .ok (.iconst 0, 1) := by decide +kernel
theorem dX4_copyFrom_39 : decode cX4_copyFrom 39 = .ok (.istore_n 2, 1) := by decide +kernel
theorem dX4_copyFrom_40 : decode cX4_copyFrom 40 = .ok (.iload_n 2, 1) := by decide +kernel
theorem dX4_copyFrom_41 : decode cX4_copyFrom 41 = .ok (.bipush 6, 2) := by decide +kernel
theorem dX4_copyFrom_43 : decode cX4_copyFrom 43 = .ok (.if_icmp .ge 24, 3) := by decide +kernel
theorem dX4_copyFrom_46 : decode cX4_copyFrom 46 = .ok (.aload_n 0, 1) := by decide +kernel
theorem dX4_copyFrom_47 : decode cX4_copyFrom 47 = .ok (.getfield 20, 3) := by decide +kernel
theorem dX4_copyFrom_50 : decode cX4_copyFrom 50 = .ok (.iload_n 2, 1) := by decide +kernel
theorem dX4_copyFrom_51 : decode cX4_copyFrom 51 = .ok (.aaload, 1) := by decide +kernel
theorem dX4_copyFrom_52 : decode cX4_copyFrom 52 = .ok (.aload_n 1, 1) := by decide +kernel
theorem dX4_copyFrom_53 : decode cX4_copyFrom 53 = .ok (.getfield 20, 3) := by decide +kernel
theorem dX4_copyFrom_56 : decode cX4_copyFrom 56 = .ok (.iload_n 2, 1) := by decide +kernel
theorem dX4_copyFrom_57 : decode cX4_copyFrom 57 = .ok (.aaload, 1) := by decide +kernel
theorem dX4_copyFrom_58 : decode cX4_copyFrom 58 = .ok (.invokevirtual 39, 3) := by decide +kernel
theorem dX4_copyFrom_61 : decode cX4_copyFrom 61 = .ok (.iinc 2 1, 3) := by decide +kernel
theorem dX4_copyFrom_64 : decode cX4_copyFrom 64 = .ok (.goto (-24), 3) := by decide +kernel
theorem dX4_copyFrom_67 : decode cX4_copyFrom 67 = .ok (.iconst 0, 1) := by decide +kernel
theorem dX4_copyFrom_68 : decode cX4_copyFrom 68 = .ok (.istore_n 2, 1) := by decide +kernel
theorem dX4_copyFrom_69 : decode cX4_copyFrom 69 = .ok (.iload_n 2, 1) := by decide +kernel
theorem dX4_copyFrom_70 : decode cX4_copyFrom 70 = .ok (.bipush 24, 2) := by decide +kernel
theorem dX4_copyFrom_72 : decode cX4_copyFrom 72 = .ok (.if_icmp .ge 24, 3) := by decide +kernel
theorem dX4_copyFrom_75 : decode cX4_copyFrom 75 = .ok (.aload_n 0, 1) := by decide +kernel
theorem dX4_copyFrom_76 : decode cX4_copyFrom 76 = .ok (.getfield 26, 3) := by decide +kernel
theorem dX4_copyFrom_79 : decode cX4_copyFrom 79 = .ok (.iload_n 2, 1) := by decide +kernel
theorem dX4_copyFrom_80 : decode cX4_copyFrom 80 = .ok (.aaload, 1) := by decide +kernel
theorem dX4_copyFrom_81 : decode cX4_copyFrom 81 = .ok (.aload_n 1, 1) := by decide +kernel
theorem dX4_copyFrom_82 : decode cX4_copyFrom 82 = .ok (.getfield 26, 3) := by decide +kernel
theorem dX4_copyFrom_85 : decode cX4_copyFrom 85 = .ok (.iload_n 2, 1) := by decide +kernel
theorem dX4_copyFrom_86 : decode cX4_copyFrom 86 = .ok (.aaload, 1) := by decide +kernel
theorem dX4_copyFrom_87 : decode cX4_copyFrom 87 = .ok (.invokevirtual 43, 3) := by decide +kernel
theorem dX4_copyFrom_90 : decode cX4_copyFrom 90 = .ok (.iinc 2 1, 3) := by decide +kernel
theorem dX4_copyFrom_93 : decode cX4_copyFrom 93 = .ok (.goto (-24), 3) := by decide +kernel
theorem dX4_copyFrom_96 : decode cX4_copyFrom 96 = .ok (.aload_n 0, 1) := by decide +kernel
theorem dX4_copyFrom_97 : decode cX4_copyFrom 97 = .ok (.aload_n 1, 1) := by decide +kernel
theorem dX4_copyFrom_98 : decode cX4_copyFrom 98 = .ok (.getfield 46, 3) := by decide +kernel
theorem dX4_copyFrom_101 : decode cX4_copyFrom 101 = .ok (.putfield 46, 3) := by decide +kernel
theorem dX4_copyFrom_104 : decode cX4_copyFrom 104 = .ok (.aload_n 0, 1) := by decide +kernel
theorem dX4_copyFrom_105 : decode cX4_copyFrom 105 = .ok (.aload_n 1, 1) := by decide +kernel
theorem dX4_copyFrom_106 : decode cX4_copyFrom 106 = .ok (.getfield 49, 3) := by decide +kernel
theorem dX4_copyFrom_109 : decode cX4_copyFrom 109 = .ok (.putfield 49, 3) := by decide +kernel
theorem dX4_copyFrom_112 : decode cX4_copyFrom 112 = .ok (.aload_n 0, 1) := by decide +kernel
theorem dX4_copyFrom_113 : decode cX4_copyFrom 113 = .ok (.aload_n 1, 1) := by decide +kernel
theorem dX4_copyFrom_114 : decode cX4_copyFrom 114 = .ok (.getfield 52, 3) := by decide +kernel
theorem dX4_copyFrom_117 : decode cX4_copyFrom 117 = .ok (.putfield 52, 3) := by decide +kernel
theorem dX4_copyFrom_120 : decode cX4_copyFrom 120 = .ok (.aload_n 0, 1) := by decide +kernel
theorem dX4_copyFrom_121 : decode cX4_copyFrom 121 = .ok (.aload_n 1, 1) := by decide +kernel
theorem dX4_copyFrom_122 : decode cX4_copyFrom 122 = .ok (.getfield 30, 3) := by decide +kernel
theorem dX4_copyFrom_125 : decode cX4_copyFrom 125 = .ok (.putfield 30, 3) := by decide +kernel
theorem dX4_copyFrom_128 : decode cX4_copyFrom 128 = .ok (.aload_n 0, 1) := by decide +kernel
theorem dX4_copyFrom_129 : decode cX4_copyFrom 129 = .ok (.aload_n 1, 1) := by decide +kernel
theorem dX4_copyFrom_130 : decode cX4_copyFrom 130 = .ok (.getfield 34, 3) := by decide +kernel
theorem dX4_copyFrom_133 : decode cX4_copyFrom 133 = .ok (.putfield 34, 3) := by decide +kernel
theorem dX4_copyFrom_136 : decode cX4_copyFrom 136 = .ok (.aload_n 0, 1) := by decide +kernel
theorem dX4_copyFrom_137 : decode cX4_copyFrom 137 = .ok (.aload_n 1, 1) := by decide +kernel
theorem dX4_copyFrom_138 : decode cX4_copyFrom 138 = .ok (.getfield 55, 3) := by decide +kernel
theorem dX4_copyFrom_141 : decode cX4_copyFrom 141 = .ok (.putfield 55, 3) := by decide +kernel
theorem dX4_copyFrom_144 : decode cX4_copyFrom 144 = .ok (.aload_n 0, 1) := by decide +kernel
theorem dX4_copyFrom_145 : decode cX4_copyFrom 145 = .ok (.aload_n 1, 1) := by decide +kernel
theorem dX4_copyFrom_146 : decode cX4_copyFrom 146 = .ok (.getfield 58, 3) := by decide +kernel
theorem dX4_copyFrom_149 : decode cX4_copyFrom 149 = .ok (.putfield 58, 3) := by decide +kernel
theorem dX4_copyFrom_152 : decode cX4_copyFrom 152 = .ok (.aload_n 0, 1) := by decide +kernel
theorem dX4_copyFrom_153 : decode cX4_copyFrom 153 = .ok (.aload_n 1, 1) := by decide +kernel
theorem dX4_copyFrom_154 : decode cX4_copyFrom 154 = .ok (.getfield 61, 3) := by decide +kernel
theorem dX4_copyFrom_157 : decode cX4_copyFrom 157 = .ok (.putfield 61, 3) := by decide +kernel
theorem dX4_copyFrom_160 : decode cX4_copyFrom 160 = .ok (.aload_n 0, 1) := by decide +kernel
theorem dX4_copyFrom_161 : decode cX4_copyFrom 161 = .ok (.aload_n 1, 1) := by decide +kernel
theorem dX4_copyFrom_162 : decode cX4_copyFrom 162 = .ok (.getfield 64, 3) := by decide +kernel
theorem dX4_copyFrom_165 : decode cX4_copyFrom 165 = .ok (.putfield 64, 3) := by decide +kernel
theorem dX4_copyFrom_168 : decode cX4_copyFrom 168 = .ok (.aload_n 0, 1) := by decide +kernel
theorem dX4_copyFrom_169 : decode cX4_copyFrom 169 = .ok (.aload_n 1, 1) := by decide +kernel
theorem dX4_copyFrom_170 : decode cX4_copyFrom 170 = .ok (.getfield 67, 3) := by decide +kernel
theorem dX4_copyFrom_173 : decode cX4_copyFrom 173 = .ok (.putfield 67, 3) := by decide +kernel
theorem dX4_copyFrom_176 : decode cX4_copyFrom 176 = .ok (.return_, 1) := by decide +kernel
theorem dX4_refuse_0 : decode cX4_refuse 0 = .ok (.aload_n 0, 1) := by decide +kernel
theorem dX4_refuse_1 : decode cX4_refuse 1 = .ok (.iload_n 1, 1) := by decide +kernel
theorem dX4_refuse_2 : decode cX4_refuse 2 = .ok (.putfield 70, 3) := by decide +kernel
theorem dX4_refuse_5 : decode cX4_refuse 5 = .ok (.aload_n 0, 1) := by decide +kernel
theorem dX4_refuse_6 : decode cX4_refuse 6 = .ok (.iload_n 2, 1) := by decide +kernel
theorem dX4_refuse_7 : decode cX4_refuse 7 = .ok (.putfield 73, 3) := by decide +kernel
theorem dX4_refuse_10 : decode cX4_refuse 10 = .ok (.bipush (-103), 2) := by decide +kernel
theorem dX4_refuse_12 : decode cX4_refuse 12 = .ok (.ireturn, 1) := by decide +kernel
theorem dX4_hasBalloon_0 : decode cX4_hasBalloon 0 = .ok (.iload_n 1, 1) := by decide +kernel
theorem dX4_hasBalloon_1 : decode cX4_hasBalloon 1 = .ok (.ifCond .lt 15, 3) := by decide +kernel
theorem dX4_hasBalloon_4 : decode cX4_hasBalloon 4 = .ok (.iload_n 1, 1) := by decide +kernel
theorem dX4_hasBalloon_5 : decode cX4_hasBalloon 5 = .ok (.aload_n 0, 1) := by decide +kernel
theorem dX4_hasBalloon_6 : decode cX4_hasBalloon 6 = .ok (.getfield 46, 3) := by decide +kernel
theorem dX4_hasBalloon_9 : decode cX4_hasBalloon 9 = .ok (.if_icmp .ge 7, 3) := by decide +kernel
theorem dX4_hasBalloon_12 : decode cX4_hasBalloon 12 = .ok (.iconst 1, 1) := by decide +kernel
theorem dX4_hasBalloon_13 : decode cX4_hasBalloon 13 = .ok (.goto 4, 3) := by decide +kernel
theorem dX4_hasBalloon_16 : decode cX4_hasBalloon 16 = .ok (.iconst 0, 1) := by decide +kernel
theorem dX4_hasBalloon_17 : decode cX4_hasBalloon 17 = .ok (.ireturn, 1) := by decide +kernel
theorem dX4_hasLetter_0 : decode cX4_hasLetter 0 = .ok (.iload_n 1, 1) := by decide +kernel
theorem dX4_hasLetter_1 : decode cX4_hasLetter 1 = .ok (.ifCond .lt 15, 3) := by decide +kernel
theorem dX4_hasLetter_4 : decode cX4_hasLetter 4 = .ok (.iload_n 1, 1) := by decide +kernel
theorem dX4_hasLetter_5 : decode cX4_hasLetter 5 = .ok (.aload_n 0, 1) := by decide +kernel
theorem dX4_hasLetter_6 : decode cX4_hasLetter 6 = .ok (.getfield 49, 3) := by decide +kernel
theorem dX4_hasLetter_9 : decode cX4_hasLetter 9 = .ok (.if_icmp .ge 7, 3) := by decide +kernel
theorem dX4_hasLetter_12 : decode cX4_hasLetter 12 = .ok (.iconst 1, 1) := by decide +kernel
theorem dX4_hasLetter_13 : decode cX4_hasLetter 13 = .ok (.goto 4, 3) := by decide +kernel
theorem dX4_hasLetter_16 : decode cX4_hasLetter 16 = .ok (.iconst 0, 1) := by decide +kernel
theorem dX4_hasLetter_17 : decode cX4_hasLetter 17 = .ok (.ireturn, 1) := by decide +kernel
theorem dX4_isInRing_0 : decode cX4_isInRing 0 = .ok (.iload_n 1, 1) := by decide +kernel
theorem dX4_isInRing_1 : decode cX4_isInRing 1 = .ok (.iload_n 2, 1) := by decide +kernel
theorem dX4_isInRing_2 : decode cX4_isInRing 2 = .ok (.invokestatic 76, 3) := by decide +kernel
theorem dX4_isInRing_5 : decode cX4_isInRing 5 = .ok (.aload_n 0, 1) := by decide +kernel
theorem dX4_isInRing_6 : decode cX4_isInRing 6 = .ok (.getfield 30, 3) := by decide +kernel
theorem dX4_isInRing_9 : decode cX4_isInRing 9 = .ok (.if_icmp .gt 7, 3) := by decide +kernel
theorem dX4_isInRing_12 : decode cX4_isInRing 12 = .ok (.iconst 1, 1) := by decide +kernel
theorem dX4_isInRing_13 : decode cX4_isInRing 13 = .ok (.goto 4, 3) := by decide +kernel
theorem dX4_isInRing_16 : decode cX4_isInRing 16 = .ok (.iconst 0, 1) := by decide +kernel
theorem dX4_isInRing_17 : decode cX4_isInRing 17 = .ok (.ireturn, 1) := by decide +kernel
theorem dX4_setRing_0 : decode cX4_setRing 0 = .ok (.iload_n 1, 1) := by decide +kernel
theorem dX4_setRing_1 : decode cX4_setRing 1 = .ok (.iconst 1, 1) := by decide +kernel
theorem dX4_setRing_2 : decode cX4_setRing 2 = .ok (.bipush 15, 2) := by decide +kernel
theorem dX4_setRing_4 : decode cX4_setRing 4 = .ok (.invokestatic 80, 3) := by decide +kernel
theorem dX4_setRing_7 : decode cX4_setRing 7 = .ok (.ifCond .ne 6, 3) := by decide +kernel
theorem dX4_setRing_10 : decode cX4_setRing 10 = .ok (.bipush (-102), 2) := by decide +kernel
theorem dX4_setRing_12 : decode cX4_setRing 12 = .ok (.ireturn, 1) := by decide +kernel
theorem dX4_setRing_13 : decode cX4_setRing 13 = .ok (.aload_n 0, 1) := by decide +kernel
theorem dX4_setRing_14 : decode cX4_setRing 14 = .ok (.getfield 30, 3) := by decide +kernel
theorem dX4_setRing_17 : decode cX4_setRing 17 = .ok (.istore_n 2, 1) := by decide +kernel
theorem dX4_setRing_18 : decode cX4_setRing 18 = .ok (.aload_n 0, 1) := by decide +kernel
theorem dX4_setRing_19 : decode cX4_setRing 19 = .ok (.iload_n 1, 1) := by decide +kernel
theorem dX4_setRing_20 : decode cX4_setRing 20 = .ok (.putfield 30, 3) := by decide +kernel
theorem dX4_setRing_23 : decode cX4_setRing 23 = .ok (.iload_n 2, 1) := by decide +kernel
theorem dX4_setRing_24 : decode cX4_setRing 24 = .ok (.ireturn, 1) := by decide +kernel
theorem dX4_setWind_0 : decode cX4_setWind 0 = .ok (.iload_n 1, 1) := by decide +kernel
theorem dX4_setWind_1 : decode cX4_setWind 1 = .ok (.iconst 0, 1) := by decide +kernel
theorem dX4_setWind_2 : decode cX4_setWind 2 = .ok (.iconst 5, 1) := by decide +kernel
theorem dX4_setWind_3 : decode cX4_setWind 3 = .ok (.invokestatic 80, 3) := by decide +kernel
theorem dX4_setWind_6 : decode cX4_setWind 6 = .ok (.ifCond .ne 6, 3) := by decide +kernel
theorem dX4_setWind_9 : decode cX4_setWind 9 = .ok (.bipush (-101), 2) := by decide +kernel
theorem dX4_setWind_11 : decode cX4_setWind 11 = .ok (.ireturn, 1) := by decide +kernel
theorem dX4_setWind_12 : decode cX4_setWind 12 = .ok (.iload_n 2, 1) := by decide +kernel
theorem dX4_setWind_13 : decode cX4_setWind 13 = .ok (.bipush (-3), 2) := by decide +kernel
theorem dX4_setWind_15 : decode cX4_setWind 15 = .ok (.iconst 3, 1) := by decide +kernel
theorem dX4_setWind_16 : decode cX4_setWind 16 = .ok (.invokestatic 80, 3) := by decide +kernel
theorem dX4_setWind_19 : decode cX4_setWind 19 = .ok (.ifCond .eq 13, 3) := by decide +kernel
theorem dX4_setWind_22 : decode cX4_setWind 22 = .ok (.iload_n 3, 1) := by decide +kernel
theorem dX4_setWind_23 : decode cX4_setWind 23 = .ok (.bipush (-3), 2) := by decide +kernel
theorem dX4_setWind_25 : decode cX4_setWind 25 = .ok (.iconst 3, 1) := by decide +kernel
theorem dX4_setWind_26 : decode cX4_setWind 26 = .ok (.invokestatic 80, 3) := by decide +kernel
theorem dX4_setWind_29 : decode cX4_setWind 29 = .ok (.ifCond .ne 6, 3) := by decide +kernel
theorem dX4_setWind_32 : decode cX4_setWind 32 = .ok (.bipush (-102), 2) := by decide +kernel
theorem dX4_setWind_34 : decode cX4_setWind 34 = .ok (.ireturn, 1) := by decide +kernel
theorem dX4_setWind_35 : decode cX4_setWind 35 = .ok (.bipush 10, 2) := by decide +kernel
theorem dX4_setWind_37 : decode cX4_setWind 37 = .ok (.aload_n 0, 1) := by decide +kernel
theorem dX4_setWind_38 : decode cX4_setWind 38 = .ok (.getfield 9, 3) := by decide +kernel
theorem dX4_setWind_41 : decode cX4_setWind 41 = .ok (.iload_n 1, 1) := by decide +kernel
theorem dX4_setWind_42 : decode cX4_setWind 42 = .ok (.iaload, 1) := by decide +kernel
theorem dX4_setWind_43 : decode cX4_setWind 43 = .ok (.imul, 1) := by decide +kernel
theorem dX4_setWind_44 : decode cX4_setWind 44 = .ok (.aload_n 0, 1) := by decide +kernel
theorem dX4_setWind_45 : decode cX4_setWind 45 = .ok (.getfield 15, 3) := by decide +kernel
theorem dX4_setWind_48 : decode cX4_setWind 48 = .ok (.iload_n 1, 1) := by decide +kernel
theorem dX4_setWind_49 : decode cX4_setWind 49 = .ok (.iaload, 1) := by decide +kernel
theorem dX4_setWind_50 : decode cX4_setWind 50 = .ok (.iadd, 1) := by decide +kernel
theorem dX4_setWind_51 : decode cX4_setWind 51 = .ok (.istore 4, 2) := by decide +kernel
theorem dX4_setWind_53 : decode cX4_setWind 53 = .ok (.aload_n 0, 1) := by decide +kernel
theorem dX4_setWind_54 : decode cX4_setWind 54 = .ok (.getfield 9, 3) := by decide +kernel
theorem dX4_setWind_57 : decode cX4_setWind 57 = .ok (.iload_n 1, 1) := by decide +kernel
theorem dX4_setWind_58 : decode cX4_setWind 58 = .ok (.iload_n 2, 1) := by decide +kernel
theorem dX4_setWind_59 : decode cX4_setWind 59 = .ok (.iastore, 1) := by decide +kernel
theorem dX4_setWind_60 : decode cX4_setWind 60 = .ok (.aload_n 0, 1) := by decide +kernel
theorem dX4_setWind_61 : decode cX4_setWind 61 = .ok (.getfield 15, 3) := by decide +kernel
theorem dX4_setWind_64 : decode cX4_setWind 64 = .ok (.iload_n 1, 1) := by decide +kernel
theorem dX4_setWind_65 : decode cX4_setWind 65 = .ok (.iload_n 3, 1) := by decide +kernel
theorem dX4_setWind_66 : decode cX4_setWind 66 = .ok (.iastore, 1) := by decide +kernel
theorem dX4_setWind_67 : decode cX4_setWind 67 = .ok (.iload 4, 2) := by decide +kernel
theorem dX4_setWind_69 : decode cX4_setWind 69 = .ok (.ireturn, 1) := by decide +kernel
theorem dX4_makeGas_0 : decode cX4_makeGas 0 = .ok (.iload_n 1, 1) := by decide +kernel
theorem dX4_makeGas_1 : decode cX4_makeGas 1 = .ok (.iconst 1, 1) := by decide +kernel
theorem dX4_makeGas_2 : decode cX4_makeGas 2 = .ok (.sipush 999, 3) := by decide +kernel
theorem dX4_makeGas_5 : decode cX4_makeGas 5 = .ok (.invokestatic 80, 3) := by decide +kernel
theorem dX4_makeGas_8 : decode cX4_makeGas 8 = .ok (.ifCond .ne 6, 3) := by decide +kernel
theorem dX4_makeGas_11 : decode cX4_makeGas 11 = .ok (.bipush (-102), 2) := by decide +kernel
theorem dX4_makeGas_13 : decode cX4_makeGas 13 = .ok (.ireturn, 1) := by decide +kernel
theorem dX4_makeGas_14 : decode cX4_makeGas 14 = .ok (.aload_n 0, 1) := by decide +kernel
theorem dX4_makeGas_15 : decode cX4_makeGas 15 = .ok (.aload_n 0, 1) := by decide +kernel
theorem dX4_makeGas_16 : decode cX4_makeGas 16 = .ok (.getfield 34, 3) := by decide +kernel
theorem dX4_makeGas_19 : decode cX4_makeGas 19 = .ok (.iload_n 1, 1) := by decide +kernel
theorem dX4_makeGas_20 : decode cX4_makeGas 20 = .ok (.iadd, 1) := by decide +kernel
theorem dX4_makeGas_21 : decode cX4_makeGas 21 = .ok (.sipush 9999, 3) := by decide +kernel
theorem dX4_makeGas_24 : decode cX4_makeGas 24 = .ok (.invokestatic 84, 3) := by decide +kernel
theorem dX4_makeGas_27 : decode cX4_makeGas 27 = .ok (.putfield 34, 3) := by decide +kernel
theorem dX4_makeGas_30 : decode cX4_makeGas 30 = .ok (.aload_n 0, 1) := by decide +kernel
theorem dX4_makeGas_31 : decode cX4_makeGas 31 = .ok (.getfield 34, 3) := by decide +kernel
theorem dX4_makeGas_34 : decode cX4_makeGas 34 = .ok (.ireturn, 1) := by decide +kernel
theorem dX4_addBalloon_0 : decode cX4_addBalloon 0 = .ok (.iload_n 1, 1) := by decide +kernel
theorem dX4_addBalloon_1 : decode cX4_addBalloon 1 = .ok (.bipush 10, 2) := by decide +kernel
theorem dX4_addBalloon_3 : decode cX4_addBalloon 3 = .ok (.bipush 99, 2) := by decide +kernel
theorem dX4_addBalloon_5 : decode cX4_addBalloon 5 = .ok (.invokestatic 80, 3) := by decide +kernel
theorem dX4_addBalloon_8 : decode cX4_addBalloon 8 = .ok (.ifCond .ne 6, 3) := by decide +kernel
theorem dX4_addBalloon_11 : decode cX4_addBalloon 11 = .ok (.bipush (-102), 2) := by decide +kernel
theorem dX4_addBalloon_13 : decode cX4_addBalloon 13 = .ok (.ireturn, 1) := by decide +kernel
theorem dX4_addBalloon_14 : decode cX4_addBalloon 14 = .ok (.aload_n 0, 1) := by decide +kernel
theorem dX4_addBalloon_15 : decode cX4_addBalloon 15 = .ok (.getfield 46, 3) := by decide +kernel
theorem dX4_addBalloon_18 : decode cX4_addBalloon 18 = .ok (.bipush 6, 2) := by decide +kernel
theorem dX4_addBalloon_20 : decode cX4_addBalloon 20 = .ok (.if_icmp .lt 11, 3) := by decide +kernel
theorem dX4_addBalloon_23 : decode cX4_addBalloon 23 = .ok (.aload_n 0, 1) := by decide +kernel
theorem dX4_addBalloon_24 : decode cX4_addBalloon 24 = .ok (.iconst 1, 1) := by decide +kernel
theorem dX4_addBalloon_25 : decode cX4_addBalloon 25 = .ok (.bipush 6, 2) := by decide +kernel
theorem dX4_addBalloon_27 : decode cX4_addBalloon 27 = .ok (.invokevirtual 89, 3) := by decide +kernel
theorem dX4_addBalloon_30 : decode cX4_addBalloon 30 = .ok (.ireturn, 1) := by decide +kernel
theorem dX4_addBalloon_31 : decode cX4_addBalloon 31 = .ok (.aload_n 0, 1) := by decide +kernel
theorem dX4_addBalloon_32 : decode cX4_addBalloon 32 = .ok (.getfield 20, 3) := by decide +kernel
theorem dX4_addBalloon_35 : decode cX4_addBalloon 35 = .ok (.aload_n 0, 1) := by decide +kernel
theorem dX4_addBalloon_36 : decode cX4_addBalloon 36 = .ok (.getfield 46, 3) := by decide +kernel
theorem dX4_addBalloon_39 : decode cX4_addBalloon 39 = .ok (.aaload, 1) := by decide +kernel
theorem dX4_addBalloon_40 : decode cX4_addBalloon 40 = .ok (.iload_n 1, 1) := by decide +kernel
theorem dX4_addBalloon_41 : decode cX4_addBalloon 41 = .ok (.putfield 92, 3) := by decide +kernel
theorem dX4_addBalloon_44 : decode cX4_addBalloon 44 = .ok (.aload_n 0, 1) := by decide +kernel
theorem dX4_addBalloon_45 : decode cX4_addBalloon 45 = .ok (.dup, 1) := by decide +kernel
theorem dX4_addBalloon_46 : decode cX4_addBalloon 46 = .ok (.getfield 46, 3) := by decide +kernel
theorem dX4_addBalloon_49 : decode cX4_addBalloon 49 = .ok (.iconst 1, 1) := by decide +kernel
theorem dX4_addBalloon_50 : decode cX4_addBalloon 50 = .ok (.iadd, 1) := by decide +kernel
theorem dX4_addBalloon_51 : decode cX4_addBalloon 51 = .ok (.putfield 46, 3) := by decide +kernel
theorem dX4_addBalloon_54 : decode cX4_addBalloon 54 = .ok (.aload_n 0, 1) := by decide +kernel
theorem dX4_addBalloon_55 : decode cX4_addBalloon 55 = .ok (.getfield 46, 3) := by decide +kernel
theorem dX4_addBalloon_58 : decode cX4_addBalloon 58 = .ok (.iconst 1, 1) := by decide +kernel
theorem dX4_addBalloon_59 : decode cX4_addBalloon 59 = .ok (.isub, 1) := by decide +kernel
theorem dX4_addBalloon_60 : decode cX4_addBalloon 60 = .ok (.ireturn, 1) := by decide +kernel
theorem dX4_fillBalloon_0 : decode cX4_fillBalloon 0 = .ok (.aload_n 0, 1) := by decide +kernel
theorem dX4_fillBalloon_1 : decode cX4_fillBalloon 1 = .ok (.iload_n 1, 1) := by decide +kernel
theorem dX4_fillBalloon_2 : decode cX4_fillBalloon 2 = .ok (.invokevirtual 95, 3) := by decide +kernel
theorem dX4_fillBalloon_5 : decode cX4_fillBalloon 5 = .ok (.ifCond .ne 6, 3) := by decide +kernel
theorem dX4_fillBalloon_8 : decode cX4_fillBalloon 8 = .ok (.bipush (-101), 2) := by decide +kernel
theorem dX4_fillBalloon_10 : decode cX4_fillBalloon 10 = .ok (.ireturn, 1) := by decide +kernel
theorem dX4_fillBalloon_11 : decode cX4_fillBalloon 11 = .ok (.iload_n 2, 1) := by decide +kernel
theorem dX4_fillBalloon_12 : decode cX4_fillBalloon 12 = .ok (.iconst 1, 1) := by decide +kernel
theorem dX4_fillBalloon_13 : decode cX4_fillBalloon 13 = .ok (.bipush 99, 2) := by decide +kernel
theorem dX4_fillBalloon_15 : decode cX4_fillBalloon 15 = .ok (.invokestatic 80, 3) := by decide +kernel
theorem dX4_fillBalloon_18 : decode cX4_fillBalloon 18 = .ok (.ifCond .ne 6, 3) := by decide +kernel
theorem dX4_fillBalloon_21 : decode cX4_fillBalloon 21 = .ok (.bipush (-102), 2) := by decide +kernel
theorem dX4_fillBalloon_23 : decode cX4_fillBalloon 23 = .ok (.ireturn, 1) := by decide +kernel
theorem dX4_fillBalloon_24 : decode cX4_fillBalloon 24 = .ok (.aload_n 0, 1) := by decide +kernel
theorem dX4_fillBalloon_25 : decode cX4_fillBalloon 25 = .ok (.getfield 20, 3) := by decide +kernel
theorem dX4_fillBalloon_28 : decode cX4_fillBalloon 28 = .ok (.iload_n 1, 1) := by decide +kernel
theorem dX4_fillBalloon_29 : decode cX4_fillBalloon 29 = .ok (.aaload, 1) := by decide +kernel
theorem dX4_fillBalloon_30 : decode cX4_fillBalloon 30 = .ok (.astore_n 3, 1) := by decide +kernel
theorem dX4_fillBalloon_31 : decode cX4_fillBalloon 31 = .ok (.aload_n 3, 1) := by decide +kernel
theorem dX4_fillBalloon_32 : decode cX4_fillBalloon 32 = .ok (.getfield 99, 3) := by decide +kernel
theorem dX4_fillBalloon_35 : decode cX4_fillBalloon 35 = .ok (.ifCond .eq 10, 3) := by decide +kernel
theorem dX4_fillBalloon_38 : decode cX4_fillBalloon 38 = .ok (.aload_n 0, 1) := by decide +kernel
theorem dX4_fillBalloon_39 : decode cX4_fillBalloon 39 = .ok (.iconst 2, 1) := by decide +kernel
theorem dX4_fillBalloon_40 : decode cX4_fillBalloon 40 = .ok (.iload_n 1, 1) := by decide +kernel
theorem dX4_fillBalloon_41 : decode cX4_fillBalloon 41 = .ok (.invokevirtual 89, 3) := by decide +kernel
theorem dX4_fillBalloon_44 : decode cX4_fillBalloon 44 = .ok (.ireturn, 1) := by decide +kernel
theorem dX4_fillBalloon_45 : decode cX4_fillBalloon 45 = .ok (.iload_n 2, 1) := by decide +kernel
theorem dX4_fillBalloon_46 : decode cX4_fillBalloon 46 = .ok (.aload_n 0, 1) := by decide +kernel
theorem dX4_fillBalloon_47 : decode cX4_fillBalloon 47 = .ok (.getfield 34, 3) := by decide +kernel
theorem dX4_fillBalloon_50 : decode cX4_fillBalloon 50 = .ok (.if_icmp .le 13, 3) := by decide +kernel
theorem dX4_fillBalloon_53 : decode cX4_fillBalloon 53 = .ok (.aload_n 0, 1) := by decide +kernel
theorem dX4_fillBalloon_54 : decode cX4_fillBalloon 54 = .ok (.iconst 4, 1) := by decide +kernel
theorem dX4_fillBalloon_55 : decode cX4_fillBalloon 55 = .ok (.aload_n 0, 1) := by decide +kernel
theorem dX4_fillBalloon_56 : decode cX4_fillBalloon 56 = .ok (.getfield 34, 3) := by decide +kernel
theorem dX4_fillBalloon_59 : decode cX4_fillBalloon 59 = .ok (.invokevirtual 89, 3) := by decide +kernel
theorem dX4_fillBalloon_62 : decode cX4_fillBalloon 62 = .ok (.ireturn, 1) := by decide +kernel
theorem dX4_fillBalloon_63 : decode cX4_fillBalloon 63 = .ok (.aload_n 3, 1) := by decide +kernel
theorem dX4_fillBalloon_64 : decode cX4_fillBalloon 64 = .ok (.getfield 92, 3) := by decide +kernel
theorem dX4_fillBalloon_67 : decode cX4_fillBalloon 67 = .ok (.aload_n 3, 1) := by decide +kernel
theorem dX4_fillBalloon_68 : decode cX4_fillBalloon 68 = .ok (.getfield 102, 3) := by decide +kernel
theorem dX4_fillBalloon_71 : decode cX4_fillBalloon 71 = .ok (.isub, 1) := by decide +kernel
theorem dX4_fillBalloon_72 : decode cX4_fillBalloon 72 = .ok (.istore 4, 2) := by decide +kernel
theorem dX4_fillBalloon_74 : decode cX4_fillBalloon 74 = .ok (.iload_n 2, 1) := by decide +kernel
theorem dX4_fillBalloon_75 : decode cX4_fillBalloon 75 = .ok (.iload 4, 2) := by decide +kernel
theorem dX4_fillBalloon_77 : decode cX4_fillBalloon 77 = .ok (.if_icmp .le 11, 3) := by decide +kernel
theorem dX4_fillBalloon_80 : decode cX4_fillBalloon 80 = .ok (.aload_n 0, 1) := by decide +kernel
theorem dX4_fillBalloon_81 : decode cX4_fillBalloon 81 = .ok (.iconst 5, 1) := by decide +kernel
theorem dX4_fillBalloon_82 : decode cX4_fillBalloon 82 = .ok (.iload 4, 2) := by decide +kernel
theorem dX4_fillBalloon_84 : decode cX4_fillBalloon 84 = .ok (.invokevirtual 89, 3) := by decide +kernel
theorem dX4_fillBalloon_87 : decode cX4_fillBalloon 87 = .ok (.ireturn, 1) := by decide +kernel
theorem dX4_fillBalloon_88 : decode cX4_fillBalloon 88 = .ok (.aload_n 0, 1) := by decide +kernel
theorem dX4_fillBalloon_89 : decode cX4_fillBalloon 89 = .ok (.dup, 1) := by decide +kernel
theorem dX4_fillBalloon_90 : decode cX4_fillBalloon 90 = .ok (.getfield 34, 3) := by decide +kernel
theorem dX4_fillBalloon_93 : decode cX4_fillBalloon 93 = .ok (.iload_n 2, 1) := by decide +kernel
theorem dX4_fillBalloon_94 : decode cX4_fillBalloon 94 = .ok (.isub, 1) := by decide +kernel
theorem dX4_fillBalloon_95 : decode cX4_fillBalloon 95 = .ok (.putfield 34, 3) := by decide +kernel
theorem dX4_fillBalloon_98 : decode cX4_fillBalloon 98 = .ok (.aload_n 3, 1) := by decide +kernel
theorem dX4_fillBalloon_99 : decode cX4_fillBalloon 99 = .ok (.dup, 1) := by decide +kernel
theorem dX4_fillBalloon_100 : decode cX4_fillBalloon 100 = .ok (.getfield 102, 3) := by decide +kernel
theorem dX4_fillBalloon_103 : decode cX4_fillBalloon 103 = .ok (.iload_n 2, 1) := by decide +kernel
theorem dX4_fillBalloon_104 : decode cX4_fillBalloon 104 = .ok (.iadd, 1) := by decide +kernel
theorem dX4_fillBalloon_105 : decode cX4_fillBalloon 105 = .ok (.putfield 102, 3) := by decide +kernel
theorem dX4_fillBalloon_108 : decode cX4_fillBalloon 108 = .ok (.aload_n 3, 1) := by decide +kernel
theorem dX4_fillBalloon_109 : decode cX4_fillBalloon 109 = .ok (.getfield 102, 3) := by decide +kernel
theorem dX4_fillBalloon_112 : decode cX4_fillBalloon 112 = .ok (.ireturn, 1) := by decide +kernel
theorem dX4_layBallast_0 : decode cX4_layBallast 0 = .ok (.aload_n 0, 1) := by decide +kernel
theorem dX4_layBallast_1 : decode cX4_layBallast 1 = .ok (.iload_n 1, 1) := by decide +kernel
theorem dX4_layBallast_2 : decode cX4_layBallast 2 = .ok (.invokevirtual 95, 3) := by decide +kernel
theorem dX4_layBallast_5 : decode cX4_layBallast 5 = .ok (.ifCond .ne 6, 3) := by decide +kernel
theorem dX4_layBallast_8 : decode cX4_layBallast 8 = .ok (.bipush (-101), 2) := by decide +kernel
theorem dX4_layBallast_10 : decode cX4_layBallast 10 = .ok (.ireturn, 1) := by decide +kernel
theorem dX4_layBallast_11 : decode cX4_layBallast 11 = .ok (.iload_n 2, 1) := by decide +kernel
theorem dX4_layBallast_12 : decode cX4_layBallast 12 = .ok (.iconst 1, 1) := by decide +kernel
theorem dX4_layBallast_13 : decode cX4_layBallast 13 = .ok (.bipush 50, 2) := by decide +kernel
theorem dX4_layBallast_15 : decode cX4_layBallast 15 = .ok (.invokestatic 80, 3) := by decide +kernel
theorem dX4_layBallast_18 : decode cX4_layBallast 18 = .ok (.ifCond .ne 6, 3) := by decide +kernel
theorem dX4_layBallast_21 : decode cX4_layBallast 21 = .ok (.bipush (-102), 2) := by decide +kernel
theorem dX4_layBallast_23 : decode cX4_layBallast 23 = .ok (.ireturn, 1) := by decide +kernel
theorem dX4_layBallast_24 : decode cX4_layBallast 24 = .ok (.aload_n 0, 1) := by decide +kernel
theorem dX4_layBallast_25 : decode cX4_layBallast 25 = .ok (.getfield 20, 3) := by decide +kernel
theorem dX4_layBallast_28 : decode cX4_layBallast 28 = .ok (.iload_n 1, 1) := by decide +kernel
theorem dX4_layBallast_29 : decode cX4_layBallast 29 = .ok (.aaload, 1) := by decide +kernel
theorem dX4_layBallast_30 : decode cX4_layBallast 30 = .ok (.astore_n 3, 1) := by decide +kernel
theorem dX4_layBallast_31 : decode cX4_layBallast 31 = .ok (.aload_n 3, 1) := by decide +kernel
theorem dX4_layBallast_32 : decode cX4_layBallast 32 = .ok (.getfield 99, 3) := by decide +kernel
theorem dX4_layBallast_35 : decode cX4_layBallast 35 = .ok (.ifCond .eq 10, 3) := by decide +kernel
theorem dX4_layBallast_38 : decode cX4_layBallast 38 = .ok (.aload_n 0, 1) := by decide +kernel
theorem dX4_layBallast_39 : decode cX4_layBallast 39 = .ok (.iconst 2, 1) := by decide +kernel
theorem dX4_layBallast_40 : decode cX4_layBallast 40 = .ok (.iload_n 1, 1) := by decide +kernel
theorem dX4_layBallast_41 : decode cX4_layBallast 41 = .ok (.invokevirtual 89, 3) := by decide +kernel
theorem dX4_layBallast_44 : decode cX4_layBallast 44 = .ok (.ireturn, 1) := by decide +kernel
theorem dX4_layBallast_45 : decode cX4_layBallast 45 = .ok (.bipush 50, 2) := by decide +kernel
theorem dX4_layBallast_47 : decode cX4_layBallast 47 = .ok (.aload_n 3, 1) := by decide +kernel
theorem dX4_layBallast_48 : decode cX4_layBallast 48 = .ok (.getfield 103, 3) := by decide +kernel
theorem dX4_layBallast_51 : decode cX4_layBallast 51 = .ok (.isub, 1) := by decide +kernel
theorem dX4_layBallast_52 : decode cX4_layBallast 52 = .ok (.istore 4, 2) := by decide +kernel
theorem dX4_layBallast_54 : decode cX4_layBallast 54 = .ok (.iload_n 2, 1) := by decide +kernel
theorem dX4_layBallast_55 : decode cX4_layBallast 55 = .ok (.iload 4, 2) := by decide +kernel
theorem dX4_layBallast_57 : decode cX4_layBallast 57 = .ok (.if_icmp .le 12, 3) := by decide +kernel
theorem dX4_layBallast_60 : decode cX4_layBallast 60 = .ok (.aload_n 0, 1) := by decide +kernel
theorem dX4_layBallast_61 : decode cX4_layBallast 61 = .ok (.bipush 6, 2) := by decide +kernel
theorem dX4_layBallast_63 : decode cX4_layBallast 63 = .ok (.iload 4, 2) := by decide +kernel
theorem dX4_layBallast_65 : decode cX4_layBallast 65 = .ok (.invokevirtual 89, 3) := by decide +kernel
theorem dX4_layBallast_68 : decode cX4_layBallast 68 = .ok (.ireturn, 1) := by decide +kernel
theorem dX4_layBallast_69 : decode cX4_layBallast 69 = .ok (.aload_n 3, 1) := by decide +kernel
theorem dX4_layBallast_70 : decode cX4_layBallast 70 = .ok (.dup, 1) := by decide +kernel
theorem dX4_layBallast_71 : decode cX4_layBallast 71 = .ok (.getfield 103, 3) := by decide +kernel
theorem dX4_layBallast_74 : decode cX4_layBallast 74 = .ok (.iload_n 2, 1) := by decide +kernel
theorem dX4_layBallast_75 : decode cX4_layBallast 75 = .ok (.iadd, 1) := by decide +kernel
theorem dX4_layBallast_76 : decode cX4_layBallast 76 = .ok (.putfield 103, 3) := by decide +kernel
theorem dX4_layBallast_79 : decode cX4_layBallast 79 = .ok (.aload_n 0, 1) := by decide +kernel
theorem dX4_layBallast_80 : decode cX4_layBallast 80 = .ok (.dup, 1) := by decide +kernel
theorem dX4_layBallast_81 : decode cX4_layBallast 81 = .ok (.getfield 55, 3) := by decide +kernel
theorem dX4_layBallast_84 : decode cX4_layBallast 84 = .ok (.iload_n 2, 1) := by decide +kernel
theorem dX4_layBallast_85 : decode cX4_layBallast 85 = .ok (.iadd, 1) := by decide +kernel
theorem dX4_layBallast_86 : decode cX4_layBallast 86 = .ok (.putfield 55, 3) := by decide +kernel
theorem dX4_layBallast_89 : decode cX4_layBallast 89 = .ok (.aload_n 3, 1) := by decide +kernel
theorem dX4_layBallast_90 : decode cX4_layBallast 90 = .ok (.getfield 103, 3) := by decide +kernel
theorem dX4_layBallast_93 : decode cX4_layBallast 93 = .ok (.ireturn, 1) := by decide +kernel
theorem dX4_addCourier_0 : decode cX4_addCourier 0 = .ok (.aload_n 0, 1) := by decide +kernel
theorem dX4_addCourier_1 : decode cX4_addCourier 1 = .ok (.iload_n 1, 1) := by decide +kernel
theorem dX4_addCourier_2 : decode cX4_addCourier 2 = .ok (.invokevirtual 95, 3) := by decide +kernel
theorem dX4_addCourier_5 : decode cX4_addCourier 5 = .ok (.ifCond .ne 6, 3) := by decide +kernel
theorem dX4_addCourier_8 : decode cX4_addCourier 8 = .ok (.bipush (-101), 2) := by decide +kernel
theorem dX4_addCourier_10 : decode cX4_addCourier 10 = .ok (.ireturn, 1) := by decide +kernel
theorem dX4_addCourier_11 : decode cX4_addCourier 11 = .ok (.iload_n 2, 1) := by decide +kernel
theorem dX4_addCourier_12 : decode cX4_addCourier 12 = .ok (.iconst 5, 1) := by decide +kernel
theorem dX4_addCourier_13 : decode cX4_addCourier 13 = .ok (.bipush 12, 2) := by decide +kernel
theorem dX4_addCourier_15 : decode cX4_addCourier 15 = .ok (.invokestatic 80, 3) := by decide +kernel
theorem dX4_addCourier_18 : decode cX4_addCourier 18 = .ok (.ifCond .ne 6, 3) := by decide +kernel
theorem dX4_addCourier_21 : decode cX4_addCourier 21 = .ok (.bipush (-102), 2) := by decide +kernel
theorem dX4_addCourier_23 : decode cX4_addCourier 23 = .ok (.ireturn, 1) := by decide +kernel
theorem dX4_addCourier_24 : decode cX4_addCourier 24 = .ok (.aload_n 0, 1) := by decide +kernel
theorem dX4_addCourier_25 : decode cX4_addCourier 25 = .ok (.getfield 20, 3) := by decide +kernel
theorem dX4_addCourier_28 : decode cX4_addCourier 28 = .ok (.iload_n 1, 1) := by decide +kernel
theorem dX4_addCourier_29 : decode cX4_addCourier 29 = .ok (.aaload, 1) := by decide +kernel
theorem dX4_addCourier_30 : decode cX4_addCourier 30 = .ok (.astore_n 3, 1) := by decide +kernel
theorem dX4_addCourier_31 : decode cX4_addCourier 31 = .ok (.aload_n 3, 1) := by decide +kernel
theorem dX4_addCourier_32 : decode cX4_addCourier 32 = .ok (.getfield 99, 3) := by decide +kernel
theorem dX4_addCourier_35 : decode cX4_addCourier 35 = .ok (.ifCond .eq 10, 3) := by decide +kernel
theorem dX4_addCourier_38 : decode cX4_addCourier 38 = .ok (.aload_n 0, 1) := by decide +kernel
theorem dX4_addCourier_39 : decode cX4_addCourier 39 = .ok (.iconst 2, 1) := by decide +kernel
theorem dX4_addCourier_40 : decode cX4_addCourier 40 = .ok (.iload_n 1, 1) := by decide +kernel
theorem dX4_addCourier_41 : decode cX4_addCourier 41 = .ok (.invokevirtual 89, 3) := by decide +kernel
theorem dX4_addCourier_44 : decode cX4_addCourier 44 = .ok (.ireturn, 1) := by decide +kernel
theorem dX4_addCourier_45 : decode cX4_addCourier 45 = .ok (.aload_n 3, 1) := by decide +kernel
theorem dX4_addCourier_46 : decode cX4_addCourier 46 = .ok (.getfield 106, 3) := by decide +kernel
theorem dX4_addCourier_49 : decode cX4_addCourier 49 = .ok (.iconst 2, 1) := by decide +kernel
theorem dX4_addCourier_50 : decode cX4_addCourier 50 = .ok (.if_icmp .lt 10, 3) := by decide +kernel
theorem dX4_addCourier_53 : decode cX4_addCourier 53 = .ok (.aload_n 0, 1) := by decide +kernel
theorem dX4_addCourier_54 : decode cX4_addCourier 54 = .ok (.iconst 1, 1) := by decide +kernel
theorem dX4_addCourier_55 : decode cX4_addCourier 55 = .ok (.iconst 2, 1) := by decide +kernel
theorem dX4_addCourier_56 : decode cX4_addCourier 56 = .ok (.invokevirtual 89, 3) := by decide +kernel
theorem dX4_addCourier_59 : decode cX4_addCourier 59 = .ok (.ireturn, 1) := by decide +kernel
theorem dX4_addCourier_60 : decode cX4_addCourier 60 = .ok (.aload_n 3, 1) := by decide +kernel
theorem dX4_addCourier_61 : decode cX4_addCourier 61 = .ok (.dup, 1) := by decide +kernel
theorem dX4_addCourier_62 : decode cX4_addCourier 62 = .ok (.getfield 106, 3) := by decide +kernel
theorem dX4_addCourier_65 : decode cX4_addCourier 65 = .ok (.iconst 1, 1) := by decide +kernel
theorem dX4_addCourier_66 : decode cX4_addCourier 66 = .ok (.iadd, 1) := by decide +kernel
theorem dX4_addCourier_67 : decode cX4_addCourier 67 = .ok (.putfield 106, 3) := by decide +kernel
theorem dX4_addCourier_70 : decode cX4_addCourier 70 = .ok (.aload_n 3, 1) := by decide +kernel
theorem dX4_addCourier_71 : decode cX4_addCourier 71 = .ok (.dup, 1) := by decide +kernel
theorem dX4_addCourier_72 : decode cX4_addCourier 72 = .ok (.getfield 109, 3) := by decide +kernel
theorem dX4_addCourier_75 : decode cX4_addCourier 75 = .ok (.iload_n 2, 1) := by decide +kernel
theorem dX4_addCourier_76 : decode cX4_addCourier 76 = .ok (.iadd, 1) := by decide +kernel
theorem dX4_addCourier_77 : decode cX4_addCourier 77 = .ok (.putfield 109, 3) := by decide +kernel
theorem dX4_addCourier_80 : decode cX4_addCourier 80 = .ok (.aload_n 3, 1) := by decide +kernel
theorem dX4_addCourier_81 : decode cX4_addCourier 81 = .ok (.getfield 106, 3) := by decide +kernel
theorem dX4_addCourier_84 : decode cX4_addCourier 84 = .ok (.ireturn, 1) := by decide +kernel
theorem dX4_addLetter_0 : decode cX4_addLetter 0 = .ok (.iload_n 1, 1) := by decide +kernel
theorem dX4_addLetter_1 : decode cX4_addLetter 1 = .ok (.iconst 1, 1) := by decide +kernel
theorem dX4_addLetter_2 : decode cX4_addLetter 2 = .ok (.bipush 9, 2) := by decide +kernel
theorem dX4_addLetter_4 : decode cX4_addLetter 4 = .ok (.invokestatic 80, 3) := by decide +kernel
theorem dX4_addLetter_7 : decode cX4_addLetter 7 = .ok (.ifCond .eq 12, 3) := by decide +kernel
theorem dX4_addLetter_10 : decode cX4_addLetter 10 = .ok (.iload_n 2, 1) := by decide +kernel
theorem dX4_addLetter_11 : decode cX4_addLetter 11 = .ok (.iconst 0, 1) := by decide +kernel
theorem dX4_addLetter_12 : decode cX4_addLetter 12 = .ok (.iconst 2, 1) := by decide +kernel
theorem dX4_addLetter_13 : decode cX4_addLetter 13 = .ok (.invokestatic 80, 3) := by decide +kernel
theorem dX4_addLetter_16 : decode cX4_addLetter 16 = .ok (.ifCond .ne 6, 3) := by decide +kernel
theorem dX4_addLetter_19 : decode cX4_addLetter 19 = .ok (.bipush (-102), 2) := by decide +kernel
theorem dX4_addLetter_21 : decode cX4_addLetter 21 = .ok (.ireturn, 1) := by decide +kernel
theorem dX4_addLetter_22 : decode cX4_addLetter 22 = .ok (.aload_n 0, 1) := by decide +kernel
theorem dX4_addLetter_23 : decode cX4_addLetter 23 = .ok (.getfield 49, 3) := by decide +kernel
theorem dX4_addLetter_26 : decode cX4_addLetter 26 = .ok (.bipush 24, 2) := by decide +kernel
theorem dX4_addLetter_28 : decode cX4_addLetter 28 = .ok (.if_icmp .lt 11, 3) := by decide +kernel
theorem dX4_addLetter_31 : decode cX4_addLetter 31 = .ok (.aload_n 0, 1) := by decide +kernel
theorem dX4_addLetter_32 : decode cX4_addLetter 32 = .ok (.iconst 1, 1) := by decide +kernel
theorem dX4_addLetter_33 : decode cX4_addLetter 33 = .ok (.bipush 24, 2) := by decide +kernel
theorem dX4_addLetter_35 : decode cX4_addLetter 35 = .ok (.invokevirtual 89, 3) := by decide +kernel
theorem dX4_addLetter_38 : decode cX4_addLetter 38 = .ok (.ireturn, 1) := by decide +kernel
theorem dX4_addLetter_39 : decode cX4_addLetter 39 = .ok (.aload_n 0, 1) := by decide +kernel
theorem dX4_addLetter_40 : decode cX4_addLetter 40 = .ok (.getfield 26, 3) := by decide +kernel
theorem dX4_addLetter_43 : decode cX4_addLetter 43 = .ok (.aload_n 0, 1) := by decide +kernel
theorem dX4_addLetter_44 : decode cX4_addLetter 44 = .ok (.getfield 49, 3) := by decide +kernel
theorem dX4_addLetter_47 : decode cX4_addLetter 47 = .ok (.aaload, 1) := by decide +kernel
theorem dX4_addLetter_48 : decode cX4_addLetter 48 = .ok (.astore_n 3, 1) := by decide +kernel
theorem dX4_addLetter_49 : decode cX4_addLetter 49 = .ok (.aload_n 3, 1) := by decide +kernel
theorem dX4_addLetter_50 : decode cX4_addLetter 50 = .ok (.iload_n 1, 1) := by decide +kernel
theorem dX4_addLetter_51 : decode cX4_addLetter 51 = .ok (.putfield 112, 3) := by decide +kernel
theorem dX4_addLetter_54 : decode cX4_addLetter 54 = .ok (.aload_n 3, 1) := by decide +kernel
theorem dX4_addLetter_55 : decode cX4_addLetter 55 = .ok (.iload_n 2, 1) := by decide +kernel
theorem dX4_addLetter_56 : decode cX4_addLetter 56 = .ok (.putfield 115, 3) := by decide +kernel
theorem dX4_addLetter_59 : decode cX4_addLetter 59 = .ok (.aload_n 0, 1) := by decide +kernel
theorem dX4_addLetter_60 : decode cX4_addLetter 60 = .ok (.dup, 1) := by decide +kernel
theorem dX4_addLetter_61 : decode cX4_addLetter 61 = .ok (.getfield 49, 3) := by decide +kernel
theorem dX4_addLetter_64 : decode cX4_addLetter 64 = .ok (.iconst 1, 1) := by decide +kernel
theorem dX4_addLetter_65 : decode cX4_addLetter 65 = .ok (.iadd, 1) := by decide +kernel
theorem dX4_addLetter_66 : decode cX4_addLetter 66 = .ok (.putfield 49, 3) := by decide +kernel
theorem dX4_addLetter_69 : decode cX4_addLetter 69 = .ok (.aload_n 0, 1) := by decide +kernel
theorem dX4_addLetter_70 : decode cX4_addLetter 70 = .ok (.getfield 49, 3) := by decide +kernel
theorem dX4_addLetter_73 : decode cX4_addLetter 73 = .ok (.iconst 1, 1) := by decide +kernel
theorem dX4_addLetter_74 : decode cX4_addLetter 74 = .ok (.isub, 1) := by decide +kernel
theorem dX4_addLetter_75 : decode cX4_addLetter 75 = .ok (.ireturn, 1) := by decide +kernel
theorem dX4_loadLetter_0 : decode cX4_loadLetter 0 = .ok (.aload_n 0, 1) := by decide +kernel
theorem dX4_loadLetter_1 : decode cX4_loadLetter 1 = .ok (.iload_n 1, 1) := by decide +kernel
theorem dX4_loadLetter_2 : decode cX4_loadLetter 2 = .ok (.invokevirtual 118, 3) := by decide +kernel
theorem dX4_loadLetter_5 : decode cX4_loadLetter 5 = .ok (.ifCond .eq 11, 3) := by decide +kernel
theorem dX4_loadLetter_8 : decode cX4_loadLetter 8 = .ok (.aload_n 0, 1) := by decide +kernel
theorem dX4_loadLetter_9 : decode cX4_loadLetter 9 = .ok (.iload_n 2, 1) := by decide +kernel
theorem dX4_loadLetter_10 : decode cX4_loadLetter 10 = .ok (.invokevirtual 95, 3) := by decide +kernel
theorem dX4_loadLetter_13 : decode cX4_loadLetter 13 = .ok (.ifCond .ne 6, 3) := by decide +kernel
theorem dX4_loadLetter_16 : decode cX4_loadLetter 16 = .ok (.bipush (-101), 2) := by decide +kernel
theorem dX4_loadLetter_18 : decode cX4_loadLetter 18 = .ok (.ireturn, 1) := by decide +kernel
theorem dX4_loadLetter_19 : decode cX4_loadLetter 19 = .ok (.aload_n 0, 1) := by decide +kernel
theorem dX4_loadLetter_20 : decode cX4_loadLetter 20 = .ok (.getfield 26, 3) := by decide +kernel
theorem dX4_loadLetter_23 : decode cX4_loadLetter 23 = .ok (.iload_n 1, 1) := by decide +kernel
theorem dX4_loadLetter_24 : decode cX4_loadLetter 24 = .ok (.aaload, 1) := by decide +kernel
theorem dX4_loadLetter_25 : decode cX4_loadLetter 25 = .ok (.getfield 121, 3) := by decide +kernel
theorem dX4_loadLetter_28 : decode cX4_loadLetter 28 = .ok (.iconst (-1), 1) := by decide +kernel
theorem dX4_loadLetter_29 : decode cX4_loadLetter 29 = .ok (.if_icmp .eq 11, 3) := by decide +kernel
theorem dX4_loadLetter_32 : decode cX4_loadLetter 32 = .ok (.aload_n 0, 1) := by decide +kernel
theorem dX4_loadLetter_33 : decode cX4_loadLetter 33 = .ok (.bipush 8, 2) := by decide +kernel
theorem dX4_loadLetter_35 : decode cX4_loadLetter 35 = .ok (.iload_n 1, 1) := by decide +kernel
theorem dX4_loadLetter_36 : decode cX4_loadLetter 36 = .ok (.invokevirtual 89, 3) := by decide +kernel
theorem dX4_loadLetter_39 : decode cX4_loadLetter 39 = .ok (.ireturn, 1) := by decide +kernel
theorem dX4_loadLetter_40 : decode cX4_loadLetter 40 = .ok (.aload_n 0, 1) := by decide +kernel
theorem dX4_loadLetter_41 : decode cX4_loadLetter 41 = .ok (.getfield 20, 3) := by decide +kernel
theorem dX4_loadLetter_44 : decode cX4_loadLetter 44 = .ok (.iload_n 2, 1) := by decide +kernel
theorem dX4_loadLetter_45 : decode cX4_loadLetter 45 = .ok (.aaload, 1) := by decide +kernel
theorem dX4_loadLetter_46 : decode cX4_loadLetter 46 = .ok (.getfield 99, 3) := by decide +kernel
theorem dX4_loadLetter_49 : decode cX4_loadLetter 49 = .ok (.ifCond .eq 10, 3) := by decide +kernel
theorem dX4_loadLetter_52 : decode cX4_loadLetter 52 = .ok (.aload_n 0, 1) := by decide +kernel
theorem dX4_loadLetter_53 : decode cX4_loadLetter 53 = .ok (.iconst 2, 1) := by decide +kernel
theorem dX4_loadLetter_54 : decode cX4_loadLetter 54 = .ok (.iload_n 2, 1) := by decide +kernel
theorem dX4_loadLetter_55 : decode cX4_loadLetter 55 = .ok (.invokevirtual 89, 3) := by decide +kernel
theorem dX4_loadLetter_58 : decode cX4_loadLetter 58 = .ok (.ireturn, 1) := by decide +kernel
theorem dX4_loadLetter_59 : decode cX4_loadLetter 59 = .ok (.aload_n 0, 1) := by decide +kernel
theorem dX4_loadLetter_60 : decode cX4_loadLetter 60 = .ok (.iload_n 1, 1) := by decide +kernel
theorem dX4_loadLetter_61 : decode cX4_loadLetter 61 = .ok (.iload_n 2, 1) := by decide +kernel
theorem dX4_loadLetter_62 : decode cX4_loadLetter 62 = .ok (.invokevirtual 124, 3) := by decide +kernel
theorem dX4_loadLetter_65 : decode cX4_loadLetter 65 = .ok (.aload_n 0, 1) := by decide +kernel
theorem dX4_loadLetter_66 : decode cX4_loadLetter 66 = .ok (.getfield 20, 3) := by decide +kernel
theorem dX4_loadLetter_69 : decode cX4_loadLetter 69 = .ok (.iload_n 2, 1) := by decide +kernel
theorem dX4_loadLetter_70 : decode cX4_loadLetter 70 = .ok (.aaload, 1) := by decide +kernel
theorem dX4_loadLetter_71 : decode cX4_loadLetter 71 = .ok (.invokevirtual 128, 3) := by decide +kernel
theorem dX4_loadLetter_74 : decode cX4_loadLetter 74 = .ok (.ireturn, 1) := by decide +kernel
theorem dX4_loadWaiting_0 : decode cX4_loadWaiting 0 = .ok (.aload_n 0, 1) := by decide +kernel
theorem dX4_loadWaiting_1 : decode cX4_loadWaiting 1 = .ok (.iload_n 1, 1) := by decide +kernel
theorem dX4_loadWaiting_2 : decode cX4_loadWaiting 2 = .ok (.invokevirtual 95, 3) := by decide +kernel
theorem dX4_loadWaiting_5 : decode cX4_loadWaiting 5 = .ok (.ifCond .ne 6, 3) := by decide +kernel
theorem dX4_loadWaiting_8 : decode cX4_loadWaiting 8 = .ok (.bipush (-101), 2) := by decide +kernel
theorem dX4_loadWaiting_10 : decode cX4_loadWaiting 10 = .ok (.ireturn, 1) := by decide +kernel
theorem dX4_loadWaiting_11 : decode cX4_loadWaiting 11 = .ok (.aload_n 0, 1) := by decide +kernel
theorem dX4_loadWaiting_12 : decode cX4_loadWaiting 12 = .ok (.getfield 20, 3) := by decide +kernel
theorem dX4_loadWaiting_15 : decode cX4_loadWaiting 15 = .ok (.iload_n 1, 1) := by decide +kernel
theorem dX4_loadWaiting_16 : decode cX4_loadWaiting 16 = .ok (.aaload, 1) := by decide +kernel
theorem dX4_loadWaiting_17 : decode cX4_loadWaiting 17 = .ok (.astore_n 2, 1) := by decide +kernel
theorem dX4_loadWaiting_18 : decode cX4_loadWaiting 18 = .ok (.aload_n 2, 1) := by decide +kernel
theorem dX4_loadWaiting_19 : decode cX4_loadWaiting 19 = .ok (.getfield 99, 3) := by decide +kernel
theorem dX4_loadWaiting_22 : decode cX4_loadWaiting 22 = .ok (.ifCond .eq 10, 3) := by decide +kernel
theorem dX4_loadWaiting_25 : decode cX4_loadWaiting 25 = .ok (.aload_n 0, 1) := by decide +kernel
theorem dX4_loadWaiting_26 : decode cX4_loadWaiting 26 = .ok (.iconst 2, 1) := by decide +kernel
theorem dX4_loadWaiting_27 : decode cX4_loadWaiting 27 = .ok (.iload_n 1, 1) := by decide +kernel
theorem dX4_loadWaiting_28 : decode cX4_loadWaiting 28 = .ok (.invokevirtual 89, 3) := by decide +kernel
theorem dX4_loadWaiting_31 : decode cX4_loadWaiting 31 = .ok (.ireturn, 1) := by decide +kernel
theorem dX4_loadWaiting_32 : decode cX4_loadWaiting 32 = .ok (.iconst 0, 1) := by decide +kernel
theorem dX4_loadWaiting_33 : decode cX4_loadWaiting 33 = .ok (.istore_n 3, 1) := by decide +kernel
theorem dX4_loadWaiting_34 : decode cX4_loadWaiting 34 = .ok (.iconst 2, 1) := by decide +kernel
theorem dX4_loadWaiting_35 : decode cX4_loadWaiting 35 = .ok (.istore 4, 2) := by decide +kernel
theorem dX4_loadWaiting_37 : decode cX4_loadWaiting 37 = .ok (.iload 4, 2) := by decide +kernel
theorem dX4_loadWaiting_39 : decode cX4_loadWaiting 39 = .ok (.ifCond .lt 69, 3) := by decide +kernel
theorem dX4_loadWaiting_42 : decode cX4_loadWaiting 42 = .ok (.iconst 0, 1) := by decide +kernel
theorem dX4_loadWaiting_43 : decode cX4_loadWaiting 43 = .ok (.istore 5, 2) := by decide +kernel
theorem dX4_loadWaiting_45 : decode cX4_loadWaiting 45 = .ok (.iload 5, 2) := by decide +kernel
theorem dX4_loadWaiting_47 : decode cX4_loadWaiting 47 = .ok (.aload_n 0, 1) := by decide +kernel
theorem dX4_loadWaiting_48 : decode cX4_loadWaiting 48 = .ok (.getfield 49, 3) := by decide +kernel
theorem dX4_loadWaiting_51 : decode cX4_loadWaiting 51 = .ok (.if_icmp .ge 51, 3) := by decide +kernel
theorem dX4_loadWaiting_54 : decode cX4_loadWaiting 54 = .ok (.aload_n 0, 1) := by decide +kernel
theorem dX4_loadWaiting_55 : decode cX4_loadWaiting 55 = .ok (.iload 5, 2) := by decide +kernel
theorem dX4_loadWaiting_57 : decode cX4_loadWaiting 57 = .ok (.iload 4, 2) := by decide +kernel
theorem dX4_loadWaiting_59 : decode cX4_loadWaiting 59 = .ok (.invokevirtual 132, 3) := by decide +kernel
theorem dX4_loadWaiting_62 : decode cX4_loadWaiting 62 = .ok (.ifCond .eq 34, 3) := by decide +kernel
theorem dX4_loadWaiting_65 : decode cX4_loadWaiting 65 = .ok (.aload_n 2, 1) := by decide +kernel
theorem dX4_loadWaiting_66 : decode cX4_loadWaiting 66 = .ok (.getfield 102, 3) := by decide +kernel
theorem dX4_loadWaiting_69 : decode cX4_loadWaiting 69 = .ok (.aload_n 2, 1) := by decide +kernel
theorem dX4_loadWaiting_70 : decode cX4_loadWaiting 70 = .ok (.aload_n 0, 1) := by decide +kernel
theorem dX4_loadWaiting_71 : decode cX4_loadWaiting 71 = .ok (.getfield 26, 3) := by decide +kernel
theorem dX4_loadWaiting_74 : decode cX4_loadWaiting 74 = .ok (.iload 5, 2) := by decide +kernel
theorem dX4_loadWaiting_76 : decode cX4_loadWaiting 76 = .ok (.aaload, 1) := by decide +kernel
theorem dX4_loadWaiting_77 : decode cX4_loadWaiting 77 = .ok (.getfield 112, 3) := by decide +kernel
theorem dX4_loadWaiting_80 : decode cX4_loadWaiting 80 = .ok (.invokevirtual 136, 3) := by decide +kernel
theorem dX4_loadWaiting_83 : decode cX4_loadWaiting 83 = .ok (.if_icmp .lt 13, 3) := by decide +kernel
theorem dX4_loadWaiting_86 : decode cX4_loadWaiting 86 = .ok (.aload_n 0, 1) := by decide +kernel
theorem dX4_loadWaiting_87 : decode cX4_loadWaiting 87 = .ok (.iload 5, 2) := by decide +kernel
theorem dX4_loadWaiting_89 : decode cX4_loadWaiting 89 = .ok (.iload_n 1, 1) := by decide +kernel
theorem dX4_loadWaiting_90 : decode cX4_loadWaiting 90 = .ok (.invokevirtual 124, 3) := by decide +kernel
theorem dX4_loadWaiting_93 : decode cX4_loadWaiting 93 = .ok (.iinc 3 1, 3) := by decide +kernel
theorem dX4_loadWaiting_96 : decode cX4_loadWaiting 96 = .ok (.iinc 5 1, 3) := by decide +kernel
theorem dX4_loadWaiting_99 : decode cX4_loadWaiting 99 = .ok (.goto (-54), 3) := by decide +kernel
theorem dX4_loadWaiting_102 : decode cX4_loadWaiting 102 = .ok (.iinc 4 (-1), 3) := by decide +kernel
theorem dX4_loadWaiting_105 : decode cX4_loadWaiting 105 = .ok (.goto (-68), 3) := by decide +kernel
theorem dX4_loadWaiting_108 : decode cX4_loadWaiting 108 = .ok (.iload_n 3, 1) := by decide +kernel
theorem dX4_loadWaiting_109 : decode cX4_loadWaiting 109 = .ok (.ireturn, 1) := by decide +kernel
theorem dX4_isWaiting_0 : decode cX4_isWaiting 0 = .ok (.aload_n 0, 1) := by decide +kernel
theorem dX4_isWaiting_1 : decode cX4_isWaiting 1 = .ok (.getfield 26, 3) := by decide +kernel
theorem dX4_isWaiting_4 : decode cX4_isWaiting 4 = .ok (.iload_n 1, 1) := by decide +kernel
theorem dX4_isWaiting_5 : decode cX4_isWaiting 5 = .ok (.aaload, 1) := by decide +kernel
theorem dX4_isWaiting_6 : decode cX4_isWaiting 6 = .ok (.getfield 121, 3) := by decide +kernel
theorem dX4_isWaiting_9 : decode cX4_isWaiting 9 = .ok (.iconst (-1), 1) := by decide +kernel
theorem dX4_isWaiting_10 : decode cX4_isWaiting 10 = .ok (.if_icmp .ne 20, 3) := by decide +kernel
theorem dX4_isWaiting_13 : decode cX4_isWaiting 13 = .ok (.aload_n 0, 1) := by decide +kernel
theorem dX4_isWaiting_14 : decode cX4_isWaiting 14 = .ok (.getfield 26, 3) := by decide +kernel
theorem dX4_isWaiting_17 : decode cX4_isWaiting 17 = .ok (.iload_n 1, 1) := by decide +kernel
theorem dX4_isWaiting_18 : decode cX4_isWaiting 18 = .ok (.aaload, 1) := by decide +kernel
theorem dX4_isWaiting_19 : decode cX4_isWaiting 19 = .ok (.getfield 115, 3) := by decide +kernel
theorem dX4_isWaiting_22 : decode cX4_isWaiting 22 = .ok (.iload_n 2, 1) := by decide +kernel
theorem dX4_isWaiting_23 : decode cX4_isWaiting 23 = .ok (.if_icmp .ne 7, 3) := by decide +kernel
theorem dX4_isWaiting_26 : decode cX4_isWaiting 26 = .ok (.iconst 1, 1) := by decide +kernel
theorem dX4_isWaiting_27 : decode cX4_isWaiting 27 = .ok (.goto 4, 3) := by decide +kernel
theorem dX4_isWaiting_30 : decode cX4_isWaiting 30 = .ok (.iconst 0, 1) := by decide +kernel
theorem dX4_isWaiting_31 : decode cX4_isWaiting 31 = .ok (.ireturn, 1) := by decide +kernel
theorem dX4_putInto_0 : decode cX4_putInto 0 = .ok (.aload_n 0, 1) := by decide +kernel
theorem dX4_putInto_1 : decode cX4_putInto 1 = .ok (.getfield 26, 3) := by decide +kernel
theorem dX4_putInto_4 : decode cX4_putInto 4 = .ok (.iload_n 1, 1) := by decide +kernel
theorem dX4_putInto_5 : decode cX4_putInto 5 = .ok (.aaload, 1) := by decide +kernel
theorem dX4_putInto_6 : decode cX4_putInto 6 = .ok (.iload_n 2, 1) := by decide +kernel
theorem dX4_putInto_7 : decode cX4_putInto 7 = .ok (.putfield 121, 3) := by decide +kernel
theorem dX4_putInto_10 : decode cX4_putInto 10 = .ok (.aload_n 0, 1) := by decide +kernel
theorem dX4_putInto_11 : decode cX4_putInto 11 = .ok (.getfield 20, 3) := by decide +kernel
theorem dX4_putInto_14 : decode cX4_putInto 14 = .ok (.iload_n 2, 1) := by decide +kernel
theorem dX4_putInto_15 : decode cX4_putInto 15 = .ok (.aaload, 1) := by decide +kernel
theorem dX4_putInto_16 : decode cX4_putInto 16 = .ok (.dup, 1) := by decide +kernel
theorem dX4_putInto_17 : decode cX4_putInto 17 = .ok (.getfield 140, 3) := by decide +kernel
theorem dX4_putInto_20 : decode cX4_putInto 20 = .ok (.iconst 1, 1) := by decide +kernel
theorem dX4_putInto_21 : decode cX4_putInto 21 = .ok (.iadd, 1) := by decide +kernel
theorem dX4_putInto_22 : decode cX4_putInto 22 = .ok (.putfield 140, 3) := by decide +kernel
theorem dX4_putInto_25 : decode cX4_putInto 25 = .ok (.aload_n 0, 1) := by decide +kernel
theorem dX4_putInto_26 : decode cX4_putInto 26 = .ok (.getfield 20, 3) := by decide +kernel
theorem dX4_putInto_29 : decode cX4_putInto 29 = .ok (.iload_n 2, 1) := by decide +kernel
theorem dX4_putInto_30 : decode cX4_putInto 30 = .ok (.aaload, 1) := by decide +kernel
theorem dX4_putInto_31 : decode cX4_putInto 31 = .ok (.dup, 1) := by decide +kernel
theorem dX4_putInto_32 : decode cX4_putInto 32 = .ok (.getfield 142, 3) := by decide +kernel
theorem dX4_putInto_35 : decode cX4_putInto 35 = .ok (.aload_n 0, 1) := by decide +kernel
theorem dX4_putInto_36 : decode cX4_putInto 36 = .ok (.getfield 26, 3) := by decide +kernel
theorem dX4_putInto_39 : decode cX4_putInto 39 = .ok (.iload_n 1, 1) := by decide +kernel
theorem dX4_putInto_40 : decode cX4_putInto 40 = .ok (.aaload, 1) := by decide +kernel
theorem dX4_putInto_41 : decode cX4_putInto 41 = .ok (.getfield 112, 3) := by decide +kernel
theorem dX4_putInto_44 : decode cX4_putInto 44 = .ok (.iadd, 1) := by decide +kernel
theorem dX4_putInto_45 : decode cX4_putInto 45 = .ok (.putfield 142, 3) := by decide +kernel
theorem dX4_putInto_48 : decode cX4_putInto 48 = .ok (.return_, 1) := by decide +kernel
theorem dX4_launchBalloon_0 : decode cX4_launchBalloon 0 = .ok (.aload_n 0, 1) := by decide +kernel
theorem dX4_launchBalloon_1 : decode cX4_launchBalloon 1 = .ok (.iload_n 1, 1) := by decide +kernel
theorem dX4_launchBalloon_2 : decode cX4_launchBalloon 2 = .ok (.invokevirtual 95, 3) := by decide +kernel
theorem dX4_launchBalloon_5 : decode cX4_launchBalloon 5 = .ok (.ifCond .ne 6, 3) := by decide +kernel
theorem dX4_launchBalloon_8 : decode cX4_launchBalloon 8 = .ok (.bipush (-101), 2) := by decide +kernel
theorem dX4_launchBalloon_10 : decode cX4_launchBalloon 10 = .ok (.ireturn, 1) := by decide +kernel
theorem dX4_launchBalloon_11 : decode cX4_launchBalloon 11 = .ok (.aload_n 0, 1) := by decide +kernel
theorem dX4_launchBalloon_12 : decode cX4_launchBalloon 12 = .ok (.getfield 20, 3) := by decide +kernel
theorem dX4_launchBalloon_15 : decode cX4_launchBalloon 15 = .ok (.iload_n 1, 1) := by decide +kernel
theorem dX4_launchBalloon_16 : decode cX4_launchBalloon 16 = .ok (.aaload, 1) := by decide +kernel
theorem dX4_launchBalloon_17 : decode cX4_launchBalloon 17 = .ok (.astore_n 2, 1) := by decide +kernel
theorem dX4_launchBalloon_18 : decode cX4_launchBalloon 18 = .ok (.aload_n 2, 1) := by decide +kernel
theorem dX4_launchBalloon_19 : decode cX4_launchBalloon 19 = .ok (.getfield 99, 3) := by decide +kernel
theorem dX4_launchBalloon_22 : decode cX4_launchBalloon 22 = .ok (.ifCond .eq 10, 3) := by decide +kernel
theorem dX4_launchBalloon_25 : decode cX4_launchBalloon 25 = .ok (.aload_n 0, 1) := by decide +kernel
theorem dX4_launchBalloon_26 : decode cX4_launchBalloon 26 = .ok (.iconst 2, 1) := by decide +kernel
theorem dX4_launchBalloon_27 : decode cX4_launchBalloon 27 = .ok (.iload_n 1, 1) := by decide +kernel
theorem dX4_launchBalloon_28 : decode cX4_launchBalloon 28 = .ok (.invokevirtual 89, 3) := by decide +kernel
theorem dX4_launchBalloon_31 : decode cX4_launchBalloon 31 = .ok (.ireturn, 1) := by decide +kernel
theorem dX4_launchBalloon_32 : decode cX4_launchBalloon 32 = .ok (.aload_n 2, 1) := by decide +kernel
theorem dX4_launchBalloon_33 : decode cX4_launchBalloon 33 = .ok (.invokevirtual 143, 3) := by decide +kernel
theorem dX4_launchBalloon_36 : decode cX4_launchBalloon 36 = .ok (.ifCond .ge 15, 3) := by decide +kernel
theorem dX4_launchBalloon_39 : decode cX4_launchBalloon 39 = .ok (.aload_n 0, 1) := by decide +kernel
theorem dX4_launchBalloon_40 : decode cX4_launchBalloon 40 = .ok (.bipush 9, 2) := by decide +kernel
theorem dX4_launchBalloon_42 : decode cX4_launchBalloon 42 = .ok (.aload_n 2, 1) := by decide +kernel
theorem dX4_launchBalloon_43 : decode cX4_launchBalloon 43 = .ok (.invokevirtual 143, 3) := by decide +kernel
theorem dX4_launchBalloon_46 : decode cX4_launchBalloon 46 = .ok (.ineg, 1) := by decide +kernel
theorem dX4_launchBalloon_47 : decode cX4_launchBalloon 47 = .ok (.invokevirtual 89, 3) := by decide +kernel
theorem dX4_launchBalloon_50 : decode cX4_launchBalloon 50 = .ok (.ireturn, 1) := by decide +kernel
theorem dX4_launchBalloon_51 : decode cX4_launchBalloon 51 = .ok (.aload_n 2, 1) := by decide +kernel
theorem dX4_launchBalloon_52 : decode cX4_launchBalloon 52 = .ok (.iconst 1, 1) := by decide +kernel
theorem dX4_launchBalloon_53 : decode cX4_launchBalloon 53 = .ok (.putfield 99, 3) := by decide +kernel
theorem dX4_launchBalloon_56 : decode cX4_launchBalloon 56 = .ok (.aload_n 2, 1) := by decide +kernel
theorem dX4_launchBalloon_57 : decode cX4_launchBalloon 57 = .ok (.invokevirtual 143, 3) := by decide +kernel
theorem dX4_launchBalloon_60 : decode cX4_launchBalloon 60 = .ok (.ireturn, 1) := by decide +kernel
theorem dX4_letBallastGo_0 : decode cX4_letBallastGo 0 = .ok (.aload_n 0, 1) := by decide +kernel
theorem dX4_letBallastGo_1 : decode cX4_letBallastGo 1 = .ok (.iload_n 1, 1) := by decide +kernel
theorem dX4_letBallastGo_2 : decode cX4_letBallastGo 2 = .ok (.invokevirtual 95, 3) := by decide +kernel
theorem dX4_letBallastGo_5 : decode cX4_letBallastGo 5 = .ok (.ifCond .ne 6, 3) := by decide +kernel
theorem dX4_letBallastGo_8 : decode cX4_letBallastGo 8 = .ok (.bipush (-101), 2) := by decide +kernel
theorem dX4_letBallastGo_10 : decode cX4_letBallastGo 10 = .ok (.ireturn, 1) := by decide +kernel
theorem dX4_letBallastGo_11 : decode cX4_letBallastGo 11 = .ok (.iload_n 2, 1) := by decide +kernel
theorem dX4_letBallastGo_12 : decode cX4_letBallastGo 12 = .ok (.iconst 1, 1) := by decide +kernel
theorem dX4_letBallastGo_13 : decode cX4_letBallastGo 13 = .ok (.bipush 50, 2) := by decide +kernel
theorem dX4_letBallastGo_15 : decode cX4_letBallastGo 15 = .ok (.invokestatic 80, 3) := by decide +kernel
theorem dX4_letBallastGo_18 : decode cX4_letBallastGo 18 = .ok (.ifCond .ne 6, 3) := by decide +kernel
theorem dX4_letBallastGo_21 : decode cX4_letBallastGo 21 = .ok (.bipush (-102), 2) := by decide +kernel
theorem dX4_letBallastGo_23 : decode cX4_letBallastGo 23 = .ok (.ireturn, 1) := by decide +kernel
theorem dX4_letBallastGo_24 : decode cX4_letBallastGo 24 = .ok (.aload_n 0, 1) := by decide +kernel
theorem dX4_letBallastGo_25 : decode cX4_letBallastGo 25 = .ok (.getfield 20, 3) := by decide +kernel
theorem dX4_letBallastGo_28 : decode cX4_letBallastGo 28 = .ok (.iload_n 1, 1) := by decide +kernel
theorem dX4_letBallastGo_29 : decode cX4_letBallastGo 29 = .ok (.aaload, 1) := by decide +kernel
theorem dX4_letBallastGo_30 : decode cX4_letBallastGo 30 = .ok (.astore_n 3, 1) := by decide +kernel
theorem dX4_letBallastGo_31 : decode cX4_letBallastGo 31 = .ok (.aload_n 3, 1) := by decide +kernel
theorem dX4_letBallastGo_32 : decode cX4_letBallastGo 32 = .ok (.getfield 99, 3) := by decide +kernel
theorem dX4_letBallastGo_35 : decode cX4_letBallastGo 35 = .ok (.iconst 1, 1) := by decide +kernel
theorem dX4_letBallastGo_36 : decode cX4_letBallastGo 36 = .ok (.if_icmp .eq 10, 3) := by decide +kernel
theorem dX4_letBallastGo_39 : decode cX4_letBallastGo 39 = .ok (.aload_n 0, 1) := by decide +kernel
theorem dX4_letBallastGo_40 : decode cX4_letBallastGo 40 = .ok (.iconst 3, 1) := by decide +kernel
theorem dX4_letBallastGo_41 : decode cX4_letBallastGo 41 = .ok (.iload_n 1, 1) := by decide +kernel
theorem dX4_letBallastGo_42 : decode cX4_letBallastGo 42 = .ok (.invokevirtual 89, 3) := by decide +kernel
theorem dX4_letBallastGo_45 : decode cX4_letBallastGo 45 = .ok (.ireturn, 1) := by decide +kernel
theorem dX4_letBallastGo_46 : decode cX4_letBallastGo 46 = .ok (.iload_n 2, 1) := by decide +kernel
theorem dX4_letBallastGo_47 : decode cX4_letBallastGo 47 = .ok (.aload_n 3, 1) := by decide +kernel
theorem dX4_letBallastGo_48 : decode cX4_letBallastGo 48 = .ok (.getfield 103, 3) := by decide +kernel
theorem dX4_letBallastGo_51 : decode cX4_letBallastGo 51 = .ok (.if_icmp .le 14, 3) := by decide +kernel
theorem dX4_letBallastGo_54 : decode cX4_letBallastGo 54 = .ok (.aload_n 0, 1) := by decide +kernel
theorem dX4_letBallastGo_55 : decode cX4_letBallastGo 55 = .ok (.bipush 7, 2) := by decide +kernel
theorem dX4_letBallastGo_57 : decode cX4_letBallastGo 57 = .ok (.aload_n 3, 1) := by decide +kernel
theorem dX4_letBallastGo_58 : decode cX4_letBallastGo 58 = .ok (.getfield 103, 3) := by decide +kernel
theorem dX4_letBallastGo_61 : decode cX4_letBallastGo 61 = .ok (.invokevirtual 89, 3) := by decide +kernel
theorem dX4_letBallastGo_64 : decode cX4_letBallastGo 64 = .ok (.ireturn, 1) := by decide +kernel
theorem dX4_letBallastGo_65 : decode cX4_letBallastGo 65 = .ok (.aload_n 3, 1) := by decide +kernel
theorem dX4_letBallastGo_66 : decode cX4_letBallastGo 66 = .ok (.dup, 1) := by decide +kernel
theorem dX4_letBallastGo_67 : decode cX4_letBallastGo 67 = .ok (.getfield 103, 3) := by decide +kernel
theorem dX4_letBallastGo_70 : decode cX4_letBallastGo 70 = .ok (.iload_n 2, 1) := by decide +kernel
theorem dX4_letBallastGo_71 : decode cX4_letBallastGo 71 = .ok (.isub, 1) := by decide +kernel
theorem dX4_letBallastGo_72 : decode cX4_letBallastGo 72 = .ok (.putfield 103, 3) := by decide +kernel
theorem dX4_letBallastGo_75 : decode cX4_letBallastGo 75 = .ok (.aload_n 0, 1) := by decide +kernel
theorem dX4_letBallastGo_76 : decode cX4_letBallastGo 76 = .ok (.dup, 1) := by decide +kernel
theorem dX4_letBallastGo_77 : decode cX4_letBallastGo 77 = .ok (.getfield 58, 3) := by decide +kernel
theorem dX4_letBallastGo_80 : decode cX4_letBallastGo 80 = .ok (.iload_n 2, 1) := by decide +kernel
theorem dX4_letBallastGo_81 : decode cX4_letBallastGo 81 = .ok (.iadd, 1) := by decide +kernel
theorem dX4_letBallastGo_82 : decode cX4_letBallastGo 82 = .ok (.putfield 58, 3) := by decide +kernel
theorem dX4_letBallastGo_85 : decode cX4_letBallastGo 85 = .ok (.aload_n 3, 1) := by decide +kernel
theorem dX4_letBallastGo_86 : decode cX4_letBallastGo 86 = .ok (.getfield 103, 3) := by decide +kernel
theorem dX4_letBallastGo_89 : decode cX4_letBallastGo 89 = .ok (.ireturn, 1) := by decide +kernel
theorem dX4_letHoursGo_0 : decode cX4_letHoursGo 0 = .ok (.iload_n 1, 1) := by decide +kernel
theorem dX4_letHoursGo_1 : decode cX4_letHoursGo 1 = .ok (.iconst 1, 1) := by decide +kernel
theorem dX4_letHoursGo_2 : decode cX4_letHoursGo 2 = .ok (.bipush 48, 2) := by decide +kernel
theorem dX4_letHoursGo_4 : decode cX4_letHoursGo 4 = .ok (.invokestatic 80, 3) := by decide +kernel
theorem dX4_letHoursGo_7 : decode cX4_letHoursGo 7 = .ok (.ifCond .ne 6, 3) := by decide +kernel
theorem dX4_letHoursGo_10 : decode cX4_letHoursGo 10 = .ok (.bipush (-102), 2) := by decide +kernel
theorem dX4_letHoursGo_12 : decode cX4_letHoursGo 12 = .ok (.ireturn, 1) := by decide +kernel
theorem dX4_letHoursGo_13 : decode cX4_letHoursGo 13 = .ok (.iconst 0, 1) := by decide +kernel
theorem dX4_letHoursGo_14 : decode cX4_letHoursGo 14 = .ok (.istore_n 2, 1) := by decide +kernel
theorem dX4_letHoursGo_15 : decode cX4_letHoursGo 15 = .ok (.iconst 0, 1) := by decide +kernel
theorem dX4_letHoursGo_16 : decode cX4_letHoursGo 16 = .ok (.istore_n 3, 1) := by decide +kernel
theorem dX4_letHoursGo_17 : decode cX4_letHoursGo 17 = .ok (.iload_n 3, 1) := by decide +kernel
theorem dX4_letHoursGo_18 : decode cX4_letHoursGo 18 = .ok (.iload_n 1, 1) := by decide +kernel
theorem dX4_letHoursGo_19 : decode cX4_letHoursGo 19 = .ok (.if_icmp .ge 84, 3) := by decide +kernel
theorem dX4_letHoursGo_22 : decode cX4_letHoursGo 22 = .ok (.iconst 0, 1) := by decide +kernel
theorem dX4_letHoursGo_23 : decode cX4_letHoursGo 23 = .ok (.istore 4, 2) := by decide +kernel
theorem dX4_letHoursGo_25 : decode cX4_letHoursGo 25 = .ok (.iload 4, 2) := by decide +kernel
theorem dX4_letHoursGo_27 : decode cX4_letHoursGo 27 = .ok (.aload_n 0, 1) := by decide +kernel
theorem dX4_letHoursGo_28 : decode cX4_letHoursGo 28 = .ok (.getfield 46, 3) := by decide +kernel
theorem dX4_letHoursGo_31 : decode cX4_letHoursGo 31 = .ok (.if_icmp .ge 56, 3) := by decide +kernel
theorem dX4_letHoursGo_34 : decode cX4_letHoursGo 34 = .ok (.aload_n 0, 1) := by decide +kernel
theorem dX4_letHoursGo_35 : decode cX4_letHoursGo 35 = .ok (.getfield 20, 3) := by decide +kernel
theorem dX4_letHoursGo_38 : decode cX4_letHoursGo 38 = .ok (.iload 4, 2) := by decide +kernel
theorem dX4_letHoursGo_40 : decode cX4_letHoursGo 40 = .ok (.aaload, 1) := by decide +kernel
theorem dX4_letHoursGo_41 : decode cX4_letHoursGo 41 = .ok (.getfield 99, 3) := by decide +kernel
theorem dX4_letHoursGo_44 : decode cX4_letHoursGo 44 = .ok (.iconst 1, 1) := by decide +kernel
theorem dX4_letHoursGo_45 : decode cX4_letHoursGo 45 = .ok (.if_icmp .ne 36, 3) := by decide +kernel
theorem dX4_letHoursGo_48 : decode cX4_letHoursGo 48 = .ok (.aload_n 0, 1) := by decide +kernel
theorem dX4_letHoursGo_49 : decode cX4_letHoursGo 49 = .ok (.aload_n 0, 1) := by decide +kernel
theorem dX4_letHoursGo_50 : decode cX4_letHoursGo 50 = .ok (.getfield 20, 3) := by decide +kernel
theorem dX4_letHoursGo_53 : decode cX4_letHoursGo 53 = .ok (.iload 4, 2) := by decide +kernel
theorem dX4_letHoursGo_55 : decode cX4_letHoursGo 55 = .ok (.aaload, 1) := by decide +kernel
theorem dX4_letHoursGo_56 : decode cX4_letHoursGo 56 = .ok (.invokevirtual 146, 3) := by decide +kernel
theorem dX4_letHoursGo_59 : decode cX4_letHoursGo 59 = .ok (.iload_n 2, 1) := by decide +kernel
theorem dX4_letHoursGo_60 : decode cX4_letHoursGo 60 = .ok (.aload_n 0, 1) := by decide +kernel
theorem dX4_letHoursGo_61 : decode cX4_letHoursGo 61 = .ok (.getfield 20, 3) := by decide +kernel
theorem dX4_letHoursGo_64 : decode cX4_letHoursGo 64 = .ok (.iload 4, 2) := by decide +kernel
theorem dX4_letHoursGo_66 : decode cX4_letHoursGo 66 = .ok (.aaload, 1) := by decide +kernel
theorem dX4_letHoursGo_67 : decode cX4_letHoursGo 67 = .ok (.getfield 99, 3) := by decide +kernel
theorem dX4_letHoursGo_70 : decode cX4_letHoursGo 70 = .ok (.iconst 2, 1) := by decide +kernel
theorem dX4_letHoursGo_71 : decode cX4_letHoursGo 71 = .ok (.if_icmp .ne 7, 3) := by decide +kernel
theorem dX4_letHoursGo_74 : decode cX4_letHoursGo 74 = .ok (.iconst 1, 1) := by decide +kernel
theorem dX4_letHoursGo_75 : decode cX4_letHoursGo 75 = .ok (.goto 4, 3) := by decide +kernel
theorem dX4_letHoursGo_78 : decode cX4_letHoursGo 78 = .ok (.iconst 0, 1) := by decide +kernel
theorem dX4_letHoursGo_79 : decode cX4_letHoursGo 79 = .ok (.iadd, 1) := by decide +kernel
