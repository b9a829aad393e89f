theorem dX4_letHoursGo_80 : decode cX4_letHoursGo 80 = .ok (.istore_n 2, 1) := by decide +kernel
theorem dX4_letHoursGo_81 : decode cX4_letHoursGo 81 = .ok (.iinc 4 1, 3) := by decide +kernel
theorem dX4_letHoursGo_84 : decode cX4_letHoursGo 84 = .ok (.goto (-59), 3) := by decide +kernel
theorem dX4_letHoursGo_87 : decode cX4_letHoursGo 87 = .ok (.aload_n 0, 1) := by decide +kernel
theorem dX4_letHoursGo_88 : decode cX4_letHoursGo 88 = .ok (.dup, 1) := by decide +kernel
theorem dX4_letHoursGo_89 : decode cX4_letHoursGo 89 = .ok (.getfield 52, 3) := by decide +kernel
theorem dX4_letHoursGo_92 : decode cX4_letHoursGo 92 = .ok (.iconst 1, 1) := by decide +kernel
theorem dX4_letHoursGo_93 : decode cX4_letHoursGo 93 = .ok (.iadd, 1) := by decide +kernel
theorem dX4_letHoursGo_94 : decode cX4_letHoursGo 94 = .ok (.putfield 52, 3) := by decide +kernel
theorem dX4_letHoursGo_97 : decode cX4_letHoursGo 97 = .ok (.iinc 3 1, 3) := by decide +kernel
theorem dX4_letHoursGo_100 : decode cX4_letHoursGo 100 = .ok (.goto (-83), 3) := by decide +kernel
theorem dX4_letHoursGo_103 : decode cX4_letHoursGo 103 = .ok (.iload_n 2, 1) := by decide +kernel
theorem dX4_letHoursGo_104 : decode cX4_letHoursGo 104 = .ok (.ireturn, 1) := by decide +kernel
theorem dX4_letFly_0 : decode cX4_letFly 0 = .ok (.aload_n 1, 1) := by decide +kernel
theorem dX4_letFly_1 : decode cX4_letFly 1 = .ok (.getfield 102, 3) := by decide +kernel
theorem dX4_letFly_4 : decode cX4_letFly 4 = .ok (.istore_n 2, 1) := by decide +kernel
theorem dX4_letFly_5 : decode cX4_letFly 5 = .ok (.aload_n 1, 1) := by decide +kernel
theorem dX4_letFly_6 : decode cX4_letFly 6 = .ok (.aload_n 0, 1) := by decide +kernel
theorem dX4_letFly_7 : decode cX4_letFly 7 = .ok (.invokevirtual 149, 3) := by decide +kernel
theorem dX4_letFly_10 : decode cX4_letFly 10 = .ok (.aload_n 0, 1) := by decide +kernel
theorem dX4_letFly_11 : decode cX4_letFly 11 = .ok (.dup, 1) := by decide +kernel
theorem dX4_letFly_12 : decode cX4_letFly 12 = .ok (.getfield 67, 3) := by decide +kernel
theorem dX4_letFly_15 : decode cX4_letFly 15 = .ok (.iload_n 2, 1) := by decide +kernel
theorem dX4_letFly_16 : decode cX4_letFly 16 = .ok (.aload_n 1, 1) := by decide +kernel
theorem dX4_letFly_17 : decode cX4_letFly 17 = .ok (.getfield 102, 3) := by decide +kernel
theorem dX4_letFly_20 : decode cX4_letFly 20 = .ok (.isub, 1) := by decide +kernel
theorem dX4_letFly_21 : decode cX4_letFly 21 = .ok (.iadd, 1) := by decide +kernel
theorem dX4_letFly_22 : decode cX4_letFly 22 = .ok (.putfield 67, 3) := by decide +kernel
theorem dX4_letFly_25 : decode cX4_letFly 25 = .ok (.aload_n 1, 1) := by decide +kernel
theorem dX4_letFly_26 : decode cX4_letFly 26 = .ok (.getfield 99, 3) := by decide +kernel
theorem dX4_letFly_29 : decode cX4_letFly 29 = .ok (.iconst 3, 1) := by decide +kernel
theorem dX4_letFly_30 : decode cX4_letFly 30 = .ok (.if_icmp .ne 16, 3) := by decide +kernel
theorem dX4_letFly_33 : decode cX4_letFly 33 = .ok (.aload_n 0, 1) := by decide +kernel
theorem dX4_letFly_34 : decode cX4_letFly 34 = .ok (.dup, 1) := by decide +kernel
theorem dX4_letFly_35 : decode cX4_letFly 35 = .ok (.getfield 64, 3) := by decide +kernel
theorem dX4_letFly_38 : decode cX4_letFly 38 = .ok (.aload_n 1, 1) := by decide +kernel
theorem dX4_letFly_39 : decode cX4_letFly 39 = .ok (.getfield 103, 3) := by decide +kernel
theorem dX4_letFly_42 : decode cX4_letFly 42 = .ok (.iadd, 1) := by decide +kernel
theorem dX4_letFly_43 : decode cX4_letFly 43 = .ok (.putfield 64, 3) := by decide +kernel
theorem dX4_letFly_46 : decode cX4_letFly 46 = .ok (.aload_n 1, 1) := by decide +kernel
theorem dX4_letFly_47 : decode cX4_letFly 47 = .ok (.getfield 99, 3) := by decide +kernel
theorem dX4_letFly_50 : decode cX4_letFly 50 = .ok (.iconst 2, 1) := by decide +kernel
theorem dX4_letFly_51 : decode cX4_letFly 51 = .ok (.if_icmp .ne 33, 3) := by decide +kernel
theorem dX4_letFly_54 : decode cX4_letFly 54 = .ok (.aload_n 0, 1) := by decide +kernel
theorem dX4_letFly_55 : decode cX4_letFly 55 = .ok (.dup, 1) := by decide +kernel
theorem dX4_letFly_56 : decode cX4_letFly 56 = .ok (.getfield 61, 3) := by decide +kernel
theorem dX4_letFly_59 : decode cX4_letFly 59 = .ok (.aload_n 1, 1) := by decide +kernel
theorem dX4_letFly_60 : decode cX4_letFly 60 = .ok (.getfield 103, 3) := by decide +kernel
theorem dX4_letFly_63 : decode cX4_letFly 63 = .ok (.iadd, 1) := by decide +kernel
theorem dX4_letFly_64 : decode cX4_letFly 64 = .ok (.putfield 61, 3) := by decide +kernel
theorem dX4_letFly_67 : decode cX4_letFly 67 = .ok (.aload_n 1, 1) := by decide +kernel
theorem dX4_letFly_68 : decode cX4_letFly 68 = .ok (.aload_n 0, 1) := by decide +kernel
theorem dX4_letFly_69 : decode cX4_letFly 69 = .ok (.getfield 52, 3) := by decide +kernel
theorem dX4_letFly_72 : decode cX4_letFly 72 = .ok (.aload_n 1, 1) := by decide +kernel
theorem dX4_letFly_73 : decode cX4_letFly 73 = .ok (.invokevirtual 153, 3) := by decide +kernel
theorem dX4_letFly_76 : decode cX4_letFly 76 = .ok (.iconst 4, 1) := by decide +kernel
theorem dX4_letFly_77 : decode cX4_letFly 77 = .ok (.iadd, 1) := by decide +kernel
theorem dX4_letFly_78 : decode cX4_letFly 78 = .ok (.iconst 5, 1) := by decide +kernel
theorem dX4_letFly_79 : decode cX4_letFly 79 = .ok (.idiv, 1) := by decide +kernel
theorem dX4_letFly_80 : decode cX4_letFly 80 = .ok (.iadd, 1) := by decide +kernel
theorem dX4_letFly_81 : decode cX4_letFly 81 = .ok (.putfield 156, 3) := by decide +kernel
theorem dX4_letFly_84 : decode cX4_letFly 84 = .ok (.return_, 1) := by decide +kernel
theorem dX4_foretell_0 : decode cX4_foretell 0 = .ok (.aload_n 3, 1) := by decide +kernel
theorem dX4_foretell_1 : decode cX4_foretell 1 = .ok (.aload_n 0, 1) := by decide +kernel
theorem dX4_foretell_2 : decode cX4_foretell 2 = .ok (.getfield 20, 3) := by decide +kernel
theorem dX4_foretell_5 : decode cX4_foretell 5 = .ok (.iload_n 1, 1) := by decide +kernel
theorem dX4_foretell_6 : decode cX4_foretell 6 = .ok (.aaload, 1) := by decide +kernel
theorem dX4_foretell_7 : decode cX4_foretell 7 = .ok (.invokevirtual 39, 3) := by decide +kernel
theorem dX4_foretell_10 : decode cX4_foretell 10 = .ok (.aload_n 3, 1) := by decide +kernel
theorem dX4_foretell_11 : decode cX4_foretell 11 = .ok (.dup, 1) := by decide +kernel
theorem dX4_foretell_12 : decode cX4_foretell 12 = .ok (.getfield 103, 3) := by decide +kernel
theorem dX4_foretell_15 : decode cX4_foretell 15 = .ok (.iload_n 2, 1) := by decide +kernel
theorem dX4_foretell_16 : decode cX4_foretell 16 = .ok (.isub, 1) := by decide +kernel
theorem dX4_foretell_17 : decode cX4_foretell 17 = .ok (.putfield 103, 3) := by decide +kernel
theorem dX4_foretell_20 : decode cX4_foretell 20 = .ok (.iconst 0, 1) := by decide +kernel
theorem dX4_foretell_21 : decode cX4_foretell 21 = .ok (.istore 4, 2) := by decide +kernel
theorem dX4_foretell_23 : decode cX4_foretell 23 = .ok (.iload 4, 2) := by decide +kernel
theorem dX4_foretell_25 : decode cX4_foretell 25 = .ok (.sipush 1000, 3) := by decide +kernel
theorem dX4_foretell_28 : decode cX4_foretell 28 = .ok (.if_icmp .ge 22, 3) := by decide +kernel
theorem dX4_foretell_31 : decode cX4_foretell 31 = .ok (.aload_n 3, 1) := by decide +kernel
theorem dX4_foretell_32 : decode cX4_foretell 32 = .ok (.getfield 99, 3) := by decide +kernel
theorem dX4_foretell_35 : decode cX4_foretell 35 = .ok (.iconst 1, 1) := by decide +kernel
theorem dX4_foretell_36 : decode cX4_foretell 36 = .ok (.if_icmp .ne 14, 3) := by decide +kernel
theorem dX4_foretell_39 : decode cX4_foretell 39 = .ok (.aload_n 3, 1) := by decide +kernel
theorem dX4_foretell_40 : decode cX4_foretell 40 = .ok (.aload_n 0, 1) := by decide +kernel
theorem dX4_foretell_41 : decode cX4_foretell 41 = .ok (.invokevirtual 149, 3) := by decide +kernel
theorem dX4_foretell_44 : decode cX4_foretell 44 = .ok (.iinc 4 1, 3) := by decide +kernel
theorem dX4_foretell_47 : decode cX4_foretell 47 = .ok (.goto (-24), 3) := by decide +kernel
theorem dX4_foretell_50 : decode cX4_foretell 50 = .ok (.return_, 1) := by decide +kernel
theorem dX4_letterState_0 : decode cX4_letterState 0 = .ok (.aload_n 0, 1) := by decide +kernel
theorem dX4_letterState_1 : decode cX4_letterState 1 = .ok (.getfield 26, 3) := by decide +kernel
theorem dX4_letterState_4 : decode cX4_letterState 4 = .ok (.iload_n 1, 1) := by decide +kernel
theorem dX4_letterState_5 : decode cX4_letterState 5 = .ok (.aaload, 1) := by decide +kernel
theorem dX4_letterState_6 : decode cX4_letterState 6 = .ok (.getfield 121, 3) := by decide +kernel
theorem dX4_letterState_9 : decode cX4_letterState 9 = .ok (.istore_n 2, 1) := by decide +kernel
theorem dX4_letterState_10 : decode cX4_letterState 10 = .ok (.aload_n 0, 1) := by decide +kernel
theorem dX4_letterState_11 : decode cX4_letterState 11 = .ok (.iload_n 2, 1) := by decide +kernel
theorem dX4_letterState_12 : decode cX4_letterState 12 = .ok (.invokevirtual 95, 3) := by decide +kernel
theorem dX4_letterState_15 : decode cX4_letterState 15 = .ok (.ifCond .ne 5, 3) := by decide +kernel
theorem dX4_letterState_18 : decode cX4_letterState 18 = .ok (.iconst 0, 1) := by decide +kernel
theorem dX4_letterState_19 : decode cX4_letterState 19 = .ok (.ireturn, 1) := by decide +kernel
theorem dX4_letterState_20 : decode cX4_letterState 20 = .ok (.aload_n 0, 1) := by decide +kernel
theorem dX4_letterState_21 : decode cX4_letterState 21 = .ok (.getfield 20, 3) := by decide +kernel
theorem dX4_letterState_24 : decode cX4_letterState 24 = .ok (.iload_n 2, 1) := by decide +kernel
theorem dX4_letterState_25 : decode cX4_letterState 25 = .ok (.aaload, 1) := by decide +kernel
theorem dX4_letterState_26 : decode cX4_letterState 26 = .ok (.getfield 99, 3) := by decide +kernel
theorem dX4_letterState_29 : decode cX4_letterState 29 = .ok (.lookupswitch 31 #[(2, 27), (3, 29)], 27) := by decide +kernel
theorem dX4_letterState_56 : decode cX4_letterState 56 = .ok (.iconst 2, 1) := by decide +kernel
theorem dX4_letterState_57 : decode cX4_letterState 57 = .ok (.ireturn, 1) := by decide +kernel
theorem dX4_letterState_58 : decode cX4_letterState 58 = .ok (.iconst 3, 1) := by decide +kernel
theorem dX4_letterState_59 : decode cX4_letterState 59 = .ok (.ireturn, 1) := by decide +kernel
theorem dX4_letterState_60 : decode cX4_letterState 60 = .ok (.iconst 1, 1) := by decide +kernel
theorem dX4_letterState_61 : decode cX4_letterState 61 = .ok (.ireturn, 1) := by decide +kernel
theorem dX4_letterNumber_0 : decode cX4_letterNumber 0 = .ok (.iload_n 2, 1) := by decide +kernel
theorem dX4_letterNumber_1 : decode cX4_letterNumber 1 = .ok (.tableswitch 53 0 2 #[27, 37, 47], 27) := by decide +kernel
theorem dX4_letterNumber_28 : decode cX4_letterNumber 28 = .ok (.aload_n 0, 1) := by decide +kernel
theorem dX4_letterNumber_29 : decode cX4_letterNumber 29 = .ok (.getfield 26, 3) := by decide +kernel
theorem dX4_letterNumber_32 : decode cX4_letterNumber 32 = .ok (.iload_n 1, 1) := by decide +kernel
theorem dX4_letterNumber_33 : decode cX4_letterNumber 33 = .ok (.aaload, 1) := by decide +kernel
theorem dX4_letterNumber_34 : decode cX4_letterNumber 34 = .ok (.getfield 112, 3) := by decide +kernel
theorem dX4_letterNumber_37 : decode cX4_letterNumber 37 = .ok (.ireturn, 1) := by decide +kernel
theorem dX4_letterNumber_38 : decode cX4_letterNumber 38 = .ok (.aload_n 0, 1) := by decide +kernel
theorem dX4_letterNumber_39 : decode cX4_letterNumber 39 = .ok (.getfield 26, 3) := by decide +kernel
theorem dX4_letterNumber_42 : decode cX4_letterNumber 42 = .ok (.iload_n 1, 1) := by decide +kernel
theorem dX4_letterNumber_43 : decode cX4_letterNumber 43 = .ok (.aaload, 1) := by decide +kernel
theorem dX4_letterNumber_44 : decode cX4_letterNumber 44 = .ok (.getfield 115, 3) := by decide +kernel
theorem dX4_letterNumber_47 : decode cX4_letterNumber 47 = .ok (.ireturn, 1) := by decide +kernel
theorem dX4_letterNumber_48 : decode cX4_letterNumber 48 = .ok (.aload_n 0, 1) := by decide +kernel
theorem dX4_letterNumber_49 : decode cX4_letterNumber 49 = .ok (.iload_n 1, 1) := by decide +kernel
theorem dX4_letterNumber_50 : decode cX4_letterNumber 50 = .ok (.invokevirtual 159, 3) := by decide +kernel
theorem dX4_letterNumber_53 : decode cX4_letterNumber 53 = .ok (.ireturn, 1) := by decide +kernel
theorem dX4_letterNumber_54 : decode cX4_letterNumber 54 = .ok (.aload_n 0, 1) := by decide +kernel
theorem dX4_letterNumber_55 : decode cX4_letterNumber 55 = .ok (.getfield 26, 3) := by decide +kernel
theorem dX4_letterNumber_58 : decode cX4_letterNumber 58 = .ok (.iload_n 1, 1) := by decide +kernel
theorem dX4_letterNumber_59 : decode cX4_letterNumber 59 = .ok (.aaload, 1) := by decide +kernel
theorem dX4_letterNumber_60 : decode cX4_letterNumber 60 = .ok (.getfield 121, 3) := by decide +kernel
theorem dX4_letterNumber_63 : decode cX4_letterNumber 63 = .ok (.ireturn, 1) := by decide +kernel
theorem dX4_weightByLetters_0 : decode cX4_weightByLetters 0 = .ok (.aload_n 0, 1) := by decide +kernel
theorem dX4_weightByLetters_1 : decode cX4_weightByLetters 1 = .ok (.getfield 20, 3) := by decide +kernel
theorem dX4_weightByLetters_4 : decode cX4_weightByLetters 4 = .ok (.iload_n 1, 1) := by decide +kernel
theorem dX4_weightByLetters_5 : decode cX4_weightByLetters 5 = .ok (.aaload, 1) := by decide +kernel
theorem dX4_weightByLetters_6 : decode cX4_weightByLetters 6 = .ok (.astore_n 2, 1) := by decide +kernel
theorem dX4_weightByLetters_7 : decode cX4_weightByLetters 7 = .ok (.aload_n 2, 1) := by decide +kernel
theorem dX4_weightByLetters_8 : decode cX4_weightByLetters 8 = .ok (.getfield 92, 3) := by decide +kernel
theorem dX4_weightByLetters_11 : decode cX4_weightByLetters 11 = .ok (.bipush 9, 2) := by decide +kernel
theorem dX4_weightByLetters_13 : decode cX4_weightByLetters 13 = .ok (.iadd, 1) := by decide +kernel
theorem dX4_weightByLetters_14 : decode cX4_weightByLetters 14 = .ok (.bipush 10, 2) := by decide +kernel
theorem dX4_weightByLetters_16 : decode cX4_weightByLetters 16 = .ok (.idiv, 1) := by decide +kernel
theorem dX4_weightByLetters_17 : decode cX4_weightByLetters 17 = .ok (.aload_n 2, 1) := by decide +kernel
theorem dX4_weightByLetters_18 : decode cX4_weightByLetters 18 = .ok (.getfield 103, 3) := by decide +kernel
theorem dX4_weightByLetters_21 : decode cX4_weightByLetters 21 = .ok (.iadd, 1) := by decide +kernel
theorem dX4_weightByLetters_22 : decode cX4_weightByLetters 22 = .ok (.aload_n 2, 1) := by decide +kernel
theorem dX4_weightByLetters_23 : decode cX4_weightByLetters 23 = .ok (.getfield 109, 3) := by decide +kernel
theorem dX4_weightByLetters_26 : decode cX4_weightByLetters 26 = .ok (.iadd, 1) := by decide +kernel
theorem dX4_weightByLetters_27 : decode cX4_weightByLetters 27 = .ok (.istore_n 3, 1) := by decide +kernel
theorem dX4_weightByLetters_28 : decode cX4_weightByLetters 28 = .ok (.iconst 0, 1) := by decide +kernel
theorem dX4_weightByLetters_29 : decode cX4_weightByLetters 29 = .ok (.istore 4, 2) := by decide +kernel
theorem dX4_weightByLetters_31 : decode cX4_weightByLetters 31 = .ok (.iconst 0, 1) := by decide +kernel
theorem dX4_weightByLetters_32 : decode cX4_weightByLetters 32 = .ok (.istore 5, 2) := by decide +kernel
theorem dX4_weightByLetters_34 : decode cX4_weightByLetters 34 = .ok (.iload 5, 2) := by decide +kernel
theorem dX4_weightByLetters_36 : decode cX4_weightByLetters 36 = .ok (.aload_n 0, 1) := by decide +kernel
theorem dX4_weightByLetters_37 : decode cX4_weightByLetters 37 = .ok (.getfield 49, 3) := by decide +kernel
theorem dX4_weightByLetters_40 : decode cX4_weightByLetters 40 = .ok (.if_icmp .ge 51, 3) := by decide +kernel
theorem dX4_weightByLetters_43 : decode cX4_weightByLetters 43 = .ok (.aload_n 0, 1) := by decide +kernel
theorem dX4_weightByLetters_44 : decode cX4_weightByLetters 44 = .ok (.getfield 26, 3) := by decide +kernel
theorem dX4_weightByLetters_47 : decode cX4_weightByLetters 47 = .ok (.iload 5, 2) := by decide +kernel
theorem dX4_weightByLetters_49 : decode cX4_weightByLetters 49 = .ok (.aaload, 1) := by decide +kernel
theorem dX4_weightByLetters_50 : decode cX4_weightByLetters 50 = .ok (.getfield 121, 3) := by decide +kernel
theorem dX4_weightByLetters_53 : decode cX4_weightByLetters 53 = .ok (.iload_n 1, 1) := by decide +kernel
theorem dX4_weightByLetters_54 : decode cX4_weightByLetters 54 = .ok (.if_icmp .ne 31, 3) := by decide +kernel
theorem dX4_weightByLetters_57 : decode cX4_weightByLetters 57 = .ok (.iload 4, 2) := by decide +kernel
theorem dX4_weightByLetters_59 : decode cX4_weightByLetters 59 = .ok (.aload_n 0, 1) := by decide +kernel
theorem dX4_weightByLetters_60 : decode cX4_weightByLetters 60 = .ok (.getfield 26, 3) := by decide +kernel
theorem dX4_weightByLetters_63 : decode cX4_weightByLetters 63 = .ok (.iload 5, 2) := by decide +kernel
theorem dX4_weightByLetters_65 : decode cX4_weightByLetters 65 = .ok (.aaload, 1) := by decide +kernel
theorem dX4_weightByLetters_66 : decode cX4_weightByLetters 66 = .ok (.getfield 112, 3) := by decide +kernel
theorem dX4_weightByLetters_69 : decode cX4_weightByLetters 69 = .ok (.iadd, 1) := by decide +kernel
theorem dX4_weightByLetters_70 : decode cX4_weightByLetters 70 = .ok (.istore 4, 2) := by decide +kernel
theorem dX4_weightByLetters_72 : decode cX4_weightByLetters 72 = .ok (.iload_n 3, 1) := by decide +kernel
theorem dX4_weightByLetters_73 : decode cX4_weightByLetters 73 = .ok (.iload 4, 2) := by decide +kernel
theorem dX4_weightByLetters_75 : decode cX4_weightByLetters 75 = .ok (.iconst 3, 1) := by decide +kernel
theorem dX4_weightByLetters_76 : decode cX4_weightByLetters 76 = .ok (.idiv, 1) := by decide +kernel
theorem dX4_weightByLetters_77 : decode cX4_weightByLetters 77 = .ok (.iadd, 1) := by decide +kernel
theorem dX4_weightByLetters_78 : decode cX4_weightByLetters 78 = .ok (.istore_n 3, 1) := by decide +kernel
theorem dX4_weightByLetters_79 : decode cX4_weightByLetters 79 = .ok (.iload 4, 2) := by decide +kernel
theorem dX4_weightByLetters_81 : decode cX4_weightByLetters 81 = .ok (.iconst 3, 1) := by decide +kernel
theorem dX4_weightByLetters_82 : decode cX4_weightByLetters 82 = .ok (.irem, 1) := by decide +kernel
theorem dX4_weightByLetters_83 : decode cX4_weightByLetters 83 = .ok (.istore 4, 2) := by decide +kernel
theorem dX4_weightByLetters_85 : decode cX4_weightByLetters 85 = .ok (.iinc 5 1, 3) := by decide +kernel
theorem dX4_weightByLetters_88 : decode cX4_weightByLetters 88 = .ok (.goto (-54), 3) := by decide +kernel
theorem dX4_weightByLetters_91 : decode cX4_weightByLetters 91 = .ok (.iload 4, 2) := by decide +kernel
theorem dX4_weightByLetters_93 : decode cX4_weightByLetters 93 = .ok (.ifCond .le 9, 3) := by decide +kernel
theorem dX4_weightByLetters_96 : decode cX4_weightByLetters 96 = .ok (.iload_n 3, 1) := by decide +kernel
theorem dX4_weightByLetters_97 : decode cX4_weightByLetters 97 = .ok (.iconst 1, 1) := by decide +kernel
theorem dX4_weightByLetters_98 : decode cX4_weightByLetters 98 = .ok (.iadd, 1) := by decide +kernel
theorem dX4_weightByLetters_99 : decode cX4_weightByLetters 99 = .ok (.goto 4, 3) := by decide +kernel
theorem dX4_weightByLetters_102 : decode cX4_weightByLetters 102 = .ok (.iload_n 3, 1) := by decide +kernel
theorem dX4_weightByLetters_103 : decode cX4_weightByLetters 103 = .ok (.ireturn, 1) := by decide +kernel
theorem dX4_letterAtPlace_0 : decode cX4_letterAtPlace 0 = .ok (.iconst 0, 1) := by decide +kernel
theorem dX4_letterAtPlace_1 : decode cX4_letterAtPlace 1 = .ok (.istore_n 2, 1) := by decide +kernel
theorem dX4_letterAtPlace_2 : decode cX4_letterAtPlace 2 = .ok (.iconst 2, 1) := by decide +kernel
theorem dX4_letterAtPlace_3 : decode cX4_letterAtPlace 3 = .ok (.istore_n 3, 1) := by decide +kernel
theorem dX4_letterAtPlace_4 : decode cX4_letterAtPlace 4 = .ok (.iload_n 3, 1) := by decide +kernel
theorem dX4_letterAtPlace_5 : decode cX4_letterAtPlace 5 = .ok (.ifCond .lt 48, 3) := by decide +kernel
theorem dX4_letterAtPlace_8 : decode cX4_letterAtPlace 8 = .ok (.iconst 0, 1) := by decide +kernel
theorem dX4_letterAtPlace_9 : decode cX4_letterAtPlace 9 = .ok (.istore 4, 2) := by decide +kernel
theorem dX4_letterAtPlace_11 : decode cX4_letterAtPlace 11 = .ok (.iload 4, 2) := by decide +kernel
theorem dX4_letterAtPlace_13 : decode cX4_letterAtPlace 13 = .ok (.aload_n 0, 1) := by decide +kernel
theorem dX4_letterAtPlace_14 : decode cX4_letterAtPlace 14 = .ok (.getfield 49, 3) := by decide +kernel
theorem dX4_letterAtPlace_17 : decode cX4_letterAtPlace 17 = .ok (.if_icmp .ge 30, 3) := by decide +kernel
theorem dX4_letterAtPlace_20 : decode cX4_letterAtPlace 20 = .ok (.aload_n 0, 1) := by decide +kernel
theorem dX4_letterAtPlace_21 : decode cX4_letterAtPlace 21 = .ok (.iload 4, 2) := by decide +kernel
theorem dX4_letterAtPlace_23 : decode cX4_letterAtPlace 23 = .ok (.iload_n 3, 1) := by decide +kernel
theorem dX4_letterAtPlace_24 : decode cX4_letterAtPlace 24 = .ok (.invokevirtual 132, 3) := by decide +kernel
theorem dX4_letterAtPlace_27 : decode cX4_letterAtPlace 27 = .ok (.ifCond .eq 14, 3) := by decide +kernel
theorem dX4_letterAtPlace_30 : decode cX4_letterAtPlace 30 = .ok (.iload_n 2, 1) := by decide +kernel
theorem dX4_letterAtPlace_31 : decode cX4_letterAtPlace 31 = .ok (.iload_n 1, 1) := by decide +kernel
theorem dX4_letterAtPlace_32 : decode cX4_letterAtPlace 32 = .ok (.if_icmp .ne 6, 3) := by decide +kernel
theorem dX4_letterAtPlace_35 : decode cX4_letterAtPlace 35 = .ok (.iload 4, 2) := by decide +kernel
theorem dX4_letterAtPlace_37 : decode cX4_letterAtPlace 37 = .ok (.ireturn, 1) := by decide +kernel
theorem dX4_letterAtPlace_38 : decode cX4_letterAtPlace 38 = .ok (.iinc 2 1, 3) := by decide +kernel
theorem dX4_letterAtPlace_41 : decode cX4_letterAtPlace 41 = .ok (.iinc 4 1, 3) := by decide +kernel
theorem dX4_letterAtPlace_44 : decode cX4_letterAtPlace 44 = .ok (.goto (-33), 3) := by decide +kernel
theorem dX4_letterAtPlace_47 : decode cX4_letterAtPlace 47 = .ok (.iinc 3 (-1), 3) := by decide +kernel
theorem dX4_letterAtPlace_50 : decode cX4_letterAtPlace 50 = .ok (.goto (-46), 3) := by decide +kernel
theorem dX4_letterAtPlace_53 : decode cX4_letterAtPlace 53 = .ok (.iconst (-1), 1) := by decide +kernel
theorem dX4_letterAtPlace_54 : decode cX4_letterAtPlace 54 = .ok (.ireturn, 1) := by decide +kernel
theorem dX4_numberOf_0 : decode cX4_numberOf 0 = .ok (.iload_n 1, 1) := by decide +kernel
theorem dX4_numberOf_1 : decode cX4_numberOf 1 = .ok (.tableswitch 185 0 17 #[87, 92, 97, 102, 107, 113, 119, 125, 131, 136, 142, 148, 154, 160, 165, 170, 175, 180], 87) := by decide +kernel
theorem dX4_numberOf_88 : decode cX4_numberOf 88 = .ok (.aload_n 0, 1) := by decide +kernel
theorem dX4_numberOf_89 : decode cX4_numberOf 89 = .ok (.getfield 52, 3) := by decide +kernel
theorem dX4_numberOf_92 : decode cX4_numberOf 92 = .ok (.ireturn, 1) := by decide +kernel
theorem dX4_numberOf_93 : decode cX4_numberOf 93 = .ok (.aload_n 0, 1) := by decide +kernel
theorem dX4_numberOf_94 : decode cX4_numberOf 94 = .ok (.getfield 30, 3) := by decide +kernel
theorem dX4_numberOf_97 : decode cX4_numberOf 97 = .ok (.ireturn, 1) := by decide +kernel
theorem dX4_numberOf_98 : decode cX4_numberOf 98 = .ok (.aload_n 0, 1) := by decide +kernel
theorem dX4_numberOf_99 : decode cX4_numberOf 99 = .ok (.getfield 34, 3) := by decide +kernel
theorem dX4_numberOf_102 : decode cX4_numberOf 102 = .ok (.ireturn, 1) := by decide +kernel
theorem dX4_numberOf_103 : decode cX4_numberOf 103 = .ok (.aload_n 0, 1) := by decide +kernel
theorem dX4_numberOf_104 : decode cX4_numberOf 104 = .ok (.getfield 46, 3) := by decide +kernel
theorem dX4_numberOf_107 : decode cX4_numberOf 107 = .ok (.ireturn, 1) := by decide +kernel
theorem dX4_numberOf_108 : decode cX4_numberOf 108 = .ok (.aload_n 0, 1) := by decide +kernel
theorem dX4_numberOf_109 : decode cX4_numberOf 109 = .ok (.iconst 0, 1) := by decide +kernel
theorem dX4_numberOf_110 : decode cX4_numberOf 110 = .ok (.invokevirtual 162, 3) := by decide +kernel
theorem dX4_numberOf_113 : decode cX4_numberOf 113 = .ok (.ireturn, 1) := by decide +kernel
theorem dX4_numberOf_114 : decode cX4_numberOf 114 = .ok (.aload_n 0, 1) := by decide +kernel
theorem dX4_numberOf_115 : decode cX4_numberOf 115 = .ok (.iconst 1, 1) := by decide +kernel
theorem dX4_numberOf_116 : decode cX4_numberOf 116 = .ok (.invokevirtual 162, 3) := by decide +kernel
theorem dX4_numberOf_119 : decode cX4_numberOf 119 = .ok (.ireturn, 1) := by decide +kernel
theorem dX4_numberOf_120 : decode cX4_numberOf 120 = .ok (.aload_n 0, 1) := by decide +kernel
theorem dX4_numberOf_121 : decode cX4_numberOf 121 = .ok (.iconst 2, 1) := by decide +kernel
theorem dX4_numberOf_122 : decode cX4_numberOf 122 = .ok (.invokevirtual 162, 3) := by decide +kernel
theorem dX4_numberOf_125 : decode cX4_numberOf 125 = .ok (.ireturn, 1) := by decide +kernel
theorem dX4_numberOf_126 : decode cX4_numberOf 126 = .ok (.aload_n 0, 1) := by decide +kernel
theorem dX4_numberOf_127 : decode cX4_numberOf 127 = .ok (.iconst 3, 1) := by decide +kernel
theorem dX4_numberOf_128 : decode cX4_numberOf 128 = .ok (.invokevirtual 162, 3) := by decide +kernel
theorem dX4_numberOf_131 : decode cX4_numberOf 131 = .ok (.ireturn, 1) := by decide +kernel
theorem dX4_numberOf_132 : decode cX4_numberOf 132 = .ok (.aload_n 0, 1) := by decide +kernel
theorem dX4_numberOf_133 : decode cX4_numberOf 133 = .ok (.getfield 49, 3) := by decide +kernel
theorem dX4_numberOf_136 : decode cX4_numberOf 136 = .ok (.ireturn, 1) := by decide +kernel
theorem dX4_numberOf_137 : decode cX4_numberOf 137 = .ok (.aload_n 0, 1) := by decide +kernel
theorem dX4_numberOf_138 : decode cX4_numberOf 138 = .ok (.iconst 0, 1) := by decide +kernel
theorem dX4_numberOf_139 : decode cX4_numberOf 139 = .ok (.invokevirtual 165, 3) := by decide +kernel
theorem dX4_numberOf_142 : decode cX4_numberOf 142 = .ok (.ireturn, 1) := by decide +kernel
theorem dX4_numberOf_143 : decode cX4_numberOf 143 = .ok (.aload_n 0, 1) := by decide +kernel
theorem dX4_numberOf_144 : decode cX4_numberOf 144 = .ok (.iconst 1, 1) := by decide +kernel
theorem dX4_numberOf_145 : decode cX4_numberOf 145 = .ok (.invokevirtual 165, 3) := by decide +kernel
theorem dX4_numberOf_148 : decode cX4_numberOf 148 = .ok (.ireturn, 1) := by decide +kernel
theorem dX4_numberOf_149 : decode cX4_numberOf 149 = .ok (.aload_n 0, 1) := by decide +kernel
theorem dX4_numberOf_150 : decode cX4_numberOf 150 = .ok (.iconst 2, 1) := by decide +kernel
theorem dX4_numberOf_151 : decode cX4_numberOf 151 = .ok (.invokevirtual 165, 3) := by decide +kernel
theorem dX4_numberOf_154 : decode cX4_numberOf 154 = .ok (.ireturn, 1) := by decide +kernel
theorem dX4_numberOf_155 : decode cX4_numberOf 155 = .ok (.aload_n 0, 1) := by decide +kernel
theorem dX4_numberOf_156 : decode cX4_numberOf 156 = .ok (.iconst 3, 1) := by decide +kernel
theorem dX4_numberOf_157 : decode cX4_numberOf 157 = .ok (.invokevirtual 165, 3) := by decide +kernel
theorem dX4_numberOf_160 : decode cX4_numberOf 160 = .ok (.ireturn, 1) := by decide +kernel
theorem dX4_numberOf_161 : decode cX4_numberOf 161 = .ok (.aload_n 0, 1) := by decide +kernel
theorem dX4_numberOf_162 : decode cX4_numberOf 162 = .ok (.invokevirtual 168, 3) := by decide +kernel
theorem dX4_numberOf_165 : decode cX4_numberOf 165 = .ok (.ireturn, 1) := by decide +kernel
theorem dX4_numberOf_166 : decode cX4_numberOf 166 = .ok (.aload_n 0, 1) := by decide +kernel
theorem dX4_numberOf_167 : decode cX4_numberOf 167 = .ok (.getfield 55, 3) := by decide +kernel
theorem dX4_numberOf_170 : decode cX4_numberOf 170 = .ok (.ireturn, 1) := by decide +kernel
theorem dX4_numberOf_171 : decode cX4_numberOf 171 = .ok (.aload_n 0, 1) := by decide +kernel
theorem dX4_numberOf_172 : decode cX4_numberOf 172 = .ok (.getfield 58, 3) := by decide +kernel
theorem dX4_numberOf_175 : decode cX4_numberOf 175 = .ok (.ireturn, 1) := by decide +kernel
theorem dX4_numberOf_176 : decode cX4_numberOf 176 = .ok (.aload_n 0, 1) := by decide +kernel
theorem dX4_numberOf_177 : decode cX4_numberOf 177 = .ok (.getfield 61, 3) := by decide +kernel
theorem dX4_numberOf_180 : decode cX4_numberOf 180 = .ok (.ireturn, 1) := by decide +kernel
theorem dX4_numberOf_181 : decode cX4_numberOf 181 = .ok (.aload_n 0, 1) := by decide +kernel
theorem dX4_numberOf_182 : decode cX4_numberOf 182 = .ok (.getfield 64, 3) := by decide +kernel
theorem dX4_numberOf_185 : decode cX4_numberOf 185 = .ok (.ireturn, 1) := by decide +kernel
theorem dX4_numberOf_186 : decode cX4_numberOf 186 = .ok (.aload_n 0, 1) := by decide +kernel
theorem dX4_numberOf_187 : decode cX4_numberOf 187 = .ok (.getfield 67, 3) := by decide +kernel
theorem dX4_numberOf_190 : decode cX4_numberOf 190 = .ok (.ireturn, 1) := by decide +kernel
theorem dX4_balloonsIn_0 : decode cX4_balloonsIn 0 = .ok (.iconst 0, 1) := by decide +kernel
theorem dX4_balloonsIn_1 : decode cX4_balloonsIn 1 = .ok (.istore_n 2, 1) := by decide +kernel
theorem dX4_balloonsIn_2 : decode cX4_balloonsIn 2 = .ok (.iconst 0, 1) := by decide +kernel
theorem dX4_balloonsIn_3 : decode cX4_balloonsIn 3 = .ok (.istore_n 3, 1) := by decide +kernel
theorem dX4_balloonsIn_4 : decode cX4_balloonsIn 4 = .ok (.iload_n 3, 1) := by decide +kernel
theorem dX4_balloonsIn_5 : decode cX4_balloonsIn 5 = .ok (.aload_n 0, 1) := by decide +kernel
theorem dX4_balloonsIn_6 : decode cX4_balloonsIn 6 = .ok (.getfield 46, 3) := by decide +kernel
theorem dX4_balloonsIn_9 : decode cX4_balloonsIn 9 = .ok (.if_icmp .ge 25, 3) := by decide +kernel
theorem dX4_balloonsIn_12 : decode cX4_balloonsIn 12 = .ok (.aload_n 0, 1) := by decide +kernel
theorem dX4_balloonsIn_13 : decode cX4_balloonsIn 13 = .ok (.getfield 20, 3) := by decide +kernel
theorem dX4_balloonsIn_16 : decode cX4_balloonsIn 16 = .ok (.iload_n 3, 1) := by decide +kernel
theorem dX4_balloonsIn_17 : decode cX4_balloonsIn 17 = .ok (.aaload, 1) := by decide +kernel
theorem dX4_balloonsIn_18 : decode cX4_balloonsIn 18 = .ok (.getfield 99, 3) := by decide +kernel
theorem dX4_balloonsIn_21 : decode cX4_balloonsIn 21 = .ok (.iload_n 1, 1) := by decide +kernel
theorem dX4_balloonsIn_22 : decode cX4_balloonsIn 22 = .ok (.if_icmp .ne 6, 3) := by decide +kernel
theorem dX4_balloonsIn_25 : decode cX4_balloonsIn 25 = .ok (.iinc 2 1, 3) := by decide +kernel
theorem dX4_balloonsIn_28 : decode cX4_balloonsIn 28 = .ok (.iinc 3 1, 3) := by decide +kernel
theorem dX4_balloonsIn_31 : decode cX4_balloonsIn 31 = .ok (.goto (-27), 3) := by decide +kernel
theorem dX4_balloonsIn_34 : decode cX4_balloonsIn 34 = .ok (.iload_n 2, 1) := by decide +kernel
theorem dX4_balloonsIn_35 : decode cX4_balloonsIn 35 = .ok (.ireturn, 1) := by decide +kernel
theorem dX4_lettersIn_0 : decode cX4_lettersIn 0 = .ok (.iconst 0, 1) := by decide +kernel
theorem dX4_lettersIn_1 : decode cX4_lettersIn 1 = .ok (.istore_n 2, 1) := by decide +kernel
theorem dX4_lettersIn_2 : decode cX4_lettersIn 2 = .ok (.iconst 0, 1) := by decide +kernel
theorem dX4_lettersIn_3 : decode cX4_lettersIn 3 = .ok (.istore_n 3, 1) := by decide +kernel
theorem dX4_lettersIn_4 : decode cX4_lettersIn 4 = .ok (.iload_n 3, 1) := by decide +kernel
theorem dX4_lettersIn_5 : decode cX4_lettersIn 5 = .ok (.aload_n 0, 1) := by decide +kernel
theorem dX4_lettersIn_6 : decode cX4_lettersIn 6 = .ok (.getfield 49, 3) := by decide +kernel
theorem dX4_lettersIn_9 : decode cX4_lettersIn 9 = .ok (.if_icmp .ge 21, 3) := by decide +kernel
theorem dX4_lettersIn_12 : decode cX4_lettersIn 12 = .ok (.aload_n 0, 1) := by decide +kernel
theorem dX4_lettersIn_13 : decode cX4_lettersIn 13 = .ok (.iload_n 3, 1) := by decide +kernel
theorem dX4_lettersIn_14 : decode cX4_lettersIn 14 = .ok (.invokevirtual 159, 3) := by decide +kernel
theorem dX4_lettersIn_17 : decode cX4_lettersIn 17 = .ok (.iload_n 1, 1) := by decide +kernel
theorem dX4_lettersIn_18 : decode cX4_lettersIn 18 = .ok (.if_icmp .ne 6, 3) := by decide +kernel
theorem dX4_lettersIn_21 : decode cX4_lettersIn 21 = .ok (.iinc 2 1, 3) := by decide +kernel
theorem dX4_lettersIn_24 : decode cX4_lettersIn 24 = .ok (.iinc 3 1, 3) := by decide +kernel
theorem dX4_lettersIn_27 : decode cX4_lettersIn 27 = .ok (.goto (-23), 3) := by decide +kernel
theorem dX4_lettersIn_30 : decode cX4_lettersIn 30 = .ok (.iload_n 2, 1) := by decide +kernel
theorem dX4_lettersIn_31 : decode cX4_lettersIn 31 = .ok (.ireturn, 1) := by decide +kernel
theorem dX4_wordsTold_0 : decode cX4_wordsTold 0 = .ok (.iconst 0, 1) := by decide +kernel
theorem dX4_wordsTold_1 : decode cX4_wordsTold 1 = .ok (.istore_n 1, 1) := by decide +kernel
theorem dX4_wordsTold_2 : decode cX4_wordsTold 2 = .ok (.iconst 0, 1) := by decide +kernel
theorem dX4_wordsTold_3 : decode cX4_wordsTold 3 = .ok (.istore_n 2, 1) := by decide +kernel
theorem dX4_wordsTold_4 : decode cX4_wordsTold 4 = .ok (.iload_n 2, 1) := by decide +kernel
theorem dX4_wordsTold_5 : decode cX4_wordsTold 5 = .ok (.aload_n 0, 1) := by decide +kernel
theorem dX4_wordsTold_6 : decode cX4_wordsTold 6 = .ok (.getfield 46, 3) := by decide +kernel
theorem dX4_wordsTold_9 : decode cX4_wordsTold 9 = .ok (.if_icmp .ge 40, 3) := by decide +kernel
theorem dX4_wordsTold_12 : decode cX4_wordsTold 12 = .ok (.aload_n 0, 1) := by decide +kernel
theorem dX4_wordsTold_13 : decode cX4_wordsTold 13 = .ok (.getfield 20, 3) := by decide +kernel
theorem dX4_wordsTold_16 : decode cX4_wordsTold 16 = .ok (.iload_n 2, 1) := by decide +kernel
theorem dX4_wordsTold_17 : decode cX4_wordsTold 17 = .ok (.aaload, 1) := by decide +kernel
theorem dX4_wordsTold_18 : decode cX4_wordsTold 18 = .ok (.invokevirtual 171, 3) := by decide +kernel
theorem dX4_wordsTold_21 : decode cX4_wordsTold 21 = .ok (.ifCond .eq 22, 3) := by decide +kernel
theorem dX4_wordsTold_24 : decode cX4_wordsTold 24 = .ok (.aload_n 0, 1) := by decide +kernel
theorem dX4_wordsTold_25 : decode cX4_wordsTold 25 = .ok (.getfield 20, 3) := by decide +kernel
theorem dX4_wordsTold_28 : decode cX4_wordsTold 28 = .ok (.iload_n 2, 1) := by decide +kernel
theorem dX4_wordsTold_29 : decode cX4_wordsTold 29 = .ok (.aaload, 1) := by decide +kernel
theorem dX4_wordsTold_30 : decode cX4_wordsTold 30 = .ok (.getfield 156, 3) := by decide +kernel
theorem dX4_wordsTold_33 : decode cX4_wordsTold 33 = .ok (.aload_n 0, 1) := by decide +kernel
theorem dX4_wordsTold_34 : decode cX4_wordsTold 34 = .ok (.getfield 52, 3) := by decide +kernel
theorem dX4_wordsTold_37 : decode cX4_wordsTold 37 = .ok (.if_icmp .ge 6, 3) := by decide +kernel
theorem dX4_wordsTold_40 : decode cX4_wordsTold 40 = .ok (.iinc 1 1, 3) := by decide +kernel
theorem dX4_wordsTold_43 : decode cX4_wordsTold 43 = .ok (.iinc 2 1, 3) := by decide +kernel
theorem dX4_wordsTold_46 : decode cX4_wordsTold 46 = .ok (.goto (-42), 3) := by decide +kernel
theorem dX4_wordsTold_49 : decode cX4_wordsTold 49 = .ok (.iload_n 1, 1) := by decide +kernel
theorem dX4_wordsTold_50 : decode cX4_wordsTold 50 = .ok (.ireturn, 1) := by decide +kernel
theorem dX4_ballastHeld_0 : decode cX4_ballastHeld 0 = .ok (.iconst 0, 1) := by decide +kernel
theorem dX4_ballastHeld_1 : decode cX4_ballastHeld 1 = .ok (.istore_n 1, 1) := by decide +kernel
theorem dX4_ballastHeld_2 : decode cX4_ballastHeld 2 = .ok (.iconst 0, 1) := by decide +kernel
theorem dX4_ballastHeld_3 : decode cX4_ballastHeld 3 = .ok (.istore_n 2, 1) := by decide +kernel
theorem dX4_ballastHeld_4 : decode cX4_ballastHeld 4 = .ok (.iload_n 2, 1) := by decide +kernel
theorem dX4_ballastHeld_5 : decode cX4_ballastHeld 5 = .ok (.aload_n 0, 1) := by decide +kernel
theorem dX4_ballastHeld_6 : decode cX4_ballastHeld 6 = .ok (.getfield 46, 3) := by decide +kernel
theorem dX4_ballastHeld_9 : decode cX4_ballastHeld 9 = .ok (.if_icmp .ge 46, 3) := by decide +kernel
theorem dX4_ballastHeld_12 : decode cX4_ballastHeld 12 = .ok (.aload_n 0, 1) := by decide +kernel
theorem dX4_ballastHeld_13 : decode cX4_ballastHeld 13 = .ok (.getfield 20, 3) := by decide +kernel
theorem dX4_ballastHeld_16 : decode cX4_ballastHeld 16 = .ok (.iload_n 2, 1) := by decide +kernel
theorem dX4_ballastHeld_17 : decode cX4_ballastHeld 17 = .ok (.aaload, 1) := by decide +kernel
theorem dX4_ballastHeld_18 : decode cX4_ballastHeld 18 = .ok (.getfield 99, 3) := by decide +kernel
theorem dX4_ballastHeld_21 : decode cX4_ballastHeld 21 = .ok (.ifCond .eq 16, 3) := by decide +kernel
theorem dX4_ballastHeld_24 : decode cX4_ballastHeld 24 = .ok (.aload_n 0, 1) := by decide +kernel
theorem dX4_ballastHeld_25 : decode cX4_ballastHeld 25 = .ok (.getfield 20, 3) := by decide +kernel
theorem dX4_ballastHeld_28 : decode cX4_ballastHeld 28 = .ok (.iload_n 2, 1) := by decide +kernel
theorem dX4_ballastHeld_29 : decode cX4_ballastHeld 29 = .ok (.aaload, 1) := by decide +kernel
theorem dX4_ballastHeld_30 : decode cX4_ballastHeld 30 = .ok (.getfield 99, 3) := by decide +kernel
theorem dX4_ballastHeld_33 : decode cX4_ballastHeld 33 = .ok (.iconst 1, 1) := by decide +kernel
theorem dX4_ballastHeld_34 : decode cX4_ballastHeld 34 = .ok (.if_icmp .ne 15, 3) := by decide +kernel
theorem dX4_ballastHeld_37 : decode cX4_ballastHeld 37 = .ok (.iload_n 1, 1) := by decide +kernel
theorem dX4_ballastHeld_38 : decode cX4_ballastHeld 38 = .ok (.aload_n 0, 1) := by decide +kernel
theorem dX4_ballastHeld_39 : decode cX4_ballastHeld 39 = .ok (.getfield 20, 3) := by decide +kernel
theorem dX4_ballastHeld_42 : decode cX4_ballastHeld 42 = .ok (.iload_n 2, 1) := by decide +kernel
theorem dX4_ballastHeld_43 : decode cX4_ballastHeld 43 = .ok (.aaload, 1) := by decide +kernel
theorem dX4_ballastHeld_44 : decode cX4_ballastHeld 44 = .ok (.getfield 103, 3) := by decide +kernel
theorem dX4_ballastHeld_47 : decode cX4_ballastHeld 47 = .ok (.iadd, 1) := by decide +kernel
theorem dX4_ballastHeld_48 : decode cX4_ballastHeld 48 = .ok (.istore_n 1, 1) := by decide +kernel
theorem dX4_ballastHeld_49 : decode cX4_ballastHeld 49 = .ok (.iinc 2 1, 3) := by decide +kernel
theorem dX4_ballastHeld_52 : decode cX4_ballastHeld 52 = .ok (.goto (-48), 3) := by decide +kernel
theorem dX4_ballastHeld_55 : decode cX4_ballastHeld 55 = .ok (.iload_n 1, 1) := by decide +kernel
theorem dX4_ballastHeld_56 : decode cX4_ballastHeld 56 = .ok (.ireturn, 1) := by decide +kernel
theorem dX4_distancesOfLanded_0 : decode cX4_distancesOfLanded 0 = .ok (.iconst 0, 1) := by decide +kernel
theorem dX4_distancesOfLanded_1 : decode cX4_distancesOfLanded 1 = .ok (.istore_n 1, 1) := by decide +kernel
theorem dX4_distancesOfLanded_2 : decode cX4_distancesOfLanded 2 = .ok (.iconst 0, 1) := by decide +kernel
theorem dX4_distancesOfLanded_3 : decode cX4_distancesOfLanded 3 = .ok (.istore_n 2, 1) := by decide +kernel
theorem dX4_distancesOfLanded_4 : decode cX4_distancesOfLanded 4 = .ok (.iload_n 2, 1) := by decide +kernel
theorem dX4_distancesOfLanded_5 : decode cX4_distancesOfLanded 5 = .ok (.aload_n 0, 1) := by decide +kernel
theorem dX4_distancesOfLanded_6 : decode cX4_distancesOfLanded 6 = .ok (.getfield 46, 3) := by decide +kernel
theorem dX4_distancesOfLanded_9 : decode cX4_distancesOfLanded 9 = .ok (.if_icmp .ge 34, 3) := by decide +kernel
theorem dX4_distancesOfLanded_12 : decode cX4_distancesOfLanded 12 = .ok (.aload_n 0, 1) := by decide +kernel
theorem dX4_distancesOfLanded_13 : decode cX4_distancesOfLanded 13 = .ok (.getfield 20, 3) := by decide +kernel
theorem dX4_distancesOfLanded_16 : decode cX4_distancesOfLanded 16 = .ok (.iload_n 2, 1) := by decide +kernel
theorem dX4_distancesOfLanded_17 : decode cX4_distancesOfLanded 17 = .ok (.aaload, 1) := by decide +kernel
theorem dX4_distancesOfLanded_18 : decode cX4_distancesOfLanded 18 = .ok (.getfield 99, 3) := by decide +kernel
theorem dX4_distancesOfLanded_21 : decode cX4_distancesOfLanded 21 = .ok (.iconst 2, 1) := by decide +kernel
theorem dX4_distancesOfLanded_22 : decode cX4_distancesOfLanded 22 = .ok (.if_icmp .ne 15, 3) := by decide +kernel
theorem dX4_distancesOfLanded_25 : decode cX4_distancesOfLanded 25 = .ok (.iload_n 1, 1) := by decide +kernel
theorem dX4_distancesOfLanded_26 : decode cX4_distancesOfLanded 26 = .ok (.aload_n 0, 1) := by decide +kernel
theorem dX4_distancesOfLanded_27 : decode cX4_distancesOfLanded 27 = .ok (.getfield 20, 3) := by decide +kernel
theorem dX4_distancesOfLanded_30 : decode cX4_distancesOfLanded 30 = .ok (.iload_n 2, 1) := by decide +kernel
theorem dX4_distancesOfLanded_31 : decode cX4_distancesOfLanded 31 = .ok (.aaload, 1) := by decide +kernel
theorem dX4_distancesOfLanded_32 : decode cX4_distancesOfLanded 32 = .ok (.invokevirtual 153, 3) := by decide +kernel
theorem dX4_distancesOfLanded_35 : decode cX4_distancesOfLanded 35 = .ok (.iadd, 1) := by decide +kernel
theorem dX4_distancesOfLanded_36 : decode cX4_distancesOfLanded 36 = .ok (.istore_n 1, 1) := by decide +kernel
theorem dX4_distancesOfLanded_37 : decode cX4_distancesOfLanded 37 = .ok (.iinc 2 1, 3) := by decide +kernel
theorem dX4_distancesOfLanded_40 : decode cX4_distancesOfLanded 40 = .ok (.goto (-36), 3) := by decide +kernel
theorem dX4_distancesOfLanded_43 : decode cX4_distancesOfLanded 43 = .ok (.iload_n 1, 1) := by decide +kernel
theorem dX4_distancesOfLanded_44 : decode cX4_distancesOfLanded 44 = .ok (.ireturn, 1) := by decide +kernel
theorem dX5_init_0 : decode cX5_init 0 = .ok (.aload_n 0, 1) := by decide +kernel
theorem dX5_init_1 : decode cX5_init 1 = .ok (.invokespecial 1, 3) := by decide +kernel
theorem dX5_init_4 : decode cX5_init 4 = .ok (.aload_n 0, 1) := by decide +kernel
theorem dX5_init_5 : decode cX5_init 5 = .ok (.new 7, 3) := by decide +kernel
theorem dX5_init_8 : decode cX5_init 8 = .ok (.dup, 1) := by decide +kernel
theorem dX5_init_9 : decode cX5_init 9 = .ok (.invokespecial 9, 3) := by decide +kernel
theorem dX5_init_12 : decode cX5_init 12 = .ok (.putfield 10, 3) := by decide +kernel
theorem dX5_init_15 : decode cX5_init 15 = .ok (.aload_n 0, 1) := by decide +kernel
theorem dX5_init_16 : decode cX5_init 16 = .ok (.new 16, 3) := by decide +kernel
theorem dX5_init_19 : decode cX5_init 19 = .ok (.dup, 1) := by decide +kernel
theorem dX5_init_20 : decode cX5_init 20 = .ok (.invokespecial 18, 3) := by decide +kernel
theorem dX5_init_23 : decode cX5_init 23 = .ok (.putfield 19, 3) := by decide +kernel
theorem dX5_init_26 : decode cX5_init 26 = .ok (.aload_n 0, 1) := by decide +kernel
theorem dX5_init_27 : decode cX5_init 27 = .ok (.new 7, 3) := by decide +kernel
theorem dX5_init_30 : decode cX5_init 30 = .ok (.dup, 1) := by decide +kernel
theorem dX5_init_31 : decode cX5_init 31 = .ok (.invokespecial 9, 3) := by decide +kernel
theorem dX5_init_34 : decode cX5_init 34 = .ok (.putfield 23, 3) := by decide +kernel
theorem dX5_init_37 : decode cX5_init 37 = .ok (.aload_n 0, 1) := by decide +kernel
theorem dX5_init_38 : decode cX5_init 38 = .ok (.new 26, 3) := by decide +kernel
theorem dX5_init_41 : decode cX5_init 41 = .ok (.dup, 1) := by decide +kernel
theorem dX5_init_42 : decode cX5_init 42 = .ok (.invokespecial 28, 3) := by decide +kernel
theorem dX5_init_45 : decode cX5_init 45 = .ok (.putfield 29, 3) := by decide +kernel
theorem dX5_init_48 : decode cX5_init 48 = .ok (.aload_n 0, 1) := by decide +kernel
theorem dX5_init_49 : decode cX5_init 49 = .ok (.new 33, 3) := by decide +kernel
theorem dX5_init_52 : decode cX5_init 52 = .ok (.dup, 1) := by decide +kernel
theorem dX5_init_53 : decode cX5_init 53 = .ok (.invokespecial 35, 3) := by decide +kernel
theorem dX5_init_56 : decode cX5_init 56 = .ok (.putfield 36, 3) := by decide +kernel
theorem dX5_init_59 : decode cX5_init 59 = .ok (.return_, 1) := by decide +kernel
theorem dX5_ring_0 : decode cX5_ring 0 = .ok (.aload_n 0, 1) := by decide +kernel
theorem dX5_ring_1 : decode cX5_ring 1 = .ok (.getfield 19, 3) := by decide +kernel
theorem dX5_ring_4 : decode cX5_ring 4 = .ok (.aload_n 0, 1) := by decide +kernel
theorem dX5_ring_5 : decode cX5_ring 5 = .ok (.getfield 10, 3) := by decide +kernel
theorem dX5_ring_8 : decode cX5_ring 8 = .ok (.invokevirtual 40, 3) := by decide +kernel
theorem dX5_ring_11 : decode cX5_ring 11 = .ok (.aload_n 0, 1) := by decide +kernel
theorem dX5_ring_12 : decode cX5_ring 12 = .ok (.aload_n 0, 1) := by decide +kernel
theorem dX5_ring_13 : decode cX5_ring 13 = .ok (.getfield 10, 3) := by decide +kernel
theorem dX5_ring_16 : decode cX5_ring 16 = .ok (.iload_n 1, 1) := by decide +kernel
theorem dX5_ring_17 : decode cX5_ring 17 = .ok (.invokevirtual 44, 3) := by decide +kernel
theorem dX5_ring_20 : decode cX5_ring 20 = .ok (.invokevirtual 48, 3) := by decide +kernel
theorem dX5_ring_23 : decode cX5_ring 23 = .ok (.ireturn, 1) := by decide +kernel
theorem dX5_wind_0 : decode cX5_wind 0 = .ok (.aload_n 0, 1) := by decide +kernel
theorem dX5_wind_1 : decode cX5_wind 1 = .ok (.getfield 19, 3) := by decide +kernel
theorem dX5_wind_4 : decode cX5_wind 4 = .ok (.aload_n 0, 1) := by decide +kernel
theorem dX5_wind_5 : decode cX5_wind 5 = .ok (.getfield 10, 3) := by decide +kernel
theorem dX5_wind_8 : decode cX5_wind 8 = .ok (.invokevirtual 40, 3) := by decide +kernel
theorem dX5_wind_11 : decode cX5_wind 11 = .ok (.aload_n 0, 1) := by decide +kernel
theorem dX5_wind_12 : decode cX5_wind 12 = .ok (.aload_n 0, 1) := by decide +kernel
theorem dX5_wind_13 : decode cX5_wind 13 = .ok (.getfield 10, 3) := by decide +kernel
theorem dX5_wind_16 : decode cX5_wind 16 = .ok (.iload_n 1, 1) := by decide +kernel
theorem dX5_wind_17 : decode cX5_wind 17 = .ok (.iload_n 2, 1) := by decide +kernel
theorem dX5_wind_18 : decode cX5_wind 18 = .ok (.iload_n 3, 1) := by decide +kernel
theorem dX5_wind_19 : decode cX5_wind 19 = .ok (.invokevirtual 51, 3) := by decide +kernel
theorem dX5_wind_22 : decode cX5_wind 22 = .ok (.invokevirtual 48, 3) := by decide +kernel
theorem dX5_wind_25 : decode cX5_wind 25 = .ok (.ireturn, 1) := by decide +kernel
theorem dX5_gas_0 : decode cX5_gas 0 = .ok (.aload_n 0, 1) := by decide +kernel
theorem dX5_gas_1 : decode cX5_gas 1 = .ok (.getfield 19, 3) := by decide +kernel
theorem dX5_gas_4 : decode cX5_gas 4 = .ok (.aload_n 0, 1) := by decide +kernel
theorem dX5_gas_5 : decode cX5_gas 5 = .ok (.getfield 10, 3) := by decide +kernel
theorem dX5_gas_8 : decode cX5_gas 8 = .ok (.invokevirtual 40, 3) := by decide +kernel
theorem dX5_gas_11 : decode cX5_gas 11 = .ok (.aload_n 0, 1) := by decide +kernel
theorem dX5_gas_12 : decode cX5_gas 12 = .ok (.aload_n 0, 1) := by decide +kernel
theorem dX5_gas_13 : decode cX5_gas 13 = .ok (.getfield 10, 3) := by decide +kernel
theorem dX5_gas_16 : decode cX5_gas 16 = .ok (.iload_n 1, 1) := by decide +kernel
theorem dX5_gas_17 : decode cX5_gas 17 = .ok (.invokevirtual 55, 3) := by decide +kernel
theorem dX5_gas_20 : decode cX5_gas 20 = .ok (.invokevirtual 48, 3) := by decide +kernel
theorem dX5_gas_23 : decode cX5_gas 23 = .ok (.ireturn, 1) := by decide +kernel
theorem dX5_balloon_0 : decode cX5_balloon 0 = .ok (.aload_n 0, 1) := by decide +kernel
theorem dX5_balloon_1 : decode cX5_balloon 1 = .ok (.getfield 19, 3) := by decide +kernel
theorem dX5_balloon_4 : decode cX5_balloon 4 = .ok (.aload_n 0, 1) := by decide +kernel
theorem dX5_balloon_5 : decode cX5_balloon 5 = .ok (.getfield 10, 3) := by decide +kernel
theorem dX5_balloon_8 : decode cX5_balloon 8 = .ok (.invokevirtual 40, 3) := by decide +kernel
theorem dX5_balloon_11 : decode cX5_balloon 11 = .ok (.aload_n 0, 1) := by decide +kernel
theorem dX5_balloon_12 : decode cX5_balloon 12 = .ok (.aload_n 0, 1) := by decide +kernel
theorem dX5_balloon_13 : decode cX5_balloon 13 = .ok (.getfield 10, 3) := by decide +kernel
theorem dX5_balloon_16 : decode cX5_balloon 16 = .ok (.iload_n 1, 1) := by decide +kernel
theorem dX5_balloon_17 : decode cX5_balloon 17 = .ok (.invokevirtual 58, 3) := by decide +kernel
theorem dX5_balloon_20 : decode cX5_balloon 20 = .ok (.invokevirtual 48, 3) := by decide +kernel
theorem dX5_balloon_23 : decode cX5_balloon 23 = .ok (.ireturn, 1) := by decide +kernel
theorem dX5_fill_0 : decode cX5_fill 0 = .ok (.aload_n 0, 1) := by decide +kernel
theorem dX5_fill_1 : decode cX5_fill 1 = .ok (.getfield 19, 3) := by decide +kernel
theorem dX5_fill_4 : decode cX5_fill 4 = .ok (.aload_n 0, 1) := by decide +kernel
theorem dX5_fill_5 : decode cX5_fill 5 = .ok (.getfield 10, 3) := by decide +kernel
theorem dX5_fill_8 : decode cX5_fill 8 = .ok (.invokevirtual 40, 3) := by decide +kernel
theorem dX5_fill_11 : decode cX5_fill 11 = .ok (.aload_n 0, 1) := by decide +kernel
theorem dX5_fill_12 : decode cX5_fill 12 = .ok (.aload_n 0, 1) := by decide +kernel
theorem dX5_fill_13 : decode cX5_fill 13 = .ok (.getfield 10, 3) := by decide +kernel
theorem dX5_fill_16 : decode cX5_fill 16 = .ok (.iload_n 1, 1) := by decide +kernel
theorem dX5_fill_17 : decode cX5_fill 17 = .ok (.iload_n 2, 1) := by decide +kernel
theorem dX5_fill_18 : decode cX5_fill 18 = .ok (.invokevirtual 61, 3) := by decide +kernel
theorem dX5_fill_21 : decode cX5_fill 21 = .ok (.invokevirtual 48, 3) := by decide +kernel
theorem dX5_fill_24 : decode cX5_fill 24 = .ok (.ireturn, 1) := by decide +kernel
theorem dX5_ballast_0 : decode cX5_ballast 0 = .ok (.aload_n 0, 1) := by decide +kernel
theorem dX5_ballast_1 : decode cX5_ballast 1 = .ok (.getfield 19, 3) := by decide +kernel
theorem dX5_ballast_4 : decode cX5_ballast 4 = .ok (.aload_n 0, 1) := by decide +kernel
theorem dX5_ballast_5 : decode cX5_ballast 5 = .ok (.getfield 10, 3) := by decide +kernel
theorem dX5_ballast_8 : decode cX5_ballast 8 = .ok (.invokevirtual 40, 3) := by decide +kernel
theorem dX5_ballast_11 : decode cX5_ballast 11 = .ok (.aload_n 0, 1) := by decide +kernel
theorem dX5_ballast_12 : decode cX5_ballast 12 = .ok (.aload_n 0, 1) := by decide +kernel
theorem dX5_ballast_13 : decode cX5_ballast 13 = .ok (.getfield 10, 3) := by decide +kernel
theorem dX5_ballast_16 : decode cX5_ballast 16 = .ok (.iload_n 1, 1) := by decide +kernel
theorem dX5_ballast_17 : decode cX5_ballast 17 = .ok (.iload_n 2, 1) := by decide +kernel
theorem dX5_ballast_18 : decode cX5_ballast 18 = .ok (.invokevirtual 65, 3) := by decide +kernel
theorem dX5_ballast_21 : decode cX5_ballast 21 = .ok (.invokevirtual 48, 3) := by decide +kernel
theorem dX5_ballast_24 : decode cX5_ballast 24 = .ok (.ireturn, 1) := by decide +kernel
theorem dX5_courier_0 : decode cX5_courier 0 = .ok (.aload_n 0, 1) := by decide +kernel
theorem dX5_courier_1 : decode cX5_courier 1 = .ok (.getfield 19, 3) := by decide +kernel
theorem dX5_courier_4 : decode cX5_courier 4 = .ok (.aload_n 0, 1) := by decide +kernel
theorem dX5_courier_5 : decode cX5_courier 5 = .ok (.getfield 10, 3) := by decide +kernel
theorem dX5_courier_8 : decode cX5_courier 8 = .ok (.invokevirtual 40, 3) := by decide +kernel
theorem dX5_courier_11 : decode cX5_courier 11 = .ok (.aload_n 0, 1) := by decide +kernel
theorem dX5_courier_12 : decode cX5_courier 12 = .ok (.aload_n 0, 1) := by decide +kernel
theorem dX5_courier_13 : decode cX5_courier 13 = .ok (.getfield 10, 3) := by decide +kernel
theorem dX5_courier_16 : decode cX5_courier 16 = .ok (.iload_n 1, 1) := by decide +kernel
theorem dX5_courier_17 : decode cX5_courier 17 = .ok (.iload_n 2, 1) := by decide +kernel
theorem dX5_courier_18 : decode cX5_courier 18 = .ok (.invokevirtual 68, 3) := by decide +kernel
theorem dX5_courier_21 : decode cX5_courier 21 = .ok (.invokevirtual 48, 3) := by decide +kernel
theorem dX5_courier_24 : decode cX5_courier 24 = .ok (.ireturn, 1) := by decide +kernel
theorem dX5_letter_0 : decode cX5_letter 0 = .ok (.aload_n 0, 1) := by decide +kernel
theorem dX5_letter_1 : decode cX5_letter 1 = .ok (.getfield 19, 3) := by decide +kernel
theorem dX5_letter_4 : decode cX5_letter 4 = .ok (.aload_n 0, 1) := by decide +kernel
theorem dX5_letter_5 : decode cX5_letter 5 = .ok (.getfield 10, 3) := by decide +kernel
theorem dX5_letter_8 : decode cX5_letter 8 = .ok (.invokevirtual 40, 3) := by decide +kernel
theorem dX5_letter_11 : decode cX5_letter 11 = .ok (.aload_n 0, 1) := by decide +kernel
theorem dX5_letter_12 : decode cX5_letter 12 = .ok (.aload_n 0, 1) := by decide +kernel
theorem dX5_letter_13 : decode cX5_letter 13 = .ok (.getfield 10, 3) := by decide +kernel
theorem dX5_letter_16 : decode cX5_letter 16 = .ok (.iload_n 1, 1) := by decide +kernel
theorem dX5_letter_17 : decode cX5_letter 17 = .ok (.iload_n 2, 1) := by decide +kernel
theorem dX5_letter_18 : decode cX5_letter 18 = .ok (.invokevirtual 71, 3) := by decide +kernel
theorem dX5_letter_21 : decode cX5_letter 21 = .ok (.invokevirtual 48, 3) := by decide +kernel
theorem dX5_letter_24 : decode cX5_letter 24 = .ok (.ireturn, 1) := by decide +kernel
theorem dX5_load_0 : decode cX5_load 0 = .ok (.aload_n 0, 1) := by decide +kernel
theorem dX5_load_1 : decode cX5_load 1 = .ok (.getfield 19, 3) := by decide +kernel
theorem dX5_load_4 : decode cX5_load 4 = .ok (.aload_n 0, 1) := by decide +kernel
theorem dX5_load_5 : decode cX5_load 5 = .ok (.getfield 10, 3) := by decide +kernel
theorem dX5_load_8 : decode cX5_load 8 = .ok (.invokevirtual 40, 3) := by decide +kernel
theorem dX5_load_11 : decode cX5_load 11 = .ok (.aload_n 0, 1) := by decide +kernel
theorem dX5_load_12 : decode cX5_load 12 = .ok (.aload_n 0, 1) := by decide +kernel
theorem dX5_load_13 : decode cX5_load 13 = .ok (.getfield 10, 3) := by decide +kernel
theorem dX5_load_16 : decode cX5_load 16 = .ok (.iload_n 1, 1) := by decide +kernel
theorem dX5_load_17 : decode cX5_load 17 = .ok (.iload_n 2, 1) := by decide +kernel
theorem dX5_load_18 : decode cX5_load 18 = .ok (.invokevirtual 74, 3) := by decide +kernel
theorem dX5_load_21 : decode cX5_load 21 = .ok (.invokevirtual 48, 3) := by decide +kernel
theorem dX5_load_24 : decode cX5_load 24 = .ok (.ireturn, 1) := by decide +kernel
theorem dX5_loadAll_0 : decode cX5_loadAll 0 = .ok (.aload_n 0, 1) := by decide +kernel
theorem dX5_loadAll_1 : decode cX5_loadAll 1 = .ok (.getfield 19, 3) := by decide +kernel
theorem dX5_loadAll_4 : decode cX5_loadAll 4 = .ok (.aload_n 0, 1) := by decide +kernel
theorem dX5_loadAll_5 : decode cX5_loadAll 5 = .ok (.getfield 10, 3) := by decide +kernel
theorem dX5_loadAll_8 : decode cX5_loadAll 8 = .ok (.invokevirtual 40, 3) := by decide +kernel
theorem dX5_loadAll_11 : decode cX5_loadAll 11 = .ok (.aload_n 0, 1) := by decide +kernel
theorem dX5_loadAll_12 : decode cX5_loadAll 12 = .ok (.aload_n 0, 1) := by decide +kernel
theorem dX5_loadAll_13 : decode cX5_loadAll 13 = .ok (.getfield 10, 3) := by decide +kernel
theorem dX5_loadAll_16 : decode cX5_loadAll 16 = .ok (.iload_n 1, 1) := by decide +kernel
theorem dX5_loadAll_17 : decode cX5_loadAll 17 = .ok (.invokevirtual 77, 3) := by decide +kernel
theorem dX5_loadAll_20 : decode cX5_loadAll 20 = .ok (.invokevirtual 48, 3) := by decide +kernel
theorem dX5_loadAll_23 : decode cX5_loadAll 23 = .ok (.ireturn, 1) := by decide +kernel
theorem dX5_launch_0 : decode cX5_launch 0 = .ok (.aload_n 0, 1) := by decide +kernel
theorem dX5_launch_1 : decode cX5_launch 1 = .ok (.getfield 19, 3) := by decide +kernel
theorem dX5_launch_4 : decode cX5_launch 4 = .ok (.aload_n 0, 1) := by decide +kernel
theorem dX5_launch_5 : decode cX5_launch 5 = .ok (.getfield 10, 3) := by decide +kernel
theorem dX5_launch_8 : decode cX5_launch 8 = .ok (.invokevirtual 40, 3) := by decide +kernel
theorem dX5_launch_11 : decode cX5_launch 11 = .ok (.aload_n 0, 1) := by decide +kernel
theorem dX5_launch_12 : decode cX5_launch 12 = .ok (.aload_n 0, 1) := by decide +kernel
theorem dX5_launch_13 : decode cX5_launch 13 = .ok (.getfield 10, 3) := by decide +kernel
theorem dX5_launch_16 : decode cX5_launch 16 = .ok (.iload_n 1, 1) := by decide +kernel
theorem dX5_launch_17 : decode cX5_launch 17 = .ok (.invokevirtual 80, 3) := by decide +kernel
theorem dX5_launch_20 : decode cX5_launch 20 = .ok (.invokevirtual 48, 3) := by decide +kernel
theorem dX5_launch_23 : decode cX5_launch 23 = .ok (.ireturn, 1) := by decide +kernel
theorem dX5_drop_0 : decode cX5_drop 0 = .ok (.aload_n 0, 1) := by decide +kernel
theorem dX5_drop_1 : decode cX5_drop 1 = .ok (.getfield 19, 3) := by decide +kernel
theorem dX5_drop_4 : decode cX5_drop 4 = .ok (.aload_n 0, 1) := by decide +kernel
theorem dX5_drop_5 : decode cX5_drop 5 = .ok (.getfield 10, 3) := by decide +kernel
theorem dX5_drop_8 : decode cX5_drop 8 = .ok (.invokevirtual 40, 3) := by decide +kernel
theorem dX5_drop_11 : decode cX5_drop 11 = .ok (.aload_n 0, 1) := by decide +kernel
theorem dX5_drop_12 : decode cX5_drop 12 = .ok (.aload_n 0, 1) := by decide +kernel
theorem dX5_drop_13 : decode cX5_drop 13 = .ok (.getfield 10, 3) := by decide +kernel
theorem dX5_drop_16 : decode cX5_drop 16 = .ok (.iload_n 1, 1) := by decide +kernel
theorem dX5_drop_17 : decode cX5_drop 17 = .ok (.iload_n 2, 1) := by decide +kernel
theorem dX5_drop_18 : decode cX5_drop 18 = .ok (.invokevirtual 83, 3) := by decide +kernel
theorem dX5_drop_21 : decode cX5_drop 21 = .ok (.invokevirtual 48, 3) := by decide +kernel
theorem dX5_drop_24 : decode cX5_drop 24 = .ok (.ireturn, 1) := by decide +kernel
theorem dX5_pass_0 : decode cX5_pass 0 = .ok (.aload_n 0, 1) := by decide +kernel
theorem dX5_pass_1 : decode cX5_pass 1 = .ok (.getfield 19, 3) := by decide +kernel
theorem dX5_pass_4 : decode cX5_pass 4 = .ok (.aload_n 0, 1) := by decide +kernel
theorem dX5_pass_5 : decode cX5_pass 5 = .ok (.getfield 10, 3) := by decide +kernel
theorem dX5_pass_8 : decode cX5_pass 8 = .ok (.invokevirtual 40, 3) := by decide +kernel
theorem dX5_pass_11 : decode cX5_pass 11 = .ok (.aload_n 0, 1) := by decide +kernel
theorem dX5_pass_12 : decode cX5_pass 12 = .ok (.aload_n 0, 1) := by decide +kernel
theorem dX5_pass_13 : decode cX5_pass 13 = .ok (.getfield 10, 3) := by decide +kernel
theorem dX5_pass_16 : decode cX5_pass 16 = .ok (.iload_n 1, 1) := by decide +kernel
theorem dX5_pass_17 : decode cX5_pass 17 = .ok (.invokevirtual 86, 3) := by decide +kernel
theorem dX5_pass_20 : decode cX5_pass 20 = .ok (.invokevirtual 48, 3) := by decide +kernel
theorem dX5_pass_23 : decode cX5_pass 23 = .ok (.ireturn, 1) := by decide +kernel
theorem dX5_balloonOf_0 : decode cX5_balloonOf 0 = .ok (.aload_n 0, 1) := by decide +kernel
theorem dX5_balloonOf_1 : decode cX5_balloonOf 1 = .ok (.iload_n 1, 1) := by decide +kernel
theorem dX5_balloonOf_2 : decode cX5_balloonOf 2 = .ok (.invokevirtual 89, 3) := by decide +kernel
theorem dX5_balloonOf_5 : decode cX5_balloonOf 5 = .ok (.iload_n 2, 1) := by decide +kernel
theorem dX5_balloonOf_6 : decode cX5_balloonOf 6 = .ok (.iconst 0, 1) := by decide +kernel
theorem dX5_balloonOf_7 : decode cX5_balloonOf 7 = .ok (.bipush 11, 2) := by decide +kernel
theorem dX5_balloonOf_9 : decode cX5_balloonOf 9 = .ok (.invokestatic 93, 3) := by decide +kernel
theorem dX5_balloonOf_12 : decode cX5_balloonOf 12 = .ok (.ifCond .ne 13, 3) := by decide +kernel
theorem dX5_balloonOf_15 : decode cX5_balloonOf 15 = .ok (.new 97, 3) := by decide +kernel
theorem dX5_balloonOf_18 : decode cX5_balloonOf 18 = .ok (.dup, 1) := by decide +kernel
theorem dX5_balloonOf_19 : decode cX5_balloonOf 19 = .ok (.ldc 99, 2) := by decide +kernel
theorem dX5_balloonOf_21 : decode cX5_balloonOf 21 = .ok (.invokespecial 101, 3) := by decide +kernel
theorem dX5_balloonOf_24 : decode cX5_balloonOf 24 = .ok (.athrow, 1) := by decide +kernel
theorem dX5_balloonOf_25 : decode cX5_balloonOf 25 = .ok (.aload_n 0, 1) := by decide +kernel
theorem dX5_balloonOf_26 : decode cX5_balloonOf 26 = .ok (.getfield 10, 3) := by decide +kernel
theorem dX5_balloonOf_29 : decode cX5_balloonOf 29 = .ok (.getfield 104, 3) := by decide +kernel
theorem dX5_balloonOf_32 : decode cX5_balloonOf 32 = .ok (.iload_n 1, 1) := by decide +kernel
theorem dX5_balloonOf_33 : decode cX5_balloonOf 33 = .ok (.aaload, 1) := by decide +kernel
theorem dX5_balloonOf_34 : decode cX5_balloonOf 34 = .ok (.iload_n 2, 1) := by decide +kernel
theorem dX5_balloonOf_35 : decode cX5_balloonOf 35 = .ok (.invokevirtual 108, 3) := by decide +kernel
theorem dX5_balloonOf_38 : decode cX5_balloonOf 38 = .ok (.ireturn, 1) := by decide +kernel
theorem dX5_letterOf_0 : decode cX5_letterOf 0 = .ok (.aload_n 0, 1) := by decide +kernel
theorem dX5_letterOf_1 : decode cX5_letterOf 1 = .ok (.getfield 10, 3) := by decide +kernel
theorem dX5_letterOf_4 : decode cX5_letterOf 4 = .ok (.iload_n 1, 1) := by decide +kernel
theorem dX5_letterOf_5 : decode cX5_letterOf 5 = .ok (.invokevirtual 111, 3) := by decide +kernel
theorem dX5_letterOf_8 : decode cX5_letterOf 8 = .ok (.ifCond .ne 13, 3) := by decide +kernel
theorem dX5_letterOf_11 : decode cX5_letterOf 11 = .ok (.new 115, 3) := by decide +kernel
theorem dX5_letterOf_14 : decode cX5_letterOf 14 = .ok (.dup, 1) := by decide +kernel
theorem dX5_letterOf_15 : decode cX5_letterOf 15 = .ok (.ldc 117, 2) := by decide +kernel
theorem dX5_letterOf_17 : decode cX5_letterOf 17 = .ok (.invokespecial 119, 3) := by decide +kernel
theorem dX5_letterOf_20 : decode cX5_letterOf 20 = .ok (.athrow, 1) := by decide +kernel
theorem dX5_letterOf_21 : decode cX5_letterOf 21 = .ok (.iload_n 2, 1) := by decide +kernel
theorem dX5_letterOf_22 : decode cX5_letterOf 22 = .ok (.iconst 0, 1) := by decide +kernel
theorem dX5_letterOf_23 : decode cX5_letterOf 23 = .ok (.iconst 3, 1) := by decide +kernel
theorem dX5_letterOf_24 : decode cX5_letterOf 24 = .ok (.invokestatic 93, 3) := by decide +kernel
theorem dX5_letterOf_27 : decode cX5_letterOf 27 = .ok (.ifCond .ne 13, 3) := by decide +kernel
theorem dX5_letterOf_30 : decode cX5_letterOf 30 = .ok (.new 97, 3) := by decide +kernel
theorem dX5_letterOf_33 : decode cX5_letterOf 33 = .ok (.dup, 1) := by decide +kernel
theorem dX5_letterOf_34 : decode cX5_letterOf 34 = .ok (.ldc 120, 2) := by decide +kernel
theorem dX5_letterOf_36 : decode cX5_letterOf 36 = .ok (.invokespecial 101, 3) := by decide +kernel
theorem dX5_letterOf_39 : decode cX5_letterOf 39 = .ok (.athrow, 1) := by decide +kernel
theorem dX5_letterOf_40 : decode cX5_letterOf 40 = .ok (.aload_n 0, 1) := by decide +kernel
theorem dX5_letterOf_41 : decode cX5_letterOf 41 = .ok (.getfield 10, 3) := by decide +kernel
theorem dX5_letterOf_44 : decode cX5_letterOf 44 = .ok (.iload_n 1, 1) := by decide +kernel
theorem dX5_letterOf_45 : decode cX5_letterOf 45 = .ok (.iload_n 2, 1) := by decide +kernel
theorem dX5_letterOf_46 : decode cX5_letterOf 46 = .ok (.invokevirtual 122, 3) := by decide +kernel
theorem dX5_letterOf_49 : decode cX5_letterOf 49 = .ok (.ireturn, 1) := by decide +kernel
theorem dX5_weightAgain_0 : decode cX5_weightAgain 0 = .ok (.aload_n 0, 1) := by decide +kernel
theorem dX5_weightAgain_1 : decode cX5_weightAgain 1 = .ok (.iload_n 1, 1) := by decide +kernel
theorem dX5_weightAgain_2 : decode cX5_weightAgain 2 = .ok (.invokevirtual 89, 3) := by decide +kernel
theorem dX5_weightAgain_5 : decode cX5_weightAgain 5 = .ok (.aload_n 0, 1) := by decide +kernel
theorem dX5_weightAgain_6 : decode cX5_weightAgain 6 = .ok (.getfield 10, 3) := by decide +kernel
theorem dX5_weightAgain_9 : decode cX5_weightAgain 9 = .ok (.iload_n 1, 1) := by decide +kernel
theorem dX5_weightAgain_10 : decode cX5_weightAgain 10 = .ok (.invokevirtual 125, 3) := by decide +kernel
theorem dX5_weightAgain_13 : decode cX5_weightAgain 13 = .ok (.ireturn, 1) := by decide +kernel
theorem dX5_waiting_0 : decode cX5_waiting 0 = .ok (.aload_n 0, 1) := by decide +kernel
theorem dX5_waiting_1 : decode cX5_waiting 1 = .ok (.getfield 10, 3) := by decide +kernel
theorem dX5_waiting_4 : decode cX5_waiting 4 = .ok (.iload_n 1, 1) := by decide +kernel
theorem dX5_waiting_5 : decode cX5_waiting 5 = .ok (.invokevirtual 128, 3) := by decide +kernel
theorem dX5_waiting_8 : decode cX5_waiting 8 = .ok (.istore_n 2, 1) := by decide +kernel
theorem dX5_waiting_9 : decode cX5_waiting 9 = .ok (.iload_n 2, 1) := by decide +kernel
theorem dX5_waiting_10 : decode cX5_waiting 10 = .ok (.ifCond .ge 13, 3) := by decide +kernel
theorem dX5_waiting_13 : decode cX5_waiting 13 = .ok (.new 131, 3) := by decide +kernel
theorem dX5_waiting_16 : decode cX5_waiting 16 = .ok (.dup, 1) := by decide +kernel
theorem dX5_waiting_17 : decode cX5_waiting 17 = .ok (.ldc 133, 2) := by decide +kernel
theorem dX5_waiting_19 : decode cX5_waiting 19 = .ok (.invokespecial 135, 3) := by decide +kernel
theorem dX5_waiting_22 : decode cX5_waiting 22 = .ok (.athrow, 1) := by decide +kernel
theorem dX5_waiting_23 : decode cX5_waiting 23 = .ok (.iload_n 2, 1) := by decide +kernel
theorem dX5_waiting_24 : decode cX5_waiting 24 = .ok (.ireturn, 1) := by decide +kernel
theorem dX5_word_0 : decode cX5_word 0 = .ok (.aload_n 0, 1) := by decide +kernel
theorem dX5_word_1 : decode cX5_word 1 = .ok (.iload_n 1, 1) := by decide +kernel
theorem dX5_word_2 : decode cX5_word 2 = .ok (.invokevirtual 89, 3) := by decide +kernel
theorem dX5_word_5 : decode cX5_word 5 = .ok (.aload_n 0, 1) := by decide +kernel
theorem dX5_word_6 : decode cX5_word 6 = .ok (.getfield 10, 3) := by decide +kernel
theorem dX5_word_9 : decode cX5_word 9 = .ok (.getfield 104, 3) := by decide +kernel
theorem dX5_word_12 : decode cX5_word 12 = .ok (.iload_n 1, 1) := by decide +kernel
theorem dX5_word_13 : decode cX5_word 13 = .ok (.aaload, 1) := by decide +kernel
theorem dX5_word_14 : decode cX5_word 14 = .ok (.invokevirtual 136, 3) := by decide +kernel
theorem dX5_word_17 : decode cX5_word 17 = .ok (.ifCond .ne 13, 3) := by decide +kernel
theorem dX5_word_20 : decode cX5_word 20 = .ok (.new 131, 3) := by decide +kernel
theorem dX5_word_23 : decode cX5_word 23 = .ok (.dup, 1) := by decide +kernel
theorem dX5_word_24 : decode cX5_word 24 = .ok (.ldc 140, 2) := by decide +kernel
theorem dX5_word_26 : decode cX5_word 26 = .ok (.invokespecial 135, 3) := by decide +kernel
theorem dX5_word_29 : decode cX5_word 29 = .ok (.athrow, 1) := by decide +kernel
theorem dX5_word_30 : decode cX5_word 30 = .ok (.aload_n 0, 1) := by decide +kernel
theorem dX5_word_31 : decode cX5_word 31 = .ok (.getfield 10, 3) := by decide +kernel
theorem dX5_word_34 : decode cX5_word 34 = .ok (.getfield 104, 3) := by decide +kernel
theorem dX5_word_37 : decode cX5_word 37 = .ok (.iload_n 1, 1) := by decide +kernel
theorem dX5_word_38 : decode cX5_word 38 = .ok (.aaload, 1) := by decide +kernel
theorem dX5_word_39 : decode cX5_word 39 = .ok (.getfield 142, 3) := by decide +kernel
theorem dX5_word_42 : decode cX5_word 42 = .ok (.ireturn, 1) := by decide +kernel
theorem dX5_sign_0 : decode cX5_sign 0 = .ok (.aload_n 0, 1) := by decide +kernel
theorem dX5_sign_1 : decode cX5_sign 1 = .ok (.iload_n 1, 1) := by decide +kernel
theorem dX5_sign_2 : decode cX5_sign 2 = .ok (.invokevirtual 89, 3) := by decide +kernel
theorem dX5_sign_5 : decode cX5_sign 5 = .ok (.aload_n 0, 1) := by decide +kernel
theorem dX5_sign_6 : decode cX5_sign 6 = .ok (.getfield 10, 3) := by decide +kernel
theorem dX5_sign_9 : decode cX5_sign 9 = .ok (.getfield 104, 3) := by decide +kernel
theorem dX5_sign_12 : decode cX5_sign 12 = .ok (.iload_n 1, 1) := by decide +kernel
theorem dX5_sign_13 : decode cX5_sign 13 = .ok (.aaload, 1) := by decide +kernel
theorem dX5_sign_14 : decode cX5_sign 14 = .ok (.getfield 146, 3) := by decide +kernel
theorem dX5_sign_17 : decode cX5_sign 17 = .ok (.tableswitch 36 0 2 #[27, 30, 33], 27) := by decide +kernel
theorem dX5_sign_44 : decode cX5_sign 44 = .ok (.bipush 116, 2) := by decide +kernel
theorem dX5_sign_46 : decode cX5_sign 46 = .ok (.ireturn, 1) := by decide +kernel
theorem dX5_sign_47 : decode cX5_sign 47 = .ok (.bipush 97, 2) := by decide +kernel
theorem dX5_sign_49 : decode cX5_sign 49 = .ok (.ireturn, 1) := by decide +kernel
theorem dX5_sign_50 : decode cX5_sign 50 = .ok (.bipush 108, 2) := by decide +kernel
theorem dX5_sign_52 : decode cX5_sign 52 = .ok (.ireturn, 1) := by decide +kernel
theorem dX5_sign_53 : decode cX5_sign 53 = .ok (.bipush 120, 2) := by decide +kernel
theorem dX5_sign_55 : decode cX5_sign 55 = .ok (.ireturn, 1) := by decide +kernel
theorem dX5_isWithin_0 : decode cX5_isWithin 0 = .ok (.iload_n 1, 1) := by decide +kernel
theorem dX5_isWithin_1 : decode cX5_isWithin 1 = .ok (.iload_n 2, 1) := by decide +kernel
theorem dX5_isWithin_2 : decode cX5_isWithin 2 = .ok (.invokestatic 149, 3) := by decide +kernel
theorem dX5_isWithin_5 : decode cX5_isWithin 5 = .ok (.ifCond .ne 13, 3) := by decide +kernel
theorem dX5_isWithin_8 : decode cX5_isWithin 8 = .ok (.new 115, 3) := by decide +kernel
theorem dX5_isWithin_11 : decode cX5_isWithin 11 = .ok (.dup, 1) := by decide +kernel
theorem dX5_isWithin_12 : decode cX5_isWithin 12 = .ok (.ldc 133, 2) := by decide +kernel
theorem dX5_isWithin_14 : decode cX5_isWithin 14 = .ok (.invokespecial 119, 3) := by decide +kernel
theorem dX5_isWithin_17 : decode cX5_isWithin 17 = .ok (.athrow, 1) := by decide +kernel
theorem dX5_isWithin_18 : decode cX5_isWithin 18 = .ok (.aload_n 0, 1) := by decide +kernel
theorem dX5_isWithin_19 : decode cX5_isWithin 19 = .ok (.getfield 10, 3) := by decide +kernel
theorem dX5_isWithin_22 : decode cX5_isWithin 22 = .ok (.iload_n 1, 1) := by decide +kernel
theorem dX5_isWithin_23 : decode cX5_isWithin 23 = .ok (.iload_n 2, 1) := by decide +kernel
theorem dX5_isWithin_24 : decode cX5_isWithin 24 = .ok (.invokevirtual 153, 3) := by decide +kernel
theorem dX5_isWithin_27 : decode cX5_isWithin 27 = .ok (.ireturn, 1) := by decide +kernel
theorem dX5_endsIn_0 : decode cX5_endsIn 0 = .ok (.aload_n 0, 1) := by decide +kernel
theorem dX5_endsIn_1 : decode cX5_endsIn 1 = .ok (.iload_n 1, 1) := by decide +kernel
theorem dX5_endsIn_2 : decode cX5_endsIn 2 = .ok (.invokevirtual 89, 3) := by decide +kernel
theorem dX5_endsIn_5 : decode cX5_endsIn 5 = .ok (.aload_n 0, 1) := by decide +kernel
theorem dX5_endsIn_6 : decode cX5_endsIn 6 = .ok (.iload_n 1, 1) := by decide +kernel
theorem dX5_endsIn_7 : decode cX5_endsIn 7 = .ok (.invokevirtual 156, 3) := by decide +kernel
theorem dX5_endsIn_10 : decode cX5_endsIn 10 = .ok (.aload_n 0, 1) := by decide +kernel
theorem dX5_endsIn_11 : decode cX5_endsIn 11 = .ok (.getfield 10, 3) := by decide +kernel
theorem dX5_endsIn_14 : decode cX5_endsIn 14 = .ok (.iload_n 1, 1) := by decide +kernel
theorem dX5_endsIn_15 : decode cX5_endsIn 15 = .ok (.iconst 0, 1) := by decide +kernel
theorem dX5_endsIn_16 : decode cX5_endsIn 16 = .ok (.aload_n 0, 1) := by decide +kernel
theorem dX5_endsIn_17 : decode cX5_endsIn 17 = .ok (.getfield 29, 3) := by decide +kernel
theorem dX5_endsIn_20 : decode cX5_endsIn 20 = .ok (.invokevirtual 159, 3) := by decide +kernel
theorem dX5_endsIn_23 : decode cX5_endsIn 23 = .ok (.aload_n 0, 1) := by decide +kernel
theorem dX5_endsIn_24 : decode cX5_endsIn 24 = .ok (.getfield 29, 3) := by decide +kernel
theorem dX5_endsIn_27 : decode cX5_endsIn 27 = .ok (.getfield 163, 3) := by decide +kernel
theorem dX5_endsIn_30 : decode cX5_endsIn 30 = .ok (.aload_n 0, 1) := by decide +kernel
theorem dX5_endsIn_31 : decode cX5_endsIn 31 = .ok (.getfield 10, 3) := by decide +kernel
theorem dX5_endsIn_34 : decode cX5_endsIn 34 = .ok (.getfield 104, 3) := by decide +kernel
theorem dX5_endsIn_37 : decode cX5_endsIn 37 = .ok (.iload_n 1, 1) := by decide +kernel
theorem dX5_endsIn_38 : decode cX5_endsIn 38 = .ok (.aaload, 1) := by decide +kernel
theorem dX5_endsIn_39 : decode cX5_endsIn 39 = .ok (.getfield 163, 3) := by decide +kernel
theorem dX5_endsIn_42 : decode cX5_endsIn 42 = .ok (.isub, 1) := by decide +kernel
theorem dX5_endsIn_43 : decode cX5_endsIn 43 = .ok (.ireturn, 1) := by decide +kernel
theorem dX5_ends_0 : decode cX5_ends 0 = .ok (.aload_n 0, 1) := by decide +kernel
theorem dX5_ends_1 : decode cX5_ends 1 = .ok (.iload_n 1, 1) := by decide +kernel
theorem dX5_ends_2 : decode cX5_ends 2 = .ok (.invokevirtual 89, 3) := by decide +kernel
theorem dX5_ends_5 : decode cX5_ends 5 = .ok (.iload_n 2, 1) := by decide +kernel
theorem dX5_ends_6 : decode cX5_ends 6 = .ok (.iconst 0, 1) := by decide +kernel
theorem dX5_ends_7 : decode cX5_ends 7 = .ok (.iconst 2, 1) := by decide +kernel
theorem dX5_ends_8 : decode cX5_ends 8 = .ok (.invokestatic 93, 3) := by decide +kernel
theorem dX5_ends_11 : decode cX5_ends 11 = .ok (.ifCond .ne 13, 3) := by decide +kernel
theorem dX5_ends_14 : decode cX5_ends 14 = .ok (.new 97, 3) := by decide +kernel
theorem dX5_ends_17 : decode cX5_ends 17 = .ok (.dup, 1) := by decide +kernel
theorem dX5_ends_18 : decode cX5_ends 18 = .ok (.ldc 166, 2) := by decide +kernel
theorem dX5_ends_20 : decode cX5_ends 20 = .ok (.invokespecial 101, 3) := by decide +kernel
theorem dX5_ends_23 : decode cX5_ends 23 = .ok (.athrow, 1) := by decide +kernel
theorem dX5_ends_24 : decode cX5_ends 24 = .ok (.aload_n 0, 1) := by decide +kernel
theorem dX5_ends_25 : decode cX5_ends 25 = .ok (.iload_n 1, 1) := by decide +kernel
theorem dX5_ends_26 : decode cX5_ends 26 = .ok (.invokevirtual 156, 3) := by decide +kernel
theorem dX5_ends_29 : decode cX5_ends 29 = .ok (.aload_n 0, 1) := by decide +kernel
theorem dX5_ends_30 : decode cX5_ends 30 = .ok (.getfield 10, 3) := by decide +kernel
theorem dX5_ends_33 : decode cX5_ends 33 = .ok (.iload_n 1, 1) := by decide +kernel
theorem dX5_ends_34 : decode cX5_ends 34 = .ok (.iconst 0, 1) := by decide +kernel
theorem dX5_ends_35 : decode cX5_ends 35 = .ok (.aload_n 0, 1) := by decide +kernel
theorem dX5_ends_36 : decode cX5_ends 36 = .ok (.getfield 29, 3) := by decide +kernel
theorem dX5_ends_39 : decode cX5_ends 39 = .ok (.invokevirtual 159, 3) := by decide +kernel
theorem dX5_ends_42 : decode cX5_ends 42 = .ok (.iload_n 2, 1) := by decide +kernel
theorem dX5_ends_43 : decode cX5_ends 43 = .ok (.lookupswitch 41 #[(0, 25), (1, 33)], 25) := by decide +kernel
theorem dX5_ends_68 : decode cX5_ends 68 = .ok (.aload_n 0, 1) := by decide +kernel
theorem dX5_ends_69 : decode cX5_ends 69 = .ok (.getfield 29, 3) := by decide +kernel
theorem dX5_ends_72 : decode cX5_ends 72 = .ok (.getfield 168, 3) := by decide +kernel
theorem dX5_ends_75 : decode cX5_ends 75 = .ok (.ireturn, 1) := by decide +kernel
theorem dX5_ends_76 : decode cX5_ends 76 = .ok (.aload_n 0, 1) := by decide +kernel
theorem dX5_ends_77 : decode cX5_ends 77 = .ok (.getfield 29, 3) := by decide +kernel
theorem dX5_ends_80 : decode cX5_ends 80 = .ok (.getfield 171, 3) := by decide +kernel
theorem dX5_ends_83 : decode cX5_ends 83 = .ok (.ireturn, 1) := by decide +kernel
theorem dX5_ends_84 : decode cX5_ends 84 = .ok (.aload_n 0, 1) := by decide +kernel
theorem dX5_ends_85 : decode cX5_ends 85 = .ok (.getfield 29, 3) := by decide +kernel
theorem dX5_ends_88 : decode cX5_ends 88 = .ok (.getfield 146, 3) := by decide +kernel
theorem dX5_ends_91 : decode cX5_ends 91 = .ok (.ireturn, 1) := by decide +kernel
theorem dX5_bestDrop_0 : decode cX5_bestDrop 0 = .ok (.aload_n 0, 1) := by decide +kernel
theorem dX5_bestDrop_1 : decode cX5_bestDrop 1 = .ok (.iload_n 1, 1) := by decide +kernel
theorem dX5_bestDrop_2 : decode cX5_bestDrop 2 = .ok (.invokevirtual 89, 3) := by decide +kernel
theorem dX5_bestDrop_5 : decode cX5_bestDrop 5 = .ok (.aload_n 0, 1) := by decide +kernel
theorem dX5_bestDrop_6 : decode cX5_bestDrop 6 = .ok (.iload_n 1, 1) := by decide +kernel
theorem dX5_bestDrop_7 : decode cX5_bestDrop 7 = .ok (.invokevirtual 156, 3) := by decide +kernel
theorem dX5_bestDrop_10 : decode cX5_bestDrop 10 = .ok (.iconst (-1), 1) := by decide +kernel
theorem dX5_bestDrop_11 : decode cX5_bestDrop 11 = .ok (.istore_n 2, 1) := by decide +kernel
theorem dX5_bestDrop_12 : decode cX5_bestDrop 12 = .ok (.iconst (-1), 1) := by decide +kernel
theorem dX5_bestDrop_13 : decode cX5_bestDrop 13 = .ok (.istore_n 3, 1) := by decide +kernel
theorem dX5_bestDrop_14 : decode cX5_bestDrop 14 = .ok (.iconst 0, 1) := by decide +kernel
theorem dX5_bestDrop_15 : decode cX5_bestDrop 15 = .ok (.istore 4, 2) := by decide +kernel
theorem dX5_bestDrop_17 : decode cX5_bestDrop 17 = .ok (.iload 4, 2) := by decide +kernel
theorem dX5_bestDrop_19 : decode cX5_bestDrop 19 = .ok (.aload_n 0, 1) := by decide +kernel
theorem dX5_bestDrop_20 : decode cX5_bestDrop 20 = .ok (.getfield 10, 3) := by decide +kernel
theorem dX5_bestDrop_23 : decode cX5_bestDrop 23 = .ok (.getfield 104, 3) := by decide +kernel
theorem dX5_bestDrop_26 : decode cX5_bestDrop 26 = .ok (.iload_n 1, 1) := by decide +kernel
theorem dX5_bestDrop_27 : decode cX5_bestDrop 27 = .ok (.aaload, 1) := by decide +kernel
theorem dX5_bestDrop_28 : decode cX5_bestDrop 28 = .ok (.getfield 174, 3) := by decide +kernel
theorem dX5_bestDrop_31 : decode cX5_bestDrop 31 = .ok (.if_icmp .gt 56, 3) := by decide +kernel
theorem dX5_bestDrop_34 : decode cX5_bestDrop 34 = .ok (.aload_n 0, 1) := by decide +kernel
theorem dX5_bestDrop_35 : decode cX5_bestDrop 35 = .ok (.getfield 10, 3) := by decide +kernel
theorem dX5_bestDrop_38 : decode cX5_bestDrop 38 = .ok (.iload_n 1, 1) := by decide +kernel
theorem dX5_bestDrop_39 : decode cX5_bestDrop 39 = .ok (.iload 4, 2) := by decide +kernel
theorem dX5_bestDrop_41 : decode cX5_bestDrop 41 = .ok (.aload_n 0, 1) := by decide +kernel
theorem dX5_bestDrop_42 : decode cX5_bestDrop 42 = .ok (.getfield 29, 3) := by decide +kernel
theorem dX5_bestDrop_45 : decode cX5_bestDrop 45 = .ok (.invokevirtual 159, 3) := by decide +kernel
theorem dX5_bestDrop_48 : decode cX5_bestDrop 48 = .ok (.aload_n 0, 1) := by decide +kernel
theorem dX5_bestDrop_49 : decode cX5_bestDrop 49 = .ok (.getfield 29, 3) := by decide +kernel
theorem dX5_bestDrop_52 : decode cX5_bestDrop 52 = .ok (.getfield 146, 3) := by decide +kernel
theorem dX5_bestDrop_55 : decode cX5_bestDrop 55 = .ok (.iconst 2, 1) := by decide +kernel
theorem dX5_bestDrop_56 : decode cX5_bestDrop 56 = .ok (.if_icmp .ne 25, 3) := by decide +kernel
theorem dX5_bestDrop_59 : decode cX5_bestDrop 59 = .ok (.aload_n 0, 1) := by decide +kernel
theorem dX5_bestDrop_60 : decode cX5_bestDrop 60 = .ok (.getfield 29, 3) := by decide +kernel
theorem dX5_bestDrop_63 : decode cX5_bestDrop 63 = .ok (.invokevirtual 177, 3) := by decide +kernel
theorem dX5_bestDrop_66 : decode cX5_bestDrop 66 = .ok (.iload_n 3, 1) := by decide +kernel
theorem dX5_bestDrop_67 : decode cX5_bestDrop 67 = .ok (.if_icmp .le 14, 3) := by decide +kernel
theorem dX5_bestDrop_70 : decode cX5_bestDrop 70 = .ok (.iload 4, 2) := by decide +kernel
theorem dX5_bestDrop_72 : decode cX5_bestDrop 72 = .ok (.istore_n 2, 1) := by decide +kernel
theorem dX5_bestDrop_73 : decode cX5_bestDrop 73 = .ok (.aload_n 0, 1) := by decide +kernel
theorem dX5_bestDrop_74 : decode cX5_bestDrop 74 = .ok (.getfield 29, 3) := by decide +kernel
theorem dX5_bestDrop_77 : decode cX5_bestDrop 77 = .ok (.invokevirtual 177, 3) := by decide +kernel
theorem dX5_bestDrop_80 : decode cX5_bestDrop 80 = .ok (.istore_n 3, 1) := by decide +kernel
theorem dX5_bestDrop_81 : decode cX5_bestDrop 81 = .ok (.iinc 4 1, 3) := by decide +kernel
theorem dX5_bestDrop_84 : decode cX5_bestDrop 84 = .ok (.goto (-67), 3) := by decide +kernel
theorem dX5_bestDrop_87 : decode cX5_bestDrop 87 = .ok (.iload_n 2, 1) := by decide +kernel
theorem dX5_bestDrop_88 : decode cX5_bestDrop 88 = .ok (.ifCond .ge 13, 3) := by decide +kernel
theorem dX5_bestDrop_91 : decode cX5_bestDrop 91 = .ok (.new 131, 3) := by decide +kernel
theorem dX5_bestDrop_94 : decode cX5_bestDrop 94 = .ok (.dup, 1) := by decide +kernel
theorem dX5_bestDrop_95 : decode cX5_bestDrop 95 = .ok (.ldc 181, 2) := by decide +kernel
theorem dX5_bestDrop_97 : decode cX5_bestDrop 97 = .ok (.invokespecial 135, 3) := by decide +kernel
theorem dX5_bestDrop_100 : decode cX5_bestDrop 100 = .ok (.athrow, 1) := by decide +kernel
theorem dX5_bestDrop_101 : decode cX5_bestDrop 101 = .ok (.iload_n 2, 1) := by decide +kernel
theorem dX5_bestDrop_102 : decode cX5_bestDrop 102 = .ok (.ireturn, 1) := by decide +kernel
theorem dX5_append_0 : decode cX5_append 0 = .ok (.aload_n 0, 1) := by decide +kernel
theorem dX5_append_1 : decode cX5_append 1 = .ok (.getfield 36, 3) := by decide +kernel
theorem dX5_append_4 : decode cX5_append 4 = .ok (.iload_n 1, 1) := by decide +kernel
theorem dX5_append_5 : decode cX5_append 5 = .ok (.invokevirtual 183, 3) := by decide +kernel
theorem dX5_append_8 : decode cX5_append 8 = .ok (.ifCond .ne 13, 3) := by decide +kernel
theorem dX5_append_11 : decode cX5_append 11 = .ok (.new 187, 3) := by decide +kernel
theorem dX5_append_14 : decode cX5_append 14 = .ok (.dup, 1) := by decide +kernel
theorem dX5_append_15 : decode cX5_append 15 = .ok (.ldc 189, 2) := by decide +kernel
theorem dX5_append_17 : decode cX5_append 17 = .ok (.invokespecial 191, 3) := by decide +kernel
theorem dX5_append_20 : decode cX5_append 20 = .ok (.athrow, 1) := by decide +kernel
theorem dX5_append_21 : decode cX5_append 21 = .ok (.aload_n 0, 1) := by decide +kernel
theorem dX5_append_22 : decode cX5_append 22 = .ok (.getfield 36, 3) := by decide +kernel
theorem dX5_append_25 : decode cX5_append 25 = .ok (.getfield 192, 3) := by decide +kernel
theorem dX5_append_28 : decode cX5_append 28 = .ok (.ireturn, 1) := by decide +kernel
theorem dX5_read_0 : decode cX5_read 0 = .ok (.aload_n 0, 1) := by decide +kernel
theorem dX5_read_1 : decode cX5_read 1 = .ok (.getfield 36, 3) := by decide +kernel
theorem dX5_read_4 : decode cX5_read 4 = .ok (.invokevirtual 195, 3) := by decide +kernel
theorem dX5_read_7 : decode cX5_read 7 = .ok (.ifCond .ne 13, 3) := by decide +kernel
theorem dX5_read_10 : decode cX5_read 10 = .ok (.new 97, 3) := by decide +kernel
theorem dX5_read_13 : decode cX5_read 13 = .ok (.dup, 1) := by decide +kernel
theorem dX5_read_14 : decode cX5_read 14 = .ok (.ldc 198, 2) := by decide +kernel
theorem dX5_read_16 : decode cX5_read 16 = .ok (.invokespecial 101, 3) := by decide +kernel
theorem dX5_read_19 : decode cX5_read 19 = .ok (.athrow, 1) := by decide +kernel
theorem dX5_read_20 : decode cX5_read 20 = .ok (.aload_n 0, 1) := by decide +kernel
theorem dX5_read_21 : decode cX5_read 21 = .ok (.getfield 19, 3) := by decide +kernel
theorem dX5_read_24 : decode cX5_read 24 = .ok (.aload_n 0, 1) := by decide +kernel
theorem dX5_read_25 : decode cX5_read 25 = .ok (.getfield 10, 3) := by decide +kernel
theorem dX5_read_28 : decode cX5_read 28 = .ok (.invokevirtual 40, 3) := by decide +kernel
theorem dX5_read_31 : decode cX5_read 31 = .ok (.iconst 0, 1) := by decide +kernel
theorem dX5_read_32 : decode cX5_read 32 = .ok (.istore_n 1, 1) := by decide +kernel
theorem dX5_read_33 : decode cX5_read 33 = .ok (.iload_n 1, 1) := by decide +kernel
theorem dX5_read_34 : decode cX5_read 34 = .ok (.aload_n 0, 1) := by decide +kernel
theorem dX5_read_35 : decode cX5_read 35 = .ok (.getfield 36, 3) := by decide +kernel
theorem dX5_read_38 : decode cX5_read 38 = .ok (.getfield 200, 3) := by decide +kernel
theorem dX5_read_41 : decode cX5_read 41 = .ok (.if_icmp .ge 51, 3) := by decide +kernel
theorem dX5_read_44 : decode cX5_read 44 = .ok (.aload_n 0, 1) := by decide +kernel
theorem dX5_read_45 : decode cX5_read 45 = .ok (.iload_n 1, 1) := by decide +kernel
theorem dX5_read_46 : decode cX5_read 46 = .ok (.invokevirtual 203, 3) := by decide +kernel
theorem dX5_read_49 : decode cX5_read 49 = .ok (.istore_n 2, 1) := by decide +kernel
theorem dX5_read_50 : decode cX5_read 50 = .ok (.iload_n 2, 1) := by decide +kernel
theorem dX5_read_51 : decode cX5_read 51 = .ok (.invokestatic 206, 3) := by decide +kernel
theorem dX5_read_54 : decode cX5_read 54 = .ok (.ifCond .eq 32, 3) := by decide +kernel
theorem dX5_read_57 : decode cX5_read 57 = .ok (.aload_n 0, 1) := by decide +kernel
theorem dX5_read_58 : decode cX5_read 58 = .ok (.getfield 19, 3) := by decide +kernel
theorem dX5_read_61 : decode cX5_read 61 = .ok (.aload_n 0, 1) := by decide +kernel
theorem dX5_read_62 : decode cX5_read 62 = .ok (.getfield 10, 3) := by decide +kernel
theorem dX5_read_65 : decode cX5_read 65 = .ok (.invokevirtual 209, 3) := by decide +kernel
theorem dX5_read_68 : decode cX5_read 68 = .ok (.aload_n 0, 1) := by decide +kernel
theorem dX5_read_69 : decode cX5_read 69 = .ok (.iload_n 2, 1) := by decide +kernel
theorem dX5_read_70 : decode cX5_read 70 = .ok (.bipush (-103), 2) := by decide +kernel
theorem dX5_read_72 : decode cX5_read 72 = .ok (.if_icmp .ne 8, 3) := by decide +kernel
theorem dX5_read_75 : decode cX5_read 75 = .ok (.bipush (-103), 2) := by decide +kernel
theorem dX5_read_77 : decode cX5_read 77 = .ok (.goto 5, 3) := by decide +kernel
theorem dX5_read_80 : decode cX5_read 80 = .ok (.bipush (-102), 2) := by decide +kernel
theorem dX5_read_82 : decode cX5_read 82 = .ok (.invokevirtual 48, 3) := by decide +kernel
theorem dX5_read_85 : decode cX5_read 85 = .ok (.ireturn, 1) := by decide +kernel
theorem dX5_read_86 : decode cX5_read 86 = .ok (.iinc 1 1, 3) := by decide +kernel
theorem dX5_read_89 : decode cX5_read 89 = .ok (.goto (-56), 3) := by decide +kernel
theorem dX5_read_92 : decode cX5_read 92 = .ok (.aload_n 0, 1) := by decide +kernel
theorem dX5_read_93 : decode cX5_read 93 = .ok (.aload_n 0, 1) := by decide +kernel
theorem dX5_read_94 : decode cX5_read 94 = .ok (.getfield 36, 3) := by decide +kernel
theorem dX5_read_97 : decode cX5_read 97 = .ok (.getfield 200, 3) := by decide +kernel
theorem dX5_read_100 : decode cX5_read 100 = .ok (.invokevirtual 48, 3) := by decide +kernel
theorem dX5_read_103 : decode cX5_read 103 = .ok (.ireturn, 1) := by decide +kernel
theorem dX5_errorPosition_0 : decode cX5_errorPosition 0 = .ok (.aload_n 0, 1) := by decide +kernel
theorem dX5_errorPosition_1 : decode cX5_errorPosition 1 = .ok (.getfield 36, 3) := by decide +kernel
theorem dX5_errorPosition_4 : decode cX5_errorPosition 4 = .ok (.getfield 212, 3) := by decide +kernel
theorem dX5_errorPosition_7 : decode cX5_errorPosition 7 = .ok (.ireturn, 1) := by decide +kernel
theorem dX5_refusal_0 : decode cX5_refusal 0 = .ok (.aload_n 0, 1) := by decide +kernel
theorem dX5_refusal_1 : decode cX5_refusal 1 = .ok (.getfield 10, 3) := by decide +kernel
theorem dX5_refusal_4 : decode cX5_refusal 4 = .ok (.getfield 215, 3) := by decide +kernel
theorem dX5_refusal_7 : decode cX5_refusal 7 = .ok (.ifCond .ne 13, 3) := by decide +kernel
theorem dX5_refusal_10 : decode cX5_refusal 10 = .ok (.new 131, 3) := by decide +kernel
theorem dX5_refusal_13 : decode cX5_refusal 13 = .ok (.dup, 1) := by decide +kernel
theorem dX5_refusal_14 : decode cX5_refusal 14 = .ok (.ldc 218, 2) := by decide +kernel
theorem dX5_refusal_16 : decode cX5_refusal 16 = .ok (.invokespecial 135, 3) := by decide +kernel
theorem dX5_refusal_19 : decode cX5_refusal 19 = .ok (.athrow, 1) := by decide +kernel
theorem dX5_refusal_20 : decode cX5_refusal 20 = .ok (.iload_n 1, 1) := by decide +kernel
theorem dX5_refusal_21 : decode cX5_refusal 21 = .ok (.ifCond .eq 13, 3) := by decide +kernel
theorem dX5_refusal_24 : decode cX5_refusal 24 = .ok (.aload_n 0, 1) := by decide +kernel
theorem dX5_refusal_25 : decode cX5_refusal 25 = .ok (.getfield 10, 3) := by decide +kernel
theorem dX5_refusal_28 : decode cX5_refusal 28 = .ok (.getfield 220, 3) := by decide +kernel
theorem dX5_refusal_31 : decode cX5_refusal 31 = .ok (.goto 10, 3) := by decide +kernel
theorem dX5_refusal_34 : decode cX5_refusal 34 = .ok (.aload_n 0, 1) := by decide +kernel
theorem dX5_refusal_35 : decode cX5_refusal 35 = .ok (.getfield 10, 3) := by decide +kernel
theorem dX5_refusal_38 : decode cX5_refusal 38 = .ok (.getfield 215, 3) := by decide +kernel
theorem dX5_refusal_41 : decode cX5_refusal 41 = .ok (.ireturn, 1) := by decide +kernel
theorem dX5_account_0 : decode cX5_account 0 = .ok (.iload_n 1, 1) := by decide +kernel
theorem dX5_account_1 : decode cX5_account 1 = .ok (.iconst 0, 1) := by decide +kernel
theorem dX5_account_2 : decode cX5_account 2 = .ok (.bipush 20, 2) := by decide +kernel
theorem dX5_account_4 : decode cX5_account 4 = .ok (.invokestatic 93, 3) := by decide +kernel
theorem dX5_account_7 : decode cX5_account 7 = .ok (.ifCond .ne 13, 3) := by decide +kernel
theorem dX5_account_10 : decode cX5_account 10 = .ok (.new 97, 3) := by decide +kernel
theorem dX5_account_13 : decode cX5_account 13 = .ok (.dup, 1) := by decide +kernel
theorem dX5_account_14 : decode cX5_account 14 = .ok (.ldc 223, 2) := by decide +kernel
theorem dX5_account_16 : decode cX5_account 16 = .ok (.invokespecial 101, 3) := by decide +kernel
theorem dX5_account_19 : decode cX5_account 19 = .ok (.athrow, 1) := by decide +kernel
theorem dX5_account_20 : decode cX5_account 20 = .ok (.iload_n 1, 1) := by decide +kernel
theorem dX5_account_21 : decode cX5_account 21 = .ok (.bipush 19, 2) := by decide +kernel
theorem dX5_account_23 : decode cX5_account 23 = .ok (.if_icmp .ne 11, 3) := by decide +kernel
theorem dX5_account_26 : decode cX5_account 26 = .ok (.aload_n 0, 1) := by decide +kernel
theorem dX5_account_27 : decode cX5_account 27 = .ok (.getfield 36, 3) := by decide +kernel
theorem dX5_account_30 : decode cX5_account 30 = .ok (.getfield 192, 3) := by decide +kernel
theorem dX5_account_33 : decode cX5_account 33 = .ok (.ireturn, 1) := by decide +kernel
theorem dX5_account_34 : decode cX5_account 34 = .ok (.iload_n 1, 1) := by decide +kernel
theorem dX5_account_35 : decode cX5_account 35 = .ok (.bipush 20, 2) := by decide +kernel
theorem dX5_account_37 : decode cX5_account 37 = .ok (.if_icmp .ne 11, 3) := by decide +kernel
theorem dX5_account_40 : decode cX5_account 40 = .ok (.aload_n 0, 1) := by decide +kernel
theorem dX5_account_41 : decode cX5_account 41 = .ok (.getfield 19, 3) := by decide +kernel
theorem dX5_account_44 : decode cX5_account 44 = .ok (.getfield 225, 3) := by decide +kernel
theorem dX5_account_47 : decode cX5_account 47 = .ok (.ireturn, 1) := by decide +kernel
theorem dX5_account_48 : decode cX5_account 48 = .ok (.aload_n 0, 1) := by decide +kernel
theorem dX5_account_49 : decode cX5_account 49 = .ok (.getfield 10, 3) := by decide +kernel
theorem dX5_account_52 : decode cX5_account 52 = .ok (.iload_n 1, 1) := by decide +kernel
theorem dX5_account_53 : decode cX5_account 53 = .ok (.invokevirtual 228, 3) := by decide +kernel
theorem dX5_account_56 : decode cX5_account 56 = .ok (.ireturn, 1) := by decide +kernel
theorem dX5_isWell_0 : decode cX5_isWell 0 = .ok (.aload_n 0, 1) := by decide +kernel
theorem dX5_isWell_1 : decode cX5_isWell 1 = .ok (.getfield 10, 3) := by decide +kernel
theorem dX5_isWell_4 : decode cX5_isWell 4 = .ok (.getfield 229, 3) := by decide +kernel
theorem dX5_isWell_7 : decode cX5_isWell 7 = .ok (.aload_n 0, 1) := by decide +kernel
theorem dX5_isWell_8 : decode cX5_isWell 8 = .ok (.getfield 10, 3) := by decide +kernel
theorem dX5_isWell_11 : decode cX5_isWell 11 = .ok (.getfield 232, 3) := by decide +kernel
theorem dX5_isWell_14 : decode cX5_isWell 14 = .ok (.aload_n 0, 1) := by decide +kernel
theorem dX5_isWell_15 : decode cX5_isWell 15 = .ok (.getfield 10, 3) := by decide +kernel
theorem dX5_isWell_18 : decode cX5_isWell 18 = .ok (.getfield 235, 3) := by decide +kernel
theorem dX5_isWell_21 : decode cX5_isWell 21 = .ok (.iadd, 1) := by decide +kernel
theorem dX5_isWell_22 : decode cX5_isWell 22 = .ok (.aload_n 0, 1) := by decide +kernel
theorem dX5_isWell_23 : decode cX5_isWell 23 = .ok (.getfield 10, 3) := by decide +kernel
theorem dX5_isWell_26 : decode cX5_isWell 26 = .ok (.getfield 238, 3) := by decide +kernel
theorem dX5_isWell_29 : decode cX5_isWell 29 = .ok (.iadd, 1) := by decide +kernel
theorem dX5_isWell_30 : decode cX5_isWell 30 = .ok (.aload_n 0, 1) := by decide +kernel
theorem dX5_isWell_31 : decode cX5_isWell 31 = .ok (.getfield 10, 3) := by decide +kernel
theorem dX5_isWell_34 : decode cX5_isWell 34 = .ok (.invokevirtual 241, 3) := by decide +kernel
theorem dX5_isWell_37 : decode cX5_isWell 37 = .ok (.iadd, 1) := by decide +kernel
theorem dX5_isWell_38 : decode cX5_isWell 38 = .ok (.if_icmp .ne 7, 3) := by decide +kernel
theorem dX5_isWell_41 : decode cX5_isWell 41 = .ok (.iconst 1, 1) := by decide +kernel
theorem dX5_isWell_42 : decode cX5_isWell 42 = .ok (.goto 4, 3) := by decide +kernel
theorem dX5_isWell_45 : decode cX5_isWell 45 = .ok (.iconst 0, 1) := by decide +kernel
theorem dX5_isWell_46 : decode cX5_isWell 46 = .ok (.ireturn, 1) := by decide +kernel
theorem dX5_meanDistance_0 : decode cX5_meanDistance 0 = .ok (.aload_n 0, 1) := by decide +kernel
theorem dX5_meanDistance_1 : decode cX5_meanDistance 1 = .ok (.getfield 10, 3) := by decide +kernel
theorem dX5_meanDistance_4 : decode cX5_meanDistance 4 = .ok (.iconst 2, 1) := by decide +kernel
theorem dX5_meanDistance_5 : decode cX5_meanDistance 5 = .ok (.invokevirtual 244, 3) := by decide +kernel
theorem dX5_meanDistance_8 : decode cX5_meanDistance 8 = .ok (.istore_n 1, 1) := by decide +kernel
theorem dX5_meanDistance_9 : decode cX5_meanDistance 9 = .ok (.iload_n 1, 1) := by decide +kernel
theorem dX5_meanDistance_10 : decode cX5_meanDistance 10 = .ok (.ifCond .ne 13, 3) := by decide +kernel
theorem dX5_meanDistance_13 : decode cX5_meanDistance 13 = .ok (.new 247, 3) := by decide +kernel
theorem dX5_meanDistance_16 : decode cX5_meanDistance 16 = .ok (.dup, 1) := by decide +kernel
theorem dX5_meanDistance_17 : decode cX5_meanDistance 17 = .ok (.ldc 249, 2) := by decide +kernel
theorem dX5_meanDistance_19 : decode cX5_meanDistance 19 = .ok (.invokespecial 251, 3) := by decide +kernel
theorem dX5_meanDistance_22 : decode cX5_meanDistance 22 = .ok (.athrow, 1) := by decide +kernel
theorem dX5_meanDistance_23 : decode cX5_meanDistance 23 = .ok (.aload_n 0, 1) := by decide +kernel
theorem dX5_meanDistance_24 : decode cX5_meanDistance 24 = .ok (.getfield 10, 3) := by decide +kernel
theorem dX5_meanDistance_27 : decode cX5_meanDistance 27 = .ok (.invokevirtual 252, 3) := by decide +kernel
theorem dX5_meanDistance_30 : decode cX5_meanDistance 30 = .ok (.i2d, 1) := by decide +kernel
theorem dX5_meanDistance_31 : decode cX5_meanDistance 31 = .ok (.iload_n 1, 1) := by decide +kernel
theorem dX5_meanDistance_32 : decode cX5_meanDistance 32 = .ok (.i2d, 1) := by decide +kernel
theorem dX5_meanDistance_33 : decode cX5_meanDistance 33 = .ok (.ddiv, 1) := by decide +kernel
theorem dX5_meanDistance_34 : decode cX5_meanDistance 34 = .ok (.dreturn, 1) := by decide +kernel
theorem dX5_share_0 : decode cX5_share 0 = .ok (.aload_n 0, 1) := by decide +kernel
theorem dX5_share_1 : decode cX5_share 1 = .ok (.getfield 10, 3) := by decide +kernel
theorem dX5_share_4 : decode cX5_share 4 = .ok (.iconst 2, 1) := by decide +kernel
theorem dX5_share_5 : decode cX5_share 5 = .ok (.invokevirtual 255, 3) := by decide +kernel
theorem dX5_share_8 : decode cX5_share 8 = .ok (.istore_n 1, 1) := by decide +kernel
theorem dX5_share_9 : decode cX5_share 9 = .ok (.iload_n 1, 1) := by decide +kernel
theorem dX5_share_10 : decode cX5_share 10 = .ok (.aload_n 0, 1) := by decide +kernel
theorem dX5_share_11 : decode cX5_share 11 = .ok (.getfield 10, 3) := by decide +kernel
theorem dX5_share_14 : decode cX5_share 14 = .ok (.iconst 3, 1) := by decide +kernel
theorem dX5_share_15 : decode cX5_share 15 = .ok (.invokevirtual 255, 3) := by decide +kernel
theorem dX5_share_18 : decode cX5_share 18 = .ok (.iadd, 1) := by decide +kernel
theorem dX5_share_19 : decode cX5_share 19 = .ok (.istore_n 2, 1) := by decide +kernel
theorem dX5_share_20 : decode cX5_share 20 = .ok (.iload_n 2, 1) := by decide +kernel
theorem dX5_share_21 : decode cX5_share 21 = .ok (.ifCond .ne 14, 3) := by decide +kernel
theorem dX5_share_24 : decode cX5_share 24 = .ok (.new 247, 3) := by decide +kernel
theorem dX5_share_27 : decode cX5_share 27 = .ok (.dup, 1) := by decide +kernel
theorem dX5_share_28 : decode cX5_share 28 = .ok (.ldc_w 258, 3) := by decide +kernel
theorem dX5_share_31 : decode cX5_share 31 = .ok (.invokespecial 251, 3) := by decide +kernel
theorem dX5_share_34 : decode cX5_share 34 = .ok (.athrow, 1) := by decide +kernel
theorem dX5_share_35 : decode cX5_share 35 = .ok (.iload_n 1, 1) := by decide +kernel
theorem dX5_share_36 : decode cX5_share 36 = .ok (.i2f, 1) := by decide +kernel
theorem dX5_share_37 : decode cX5_share 37 = .ok (.iload_n 2, 1) := by decide +kernel
theorem dX5_share_38 : decode cX5_share 38 = .ok (.i2f, 1) := by decide +kernel
theorem dX5_share_39 : decode cX5_share 39 = .ok (.fdiv, 1) := by decide +kernel
theorem dX5_share_40 : decode cX5_share 40 = .ok (.freturn, 1) := by decide +kernel
theorem dX5_undo_0 : decode cX5_undo 0 = .ok (.aload_n 0, 1) := by decide +kernel
theorem dX5_undo_1 : decode cX5_undo 1 = .ok (.getfield 19, 3) := by decide +kernel
theorem dX5_undo_4 : decode cX5_undo 4 = .ok (.aload_n 0, 1) := by decide +kernel
theorem dX5_undo_5 : decode cX5_undo 5 = .ok (.getfield 10, 3) := by decide +kernel
theorem dX5_undo_8 : decode cX5_undo 8 = .ok (.invokevirtual 260, 3) := by decide +kernel
theorem dX5_undo_11 : decode cX5_undo 11 = .ok (.ifCond .ne 14, 3) := by decide +kernel
theorem dX5_undo_14 : decode cX5_undo 14 = .ok (.new 187, 3) := by decide +kernel
theorem dX5_undo_17 : decode cX5_undo 17 = .ok (.dup, 1) := by decide +kernel
theorem dX5_undo_18 : decode cX5_undo 18 = .ok (.ldc_w 264, 3) := by decide +kernel
theorem dX5_undo_21 : decode cX5_undo 21 = .ok (.invokespecial 191, 3) := by decide +kernel
theorem dX5_undo_24 : decode cX5_undo 24 = .ok (.athrow, 1) := by decide +kernel
theorem dX5_undo_25 : decode cX5_undo 25 = .ok (.aload_n 0, 1) := by decide +kernel
theorem dX5_undo_26 : decode cX5_undo 26 = .ok (.getfield 19, 3) := by decide +kernel
theorem dX5_undo_29 : decode cX5_undo 29 = .ok (.getfield 225, 3) := by decide +kernel
theorem dX5_undo_32 : decode cX5_undo 32 = .ok (.ireturn, 1) := by decide +kernel
theorem dX5_save_0 : decode cX5_save 0 = .ok (.aload_n 0, 1) := by decide +kernel
theorem dX5_save_1 : decode cX5_save 1 = .ok (.getfield 23, 3) := by decide +kernel
theorem dX5_save_4 : decode cX5_save 4 = .ok (.aload_n 0, 1) := by decide +kernel
theorem dX5_save_5 : decode cX5_save 5 = .ok (.getfield 10, 3) := by decide +kernel
theorem dX5_save_8 : decode cX5_save 8 = .ok (.invokevirtual 266, 3) := by decide +kernel
theorem dX5_save_11 : decode cX5_save 11 = .ok (.aload_n 0, 1) := by decide +kernel
theorem dX5_save_12 : decode cX5_save 12 = .ok (.iconst 1, 1) := by decide +kernel
theorem dX5_save_13 : decode cX5_save 13 = .ok (.putfield 269, 3) := by decide +kernel
theorem dX5_save_16 : decode cX5_save 16 = .ok (.aload_n 0, 1) := by decide +kernel
theorem dX5_save_17 : decode cX5_save 17 = .ok (.getfield 10, 3) := by decide +kernel
theorem dX5_save_20 : decode cX5_save 20 = .ok (.getfield 273, 3) := by decide +kernel
theorem dX5_save_23 : decode cX5_save 23 = .ok (.ireturn, 1) := by decide +kernel
theorem dX5_restore_0 : decode cX5_restore 0 = .ok (.aload_n 0, 1) := by decide +kernel
theorem dX5_restore_1 : decode cX5_restore 1 = .ok (.getfield 269, 3) := by decide +kernel
theorem dX5_restore_4 : decode cX5_restore 4 = .ok (.ifCond .ne 14, 3) := by decide +kernel
theorem dX5_restore_7 : decode cX5_restore 7 = .ok (.new 187, 3) := by decide +kernel
theorem dX5_restore_10 : decode cX5_restore 10 = .ok (.dup, 1) := by decide +kernel
theorem dX5_restore_11 : decode cX5_restore 11 = .ok (.ldc_w 276, 3) := by decide +kernel
theorem dX5_restore_14 : decode cX5_restore 14 = .ok (.invokespecial 191, 3) := by decide +kernel
theorem dX5_restore_17 : decode cX5_restore 17 = .ok (.athrow, 1) := by decide +kernel
theorem dX5_restore_18 : decode cX5_restore 18 = .ok (.aload_n 0, 1) := by decide +kernel
theorem dX5_restore_19 : decode cX5_restore 19 = .ok (.getfield 10, 3) := by decide +kernel
theorem dX5_restore_22 : decode cX5_restore 22 = .ok (.aload_n 0, 1) := by decide +kernel
theorem dX5_restore_23 : decode cX5_restore 23 = .ok (.getfield 23, 3) := by decide +kernel
theorem dX5_restore_26 : decode cX5_restore 26 = .ok (.invokevirtual 266, 3) := by decide +kernel
theorem dX5_restore_29 : decode cX5_restore 29 = .ok (.aload_n 0, 1) := by decide +kernel
theorem dX5_restore_30 : decode cX5_restore 30 = .ok (.getfield 19, 3) := by decide +kernel
theorem dX5_restore_33 : decode cX5_restore 33 = .ok (.invokevirtual 278, 3) := by decide +kernel
theorem dX5_restore_36 : decode cX5_restore 36 = .ok (.aload_n 0, 1) := by decide +kernel
theorem dX5_restore_37 : decode cX5_restore 37 = .ok (.getfield 10, 3) := by decide +kernel
theorem dX5_restore_40 : decode cX5_restore 40 = .ok (.getfield 273, 3) := by decide +kernel
theorem dX5_restore_43 : decode cX5_restore 43 = .ok (.ireturn, 1) := by decide +kernel
theorem dX5_needBalloon_0 : decode cX5_needBalloon 0 = .ok (.aload_n 0, 1) := by decide +kernel
theorem dX5_needBalloon_1 : decode cX5_needBalloon 1 = .ok (.getfield 10, 3) := by decide +kernel
theorem dX5_needBalloon_4 : decode cX5_needBalloon 4 = .ok (.iload_n 1, 1) := by decide +kernel
theorem dX5_needBalloon_5 : decode cX5_needBalloon 5 = .ok (.invokevirtual 281, 3) := by decide +kernel
theorem dX5_needBalloon_8 : decode cX5_needBalloon 8 = .ok (.ifCond .ne 14, 3) := by decide +kernel
theorem dX5_needBalloon_11 : decode cX5_needBalloon 11 = .ok (.new 115, 3) := by decide +kernel
theorem dX5_needBalloon_14 : decode cX5_needBalloon 14 = .ok (.dup, 1) := by decide +kernel
theorem dX5_needBalloon_15 : decode cX5_needBalloon 15 = .ok (.ldc_w 284, 3) := by decide +kernel
theorem dX5_needBalloon_18 : decode cX5_needBalloon 18 = .ok (.invokespecial 119, 3) := by decide +kernel
theorem dX5_needBalloon_21 : decode cX5_needBalloon 21 = .ok (.athrow, 1) := by decide +kernel
theorem dX5_needBalloon_22 : decode cX5_needBalloon 22 = .ok (.return_, 1) := by decide +kernel
theorem dX5_needAloft_0 : decode cX5_needAloft 0 = .ok (.aload_n 0, 1) := by decide +kernel
theorem dX5_needAloft_1 : decode cX5_needAloft 1 = .ok (.getfield 10, 3) := by decide +kernel
theorem dX5_needAloft_4 : decode cX5_needAloft 4 = .ok (.getfield 104, 3) := by decide +kernel
theorem dX5_needAloft_7 : decode cX5_needAloft 7 = .ok (.iload_n 1, 1) := by decide +kernel
theorem dX5_needAloft_8 : decode cX5_needAloft 8 = .ok (.aaload, 1) := by decide +kernel
theorem dX5_needAloft_9 : decode cX5_needAloft 9 = .ok (.getfield 146, 3) := by decide +kernel
theorem dX5_needAloft_12 : decode cX5_needAloft 12 = .ok (.iconst 1, 1) := by decide +kernel
theorem dX5_needAloft_13 : decode cX5_needAloft 13 = .ok (.if_icmp .eq 14, 3) := by decide +kernel
theorem dX5_needAloft_16 : decode cX5_needAloft 16 = .ok (.new 131, 3) := by decide +kernel
theorem dX5_needAloft_19 : decode cX5_needAloft 19 = .ok (.dup, 1) := by decide +kernel
theorem dX5_needAloft_20 : decode cX5_needAloft 20 = .ok (.ldc_w 286, 3) := by decide +kernel
theorem dX5_needAloft_23 : decode cX5_needAloft 23 = .ok (.invokespecial 135, 3) := by decide +kernel
theorem dX5_needAloft_26 : decode cX5_needAloft 26 = .ok (.athrow, 1) := by decide +kernel
theorem dX5_needAloft_27 : decode cX5_needAloft 27 = .ok (.return_, 1) := by decide +kernel
theorem dX5_answerOf_0 : decode cX5_answerOf 0 = .ok (.iload_n 1, 1) := by decide +kernel
theorem dX5_answerOf_1 : decode cX5_answerOf 1 = .ok (.tableswitch 60 (-103) (-101) #[49, 38, 27], 27) := by decide +kernel
theorem dX5_answerOf_28 : decode cX5_answerOf 28 = .ok (.new 115, 3) := by decide +kernel
theorem dX5_answerOf_31 : decode cX5_answerOf 31 = .ok (.dup, 1) := by decide +kernel
theorem dX5_answerOf_32 : decode cX5_answerOf 32 = .ok (.ldc_w 288, 3) := by decide +kernel
theorem dX5_answerOf_35 : decode cX5_answerOf 35 = .ok (.invokespecial 119, 3) := by decide +kernel
theorem dX5_answerOf_38 : decode cX5_answerOf 38 = .ok (.athrow, 1) := by decide +kernel
theorem dX5_answerOf_39 : decode cX5_answerOf 39 = .ok (.new 97, 3) := by decide +kernel
theorem dX5_answerOf_42 : decode cX5_answerOf 42 = .ok (.dup, 1) := by decide +kernel
theorem dX5_answerOf_43 : decode cX5_answerOf 43 = .ok (.ldc_w 290, 3) := by decide +kernel
theorem dX5_answerOf_46 : decode cX5_answerOf 46 = .ok (.invokespecial 101, 3) := by decide +kernel
theorem dX5_answerOf_49 : decode cX5_answerOf 49 = .ok (.athrow, 1) := by decide +kernel
theorem dX5_answerOf_50 : decode cX5_answerOf 50 = .ok (.new 292, 3) := by decide +kernel
theorem dX5_answerOf_53 : decode cX5_answerOf 53 = .ok (.dup, 1) := by decide +kernel
theorem dX5_answerOf_54 : decode cX5_answerOf 54 = .ok (.ldc_w 294, 3) := by decide +kernel
theorem dX5_answerOf_57 : decode cX5_answerOf 57 = .ok (.invokespecial 296, 3) := by decide +kernel
theorem dX5_answerOf_60 : decode cX5_answerOf 60 = .ok (.athrow, 1) := by decide +kernel
theorem dX5_answerOf_61 : decode cX5_answerOf 61 = .ok (.aload_n 0, 1) := by decide +kernel
theorem dX5_answerOf_62 : decode cX5_answerOf 62 = .ok (.getfield 19, 3) := by decide +kernel
theorem dX5_answerOf_65 : decode cX5_answerOf 65 = .ok (.invokevirtual 297, 3) := by decide +kernel
theorem dX5_answerOf_68 : decode cX5_answerOf 68 = .ok (.iload_n 1, 1) := by decide +kernel
theorem dX5_answerOf_69 : decode cX5_answerOf 69 = .ok (.ireturn, 1) := by decide +kernel
theorem dX5_carryOut_0 : decode cX5_carryOut 0 = .ok (.aload_n 0, 1) := by decide +kernel
theorem dX5_carryOut_1 : decode cX5_carryOut 1 = .ok (.getfield 36, 3) := by decide +kernel
theorem dX5_carryOut_4 : decode cX5_carryOut 4 = .ok (.getfield 300, 3) := by decide +kernel
theorem dX5_carryOut_7 : decode cX5_carryOut 7 = .ok (.iload_n 1, 1) := by decide +kernel
theorem dX5_carryOut_8 : decode cX5_carryOut 8 = .ok (.iaload, 1) := by decide +kernel
theorem dX5_carryOut_9 : decode cX5_carryOut 9 = .ok (.istore_n 2, 1) := by decide +kernel
theorem dX5_carryOut_10 : decode cX5_carryOut 10 = .ok (.aload_n 0, 1) := by decide +kernel
theorem dX5_carryOut_11 : decode cX5_carryOut 11 = .ok (.getfield 36, 3) := by decide +kernel
theorem dX5_carryOut_14 : decode cX5_carryOut 14 = .ok (.getfield 304, 3) := by decide +kernel
theorem dX5_carryOut_17 : decode cX5_carryOut 17 = .ok (.iload_n 1, 1) := by decide +kernel
theorem dX5_carryOut_18 : decode cX5_carryOut 18 = .ok (.iaload, 1) := by decide +kernel
theorem dX5_carryOut_19 : decode cX5_carryOut 19 = .ok (.istore_n 3, 1) := by decide +kernel
theorem dX5_carryOut_20 : decode cX5_carryOut 20 = .ok (.aload_n 0, 1) := by decide +kernel
theorem dX5_carryOut_21 : decode cX5_carryOut 21 = .ok (.getfield 36, 3) := by decide +kernel
theorem dX5_carryOut_24 : decode cX5_carryOut 24 = .ok (.getfield 307, 3) := by decide +kernel
theorem dX5_carryOut_27 : decode cX5_carryOut 27 = .ok (.iload_n 1, 1) := by decide +kernel
theorem dX5_carryOut_28 : decode cX5_carryOut 28 = .ok (.iaload, 1) := by decide +kernel
theorem dX5_carryOut_29 : decode cX5_carryOut 29 = .ok (.tableswitch 153 98 117 #[105, 153, 115, 153, 95, 153, 144, 153, 153, 153, 125, 153, 153, 153, 153, 153, 153, 153, 153, 135], 95) := by decide +kernel
theorem dX5_carryOut_124 : decode cX5_carryOut 124 = .ok (.aload_n 0, 1) := by decide +kernel
theorem dX5_carryOut_125 : decode cX5_carryOut 125 = .ok (.getfield 10, 3) := by decide +kernel
theorem dX5_carryOut_128 : decode cX5_carryOut 128 = .ok (.iload_n 2, 1) := by decide +kernel
theorem dX5_carryOut_129 : decode cX5_carryOut 129 = .ok (.iload_n 3, 1) := by decide +kernel
theorem dX5_carryOut_130 : decode cX5_carryOut 130 = .ok (.invokevirtual 61, 3) := by decide +kernel
theorem dX5_carryOut_133 : decode cX5_carryOut 133 = .ok (.ireturn, 1) := by decide +kernel
theorem dX5_carryOut_134 : decode cX5_carryOut 134 = .ok (.aload_n 0, 1) := by decide +kernel
theorem dX5_carryOut_135 : decode cX5_carryOut 135 = .ok (.getfield 10, 3) := by decide +kernel
theorem dX5_carryOut_138 : decode cX5_carryOut 138 = .ok (.iload_n 2, 1) := by decide +kernel
theorem dX5_carryOut_139 : decode cX5_carryOut 139 = .ok (.iload_n 3, 1) := by decide +kernel
theorem dX5_carryOut_140 : decode cX5_carryOut 140 = .ok (.invokevirtual 65, 3) := by decide +kernel
theorem dX5_carryOut_143 : decode cX5_carryOut 143 = .ok (.ireturn, 1) := by decide +kernel
theorem dX5_carryOut_144 : decode cX5_carryOut 144 = .ok (.aload_n 0, 1) := by decide +kernel
theorem dX5_carryOut_145 : decode cX5_carryOut 145 = .ok (.getfield 10, 3) := by decide +kernel
theorem dX5_carryOut_148 : decode cX5_carryOut 148 = .ok (.iload_n 2, 1) := by decide +kernel
theorem dX5_carryOut_149 : decode cX5_carryOut 149 = .ok (.iload_n 3, 1) := by decide +kernel
theorem dX5_carryOut_150 : decode cX5_carryOut 150 = .ok (.invokevirtual 83, 3) := by decide +kernel
theorem dX5_carryOut_153 : decode cX5_carryOut 153 = .ok (.ireturn, 1) := by decide +kernel
theorem dX5_carryOut_154 : decode cX5_carryOut 154 = .ok (.aload_n 0, 1) := by decide +kernel
theorem dX5_carryOut_155 : decode cX5_carryOut 155 = .ok (.getfield 10, 3) := by decide +kernel
theorem dX5_carryOut_158 : decode cX5_carryOut 158 = .ok (.iload_n 2, 1) := by decide +kernel
theorem dX5_carryOut_159 : decode cX5_carryOut 159 = .ok (.iload_n 3, 1) := by decide +kernel
theorem dX5_carryOut_160 : decode cX5_carryOut 160 = .ok (.invokevirtual 74, 3) := by decide +kernel
theorem dX5_carryOut_163 : decode cX5_carryOut 163 = .ok (.ireturn, 1) := by decide +kernel
theorem dX5_carryOut_164 : decode cX5_carryOut 164 = .ok (.aload_n 0, 1) := by decide +kernel
theorem dX5_carryOut_165 : decode cX5_carryOut 165 = .ok (.getfield 10, 3) := by decide +kernel
theorem dX5_carryOut_168 : decode cX5_carryOut 168 = .ok (.iload_n 2, 1) := by decide +kernel
theorem dX5_carryOut_169 : decode cX5_carryOut 169 = .ok (.invokevirtual 80, 3) := by decide +kernel
theorem dX5_carryOut_172 : decode cX5_carryOut 172 = .ok (.ireturn, 1) := by decide +kernel
theorem dX5_carryOut_173 : decode cX5_carryOut 173 = .ok (.aload_n 0, 1) := by decide +kernel
theorem dX5_carryOut_174 : decode cX5_carryOut 174 = .ok (.getfield 10, 3) := by decide +kernel
theorem dX5_carryOut_177 : decode cX5_carryOut 177 = .ok (.iload_n 2, 1) := by decide +kernel
theorem dX5_carryOut_178 : decode cX5_carryOut 178 = .ok (.invokevirtual 86, 3) := by decide +kernel
theorem dX5_carryOut_181 : decode cX5_carryOut 181 = .ok (.ireturn, 1) := by decide +kernel
theorem dX5_carryOut_182 : decode cX5_carryOut 182 = .ok (.aload_n 0, 1) := by decide +kernel
theorem dX5_carryOut_183 : decode cX5_carryOut 183 = .ok (.getfield 10, 3) := by decide +kernel
theorem dX5_carryOut_186 : decode cX5_carryOut 186 = .ok (.iload_n 2, 1) := by decide +kernel
theorem dX5_carryOut_187 : decode cX5_carryOut 187 = .ok (.iload_n 3, 1) := by decide +kernel
theorem dX5_carryOut_188 : decode cX5_carryOut 188 = .ok (.aload_n 0, 1) := by decide +kernel
theorem dX5_carryOut_189 : decode cX5_carryOut 189 = .ok (.getfield 36, 3) := by decide +kernel
theorem dX5_carryOut_192 : decode cX5_carryOut 192 = .ok (.getfield 310, 3) := by decide +kernel
theorem dX5_carryOut_195 : decode cX5_carryOut 195 = .ok (.iload_n 1, 1) := by decide +kernel
theorem dX5_carryOut_196 : decode cX5_carryOut 196 = .ok (.iaload, 1) := by decide +kernel
theorem dX5_carryOut_197 : decode cX5_carryOut 197 = .ok (.invokevirtual 51, 3) := by decide +kernel
theorem dX5_carryOut_200 : decode cX5_carryOut 200 = .ok (.ireturn, 1) := by decide +kernel
theorem dX5_isFailure_0 : decode cX5_isFailure 0 = .ok (.iload_n 0, 1) := by decide +kernel
theorem dX5_isFailure_1 : decode cX5_isFailure 1 = .ok (.bipush (-101), 2) := by decide +kernel
theorem dX5_isFailure_3 : decode cX5_isFailure 3 = .ok (.if_icmp .eq 15, 3) := by decide +kernel
theorem dX5_isFailure_6 : decode cX5_isFailure 6 = .ok (.iload_n 0, 1) := by decide +kernel
theorem dX5_isFailure_7 : decode cX5_isFailure 7 = .ok (.bipush (-102), 2) := by decide +kernel
theorem dX5_isFailure_9 : decode cX5_isFailure 9 = .ok (.if_icmp .eq 9, 3) := by decide +kernel
theorem dX5_isFailure_12 : decode cX5_isFailure 12 = .ok (.iload_n 0, 1) := by decide +kernel
theorem dX5_isFailure_13 : decode cX5_isFailure 13 = .ok (.bipush (-103), 2) := by decide +kernel
theorem dX5_isFailure_15 : decode cX5_isFailure 15 = .ok (.if_icmp .ne 7, 3) := by decide +kernel
theorem dX5_isFailure_18 : decode cX5_isFailure 18 = .ok (.iconst 1, 1) := by decide +kernel
theorem dX5_isFailure_19 : decode cX5_isFailure 19 = .ok (.goto 4, 3) := by decide +kernel
theorem dX5_isFailure_22 : decode cX5_isFailure 22 = .ok (.iconst 0, 1) := by decide +kernel
theorem dX5_isFailure_23 : decode cX5_isFailure 23 = .ok (.ireturn, 1) := by decide +kernel
theorem dX5_isBetween_0 : decode cX5_isBetween 0 = .ok (.iload_n 0, 1) := by decide +kernel
theorem dX5_isBetween_1 : decode cX5_isBetween 1 = .ok (.iload_n 1, 1) := by decide +kernel
theorem dX5_isBetween_2 : decode cX5_isBetween 2 = .ok (.if_icmp .lt 12, 3) := by decide +kernel
theorem dX5_isBetween_5 : decode cX5_isBetween 5 = .ok (.iload_n 0, 1) := by decide +kernel
theorem dX5_isBetween_6 : decode cX5_isBetween 6 = .ok (.iload_n 2, 1) := by decide +kernel
theorem dX5_isBetween_7 : decode cX5_isBetween 7 = .ok (.if_icmp .gt 7, 3) := by decide +kernel
theorem dX5_isBetween_10 : decode cX5_isBetween 10 = .ok (.iconst 1, 1) := by decide +kernel
theorem dX5_isBetween_11 : decode cX5_isBetween 11 = .ok (.goto 4, 3) := by decide +kernel
theorem dX5_isBetween_14 : decode cX5_isBetween 14 = .ok (.iconst 0, 1) := by decide +kernel
theorem dX5_isBetween_15 : decode cX5_isBetween 15 = .ok (.ireturn, 1) := by decide +kernel
theorem dX5_isOnMap_0 : decode cX5_isOnMap 0 = .ok (.iload_n 0, 1) := by decide +kernel
theorem dX5_isOnMap_1 : decode cX5_isOnMap 1 = .ok (.iconst 0, 1) := by decide +kernel
theorem dX5_isOnMap_2 : decode cX5_isOnMap 2 = .ok (.bipush 39, 2) := by decide +kernel
theorem dX5_isOnMap_4 : decode cX5_isOnMap 4 = .ok (.invokestatic 93, 3) := by decide +kernel
theorem dX5_isOnMap_7 : decode cX5_isOnMap 7 = .ok (.ifCond .eq 17, 3) := by decide +kernel
theorem dX5_isOnMap_10 : decode cX5_isOnMap 10 = .ok (.iload_n 1, 1) := by decide +kernel
theorem dX5_isOnMap_11 : decode cX5_isOnMap 11 = .ok (.iconst 0, 1) := by decide +kernel
theorem dX5_isOnMap_12 : decode cX5_isOnMap 12 = .ok (.bipush 39, 2) := by decide +kernel
theorem dX5_isOnMap_14 : decode cX5_isOnMap 14 = .ok (.invokestatic 93, 3) := by decide +kernel
theorem dX5_isOnMap_17 : decode cX5_isOnMap 17 = .ok (.ifCond .eq 7, 3) := by decide +kernel
theorem dX5_isOnMap_20 : decode cX5_isOnMap 20 = .ok (.iconst 1, 1) := by decide +kernel
theorem dX5_isOnMap_21 : decode cX5_isOnMap 21 = .ok (.goto 4, 3) := by decide +kernel
theorem dX5_isOnMap_24 : decode cX5_isOnMap 24 = .ok (.iconst 0, 1) := by decide +kernel
theorem dX5_isOnMap_25 : decode cX5_isOnMap 25 = .ok (.ireturn, 1) := by decide +kernel
theorem dX5_distanceFromTown_0 : decode cX5_distanceFromTown 0 = .ok (.iload_n 0, 1) := by decide +kernel
theorem dX5_distanceFromTown_1 : decode cX5_distanceFromTown 1 = .ok (.bipush 20, 2) := by decide +kernel
theorem dX5_distanceFromTown_3 : decode cX5_distanceFromTown 3 = .ok (.isub, 1) := by decide +kernel
theorem dX5_distanceFromTown_4 : decode cX5_distanceFromTown 4 = .ok (.invokestatic 313, 3) := by decide +kernel
theorem dX5_distanceFromTown_7 : decode cX5_distanceFromTown 7 = .ok (.iload_n 1, 1) := by decide +kernel
theorem dX5_distanceFromTown_8 : decode cX5_distanceFromTown 8 = .ok (.bipush 20, 2) := by decide +kernel
theorem dX5_distanceFromTown_10 : decode cX5_distanceFromTown 10 = .ok (.isub, 1) := by decide +kernel
theorem dX5_distanceFromTown_11 : decode cX5_distanceFromTown 11 = .ok (.invokestatic 313, 3) := by decide +kernel
theorem dX5_distanceFromTown_14 : decode cX5_distanceFromTown 14 = .ok (.invokestatic 318, 3) := by decide +kernel
theorem dX5_distanceFromTown_17 : decode cX5_distanceFromTown 17 = .ok (.ireturn, 1) := by decide +kernel
theorem dL_at_0 : decode cL_at 0 = .ok (.iload_n 1, 1) := by decide +kernel
theorem dL_at_1 : decode cL_at 1 = .ok (.aload_n 0, 1) := by decide +kernel
theorem dL_at_2 : decode cL_at 2 = .ok (.arraylength, 1) := by decide +kernel
theorem dL_at_3 : decode cL_at 3 = .ok (.if_icmp .ge 9, 3) := by decide +kernel
theorem dL_at_6 : decode cL_at 6 = .ok (.aload_n 0, 1) := by decide +kernel
theorem dL_at_7 : decode cL_at 7 = .ok (.iload_n 1, 1) := by decide +kernel
theorem dL_at_8 : decode cL_at 8 = .ok (.iaload, 1) := by decide +kernel
theorem dL_at_9 : decode cL_at 9 = .ok (.goto 4, 3) := by decide +kernel
theorem dL_at_12 : decode cL_at 12 = .ok (.iconst 0, 1) := by decide +kernel
theorem dL_at_13 : decode cL_at 13 = .ok (.ireturn, 1) := by decide +kernel
theorem dL_some_0 : decode cL_some 0 = .ok (.iload_n 0, 1) := by decide +kernel
theorem dL_some_1 : decode cL_some 1 = .ok (.iload_n 1, 1) := by decide +kernel
theorem dL_some_2 : decode cL_some 2 = .ok (.irem, 1) := by decide +kernel
theorem dL_some_3 : decode cL_some 3 = .ok (.istore_n 2, 1) := by decide +kernel
theorem dL_some_4 : decode cL_some 4 = .ok (.iload_n 2, 1) := by decide +kernel
theorem dL_some_5 : decode cL_some 5 = .ok (.ifCond .ge 9, 3) := by decide +kernel
theorem dL_some_8 : decode cL_some 8 = .ok (.iload_n 2, 1) := by decide +kernel
theorem dL_some_9 : decode cL_some 9 = .ok (.iload_n 1, 1) := by decide +kernel
theorem dL_some_10 : decode cL_some 10 = .ok (.iadd, 1) := by decide +kernel
theorem dL_some_11 : decode cL_some 11 = .ok (.goto 4, 3) := by decide +kernel
theorem dL_some_14 : decode cL_some 14 = .ok (.iload_n 2, 1) := by decide +kernel
theorem dL_some_15 : decode cL_some 15 = .ok (.ireturn, 1) := by decide +kernel
theorem dL_ring_0 : decode cL_ring 0 = .ok (.aload_n 0, 1) := by decide +kernel
theorem dL_ring_1 : decode cL_ring 1 = .ok (.iload_n 1, 1) := by decide +kernel
theorem dL_ring_2 : decode cL_ring 2 = .ok (.invokevirtual 7, 3) := by decide +kernel
theorem dL_ring_5 : decode cL_ring 5 = .ok (.ireturn, 1) := by decide +kernel
theorem dL_ring_6 : decode cL_ring 6 = .ok (.astore_n 2, 1) := by decide +kernel
theorem dL_ring_7 : decode cL_ring 7 = .ok (.sipush (-1001), 3) := by decide +kernel
theorem dL_ring_10 : decode cL_ring 10 = .ok (.ireturn, 1) := by decide +kernel
theorem dL_wind_0 : decode cL_wind 0 = .ok (.aload_n 0, 1) := by decide +kernel
theorem dL_wind_1 : decode cL_wind 1 = .ok (.iload_n 1, 1) := by decide +kernel
theorem dL_wind_2 : decode cL_wind 2 = .ok (.iload_n 2, 1) := by decide +kernel
theorem dL_wind_3 : decode cL_wind 3 = .ok (.iload_n 3, 1) := by decide +kernel
theorem dL_wind_4 : decode cL_wind 4 = .ok (.invokevirtual 15, 3) := by decide +kernel
theorem dL_wind_7 : decode cL_wind 7 = .ok (.ireturn, 1) := by decide +kernel
theorem dL_wind_8 : decode cL_wind 8 = .ok (.astore 4, 2) := by decide +kernel
theorem dL_wind_10 : decode cL_wind 10 = .ok (.sipush (-1001), 3) := by decide +kernel
theorem dL_wind_13 : decode cL_wind 13 = .ok (.ireturn, 1) := by decide +kernel
theorem dL_wind_14 : decode cL_wind 14 = .ok (.astore 4, 2) := by decide +kernel
theorem dL_wind_16 : decode cL_wind 16 = .ok (.sipush (-1002), 3) := by decide +kernel
theorem dL_wind_19 : decode cL_wind 19 = .ok (.ireturn, 1) := by decide +kernel
theorem dL_gas_0 : decode cL_gas 0 = .ok (.aload_n 0, 1) := by decide +kernel
theorem dL_gas_1 : decode cL_gas 1 = .ok (.iload_n 1, 1) := by decide +kernel
theorem dL_gas_2 : decode cL_gas 2 = .ok (.invokevirtual 21, 3) := by decide +kernel
theorem dL_gas_5 : decode cL_gas 5 = .ok (.ireturn, 1) := by decide +kernel
theorem dL_gas_6 : decode cL_gas 6 = .ok (.astore_n 2, 1) := by decide +kernel
theorem dL_gas_7 : decode cL_gas 7 = .ok (.sipush (-1001), 3) := by decide +kernel
theorem dL_gas_10 : decode cL_gas 10 = .ok (.ireturn, 1) := by decide +kernel
theorem dL_balloon_0 : decode cL_balloon 0 = .ok (.aload_n 0, 1) := by decide +kernel
theorem dL_balloon_1 : decode cL_balloon 1 = .ok (.iload_n 1, 1) := by decide +kernel
theorem dL_balloon_2 : decode cL_balloon 2 = .ok (.invokevirtual 24, 3) := by decide +kernel
theorem dL_balloon_5 : decode cL_balloon 5 = .ok (.ireturn, 1) := by decide +kernel
theorem dL_balloon_6 : decode cL_balloon 6 = .ok (.astore_n 2, 1) := by decide +kernel
theorem dL_balloon_7 : decode cL_balloon 7 = .ok (.sipush (-1001), 3) := by decide +kernel
theorem dL_balloon_10 : decode cL_balloon 10 = .ok (.ireturn, 1) := by decide +kernel
theorem dL_balloon_11 : decode cL_balloon 11 = .ok (.astore_n 2, 1) := by decide +kernel
theorem dL_balloon_12 : decode cL_balloon 12 = .ok (.sipush (-1002), 3) := by decide +kernel
theorem dL_balloon_15 : decode cL_balloon 15 = .ok (.ireturn, 1) := by decide +kernel
theorem dL_fill_0 : decode cL_fill 0 = .ok (.aload_n 0, 1) := by decide +kernel
theorem dL_fill_1 : decode cL_fill 1 = .ok (.iload_n 1, 1) := by decide +kernel
theorem dL_fill_2 : decode cL_fill 2 = .ok (.iload_n 2, 1) := by decide +kernel
theorem dL_fill_3 : decode cL_fill 3 = .ok (.invokevirtual 29, 3) := by decide +kernel
theorem dL_fill_6 : decode cL_fill 6 = .ok (.ireturn, 1) := by decide +kernel
theorem dL_fill_7 : decode cL_fill 7 = .ok (.astore_n 3, 1) := by decide +kernel
theorem dL_fill_8 : decode cL_fill 8 = .ok (.sipush (-1001), 3) := by decide +kernel
theorem dL_fill_11 : decode cL_fill 11 = .ok (.ireturn, 1) := by decide +kernel
theorem dL_fill_12 : decode cL_fill 12 = .ok (.astore_n 3, 1) := by decide +kernel
theorem dL_fill_13 : decode cL_fill 13 = .ok (.sipush (-1002), 3) := by decide +kernel
theorem dL_fill_16 : decode cL_fill 16 = .ok (.ireturn, 1) := by decide +kernel
theorem dL_fill_17 : decode cL_fill 17 = .ok (.astore_n 3, 1) := by decide +kernel
theorem dL_fill_18 : decode cL_fill 18 = .ok (.sipush (-1003), 3) := by decide +kernel
theorem dL_fill_21 : decode cL_fill 21 = .ok (.ireturn, 1) := by decide +kernel
theorem dL_ballast_0 : decode cL_ballast 0 = .ok (.aload_n 0, 1) := by decide +kernel
theorem dL_ballast_1 : decode cL_ballast 1 = .ok (.iload_n 1, 1) := by decide +kernel
theorem dL_ballast_2 : decode cL_ballast 2 = .ok (.iload_n 2, 1) := by decide +kernel
theorem dL_ballast_3 : decode cL_ballast 3 = .ok (.invokevirtual 33, 3) := by decide +kernel
theorem dL_ballast_6 : decode cL_ballast 6 = .ok (.ireturn, 1) := by decide +kernel
theorem dL_ballast_7 : decode cL_ballast 7 = .ok (.astore_n 3, 1) := by decide +kernel
theorem dL_ballast_8 : decode cL_ballast 8 = .ok (.sipush (-1001), 3) := by decide +kernel
theorem dL_ballast_11 : decode cL_ballast 11 = .ok (.ireturn, 1) := by decide +kernel
theorem dL_ballast_12 : decode cL_ballast 12 = .ok (.astore_n 3, 1) := by decide +kernel
theorem dL_ballast_13 : decode cL_ballast 13 = .ok (.sipush (-1002), 3) := by decide +kernel
theorem dL_ballast_16 : decode cL_ballast 16 = .ok (.ireturn, 1) := by decide +kernel
theorem dL_ballast_17 : decode cL_ballast 17 = .ok (.astore_n 3, 1) := by decide +kernel
theorem dL_ballast_18 : decode cL_ballast 18 = .ok (.sipush (-1003), 3) := by decide +kernel
theorem dL_ballast_21 : decode cL_ballast 21 = .ok (.ireturn, 1) := by decide +kernel
theorem dL_courier_0 : decode cL_courier 0 = .ok (.aload_n 0, 1) := by decide +kernel
theorem dL_courier_1 : decode cL_courier 1 = .ok (.iload_n 1, 1) := by decide +kernel
theorem dL_courier_2 : decode cL_courier 2 = .ok (.iload_n 2, 1) := by decide +kernel
theorem dL_courier_3 : decode cL_courier 3 = .ok (.invokevirtual 36, 3) := by decide +kernel
theorem dL_courier_6 : decode cL_courier 6 = .ok (.ireturn, 1) := by decide +kernel
theorem dL_courier_7 : decode cL_courier 7 = .ok (.astore_n 3, 1) := by decide +kernel
theorem dL_courier_8 : decode cL_courier 8 = .ok (.sipush (-1001), 3) := by decide +kernel
theorem dL_courier_11 : decode cL_courier 11 = .ok (.ireturn, 1) := by decide +kernel
theorem dL_courier_12 : decode cL_courier 12 = .ok (.astore_n 3, 1) := by decide +kernel
theorem dL_courier_13 : decode cL_courier 13 = .ok (.sipush (-1002), 3) := by decide +kernel
theorem dL_courier_16 : decode cL_courier 16 = .ok (.ireturn, 1) := by decide +kernel
theorem dL_courier_17 : decode cL_courier 17 = .ok (.astore_n 3, 1) := by decide +kernel
theorem dL_courier_18 : decode cL_courier 18 = .ok (.sipush (-1003), 3) := by decide +kernel
theorem dL_courier_21 : decode cL_courier 21 = .ok (.ireturn, 1) := by decide +kernel
theorem dL_letter_0 : decode cL_letter 0 = .ok (.aload_n 0, 1) := by decide +kernel
theorem dL_letter_1 : decode cL_letter 1 = .ok (.iload_n 1, 1) := by decide +kernel
theorem dL_letter_2 : decode cL_letter 2 = .ok (.iload_n 2, 1) := by decide +kernel
theorem dL_letter_3 : decode cL_letter 3 = .ok (.invokevirtual 39, 3) := by decide +kernel
theorem dL_letter_6 : decode cL_letter 6 = .ok (.ireturn, 1) := by decide +kernel
theorem dL_letter_7 : decode cL_letter 7 = .ok (.astore_n 3, 1) := by decide +kernel
theorem dL_letter_8 : decode cL_letter 8 = .ok (.sipush (-1001), 3) := by decide +kernel
theorem dL_letter_11 : decode cL_letter 11 = .ok (.ireturn, 1) := by decide +kernel
theorem dL_letter_12 : decode cL_letter 12 = .ok (.astore_n 3, 1) := by decide +kernel
theorem dL_letter_13 : decode cL_letter 13 = .ok (.sipush (-1002), 3) := by decide +kernel
theorem dL_letter_16 : decode cL_letter 16 = .ok (.ireturn, 1) := by decide +kernel
theorem dL_load_0 : decode cL_load 0 = .ok (.aload_n 0, 1) := by decide +kernel
theorem dL_load_1 : decode cL_load 1 = .ok (.iload_n 1, 1) := by decide +kernel
theorem dL_load_2 : decode cL_load 2 = .ok (.iload_n 2, 1) := by decide +kernel
theorem dL_load_3 : decode cL_load 3 = .ok (.invokevirtual 42, 3) := by decide +kernel
theorem dL_load_6 : decode cL_load 6 = .ok (.ireturn, 1) := by decide +kernel
theorem dL_load_7 : decode cL_load 7 = .ok (.astore_n 3, 1) := by decide +kernel
theorem dL_load_8 : decode cL_load 8 = .ok (.sipush (-1001), 3) := by decide +kernel
theorem dL_load_11 : decode cL_load 11 = .ok (.ireturn, 1) := by decide +kernel
theorem dL_load_12 : decode cL_load 12 = .ok (.astore_n 3, 1) := by decide +kernel
theorem dL_load_13 : decode cL_load 13 = .ok (.sipush (-1002), 3) := by decide +kernel
theorem dL_load_16 : decode cL_load 16 = .ok (.ireturn, 1) := by decide +kernel
theorem dL_loadAll_0 : decode cL_loadAll 0 = .ok (.aload_n 0, 1) := by decide +kernel
theorem dL_loadAll_1 : decode cL_loadAll 1 = .ok (.iload_n 1, 1) := by decide +kernel
theorem dL_loadAll_2 : decode cL_loadAll 2 = .ok (.invokevirtual 45, 3) := by decide +kernel
theorem dL_loadAll_5 : decode cL_loadAll 5 = .ok (.ireturn, 1) := by decide +kernel
theorem dL_loadAll_6 : decode cL_loadAll 6 = .ok (.astore_n 2, 1) := by decide +kernel
theorem dL_loadAll_7 : decode cL_loadAll 7 = .ok (.sipush (-1001), 3) := by decide +kernel
theorem dL_loadAll_10 : decode cL_loadAll 10 = .ok (.ireturn, 1) := by decide +kernel
theorem dL_loadAll_11 : decode cL_loadAll 11 = .ok (.astore_n 2, 1) := by decide +kernel
theorem dL_loadAll_12 : decode cL_loadAll 12 = .ok (.sipush (-1002), 3) := by decide +kernel
theorem dL_loadAll_15 : decode cL_loadAll 15 = .ok (.ireturn, 1) := by decide +kernel
theorem dL_launch_0 : decode cL_launch 0 = .ok (.aload_n 0, 1) := by decide +kernel
theorem dL_launch_1 : decode cL_launch 1 = .ok (.iload_n 1, 1) := by decide +kernel
theorem dL_launch_2 : decode cL_launch 2 = .ok (.invokevirtual 48, 3) := by decide +kernel
theorem dL_launch_5 : decode cL_launch 5 = .ok (.ireturn, 1) := by decide +kernel
theorem dL_launch_6 : decode cL_launch 6 = .ok (.astore_n 2, 1) := by decide +kernel
theorem dL_launch_7 : decode cL_launch 7 = .ok (.sipush (-1001), 3) := by decide +kernel
theorem dL_launch_10 : decode cL_launch 10 = .ok (.ireturn, 1) := by decide +kernel
theorem dL_launch_11 : decode cL_launch 11 = .ok (.astore_n 2, 1) := by decide +kernel
theorem dL_launch_12 : decode cL_launch 12 = .ok (.sipush (-1002), 3) := by decide +kernel
theorem dL_launch_15 : decode cL_launch 15 = .ok (.ireturn, 1) := by decide +kernel
theorem dL_drop_0 : decode cL_drop 0 = .ok (.aload_n 0, 1) := by decide +kernel
theorem dL_drop_1 : decode cL_drop 1 = .ok (.iload_n 1, 1) := by decide +kernel
theorem dL_drop_2 : decode cL_drop 2 = .ok (.iload_n 2, 1) := by decide +kernel
theorem dL_drop_3 : decode cL_drop 3 = .ok (.invokevirtual 51, 3) := by decide +kernel
theorem dL_drop_6 : decode cL_drop 6 = .ok (.ireturn, 1) := by decide +kernel
theorem dL_drop_7 : decode cL_drop 7 = .ok (.astore_n 3, 1) := by decide +kernel
theorem dL_drop_8 : decode cL_drop 8 = .ok (.sipush (-1001), 3) := by decide +kernel
theorem dL_drop_11 : decode cL_drop 11 = .ok (.ireturn, 1) := by decide +kernel
theorem dL_drop_12 : decode cL_drop 12 = .ok (.astore_n 3, 1) := by decide +kernel
theorem dL_drop_13 : decode cL_drop 13 = .ok (.sipush (-1002), 3) := by decide +kernel
theorem dL_drop_16 : decode cL_drop 16 = .ok (.ireturn, 1) := by decide +kernel
theorem dL_drop_17 : decode cL_drop 17 = .ok (.astore_n 3, 1) := by decide +kernel
theorem dL_drop_18 : decode cL_drop 18 = .ok (.sipush (-1003), 3) := by decide +kernel
theorem dL_drop_21 : decode cL_drop 21 = .ok (.ireturn, 1) := by decide +kernel
theorem dL_pass_0 : decode cL_pass 0 = .ok (.aload_n 0, 1) := by decide +kernel
theorem dL_pass_1 : decode cL_pass 1 = .ok (.iload_n 1, 1) := by decide +kernel
theorem dL_pass_2 : decode cL_pass 2 = .ok (.invokevirtual 54, 3) := by decide +kernel
theorem dL_pass_5 : decode cL_pass 5 = .ok (.ireturn, 1) := by decide +kernel
theorem dL_pass_6 : decode cL_pass 6 = .ok (.astore_n 2, 1) := by decide +kernel
theorem dL_pass_7 : decode cL_pass 7 = .ok (.sipush (-1001), 3) := by decide +kernel
theorem dL_pass_10 : decode cL_pass 10 = .ok (.ireturn, 1) := by decide +kernel
theorem dL_balloonOf_0 : decode cL_balloonOf 0 = .ok (.aload_n 0, 1) := by decide +kernel
theorem dL_balloonOf_1 : decode cL_balloonOf 1 = .ok (.iload_n 1, 1) := by decide +kernel
theorem dL_balloonOf_2 : decode cL_balloonOf 2 = .ok (.iload_n 2, 1) := by decide +kernel
theorem dL_balloonOf_3 : decode cL_balloonOf 3 = .ok (.invokevirtual 57, 3) := by decide +kernel
theorem dL_balloonOf_6 : decode cL_balloonOf 6 = .ok (.ireturn, 1) := by decide +kernel
theorem dL_balloonOf_7 : decode cL_balloonOf 7 = .ok (.astore_n 3, 1) := by decide +kernel
theorem dL_balloonOf_8 : decode cL_balloonOf 8 = .ok (.sipush (-1001), 3) := by decide +kernel
theorem dL_balloonOf_11 : decode cL_balloonOf 11 = .ok (.ireturn, 1) := by decide +kernel
theorem dL_balloonOf_12 : decode cL_balloonOf 12 = .ok (.astore_n 3, 1) := by decide +kernel
theorem dL_balloonOf_13 : decode cL_balloonOf 13 = .ok (.sipush (-1002), 3) := by decide +kernel
theorem dL_balloonOf_16 : decode cL_balloonOf 16 = .ok (.ireturn, 1) := by decide +kernel
theorem dL_letterOf_0 : decode cL_letterOf 0 = .ok (.aload_n 0, 1) := by decide +kernel
theorem dL_letterOf_1 : decode cL_letterOf 1 = .ok (.iload_n 1, 1) := by decide +kernel
theorem dL_letterOf_2 : decode cL_letterOf 2 = .ok (.iload_n 2, 1) := by decide +kernel
theorem dL_letterOf_3 : decode cL_letterOf 3 = .ok (.invokevirtual 60, 3) := by decide +kernel
theorem dL_letterOf_6 : decode cL_letterOf 6 = .ok (.ireturn, 1) := by decide +kernel
theorem dL_letterOf_7 : decode cL_letterOf 7 = .ok (.astore_n 3, 1) := by decide +kernel
theorem dL_letterOf_8 : decode cL_letterOf 8 = .ok (.sipush (-1001), 3) := by decide +kernel
theorem dL_letterOf_11 : decode cL_letterOf 11 = .ok (.ireturn, 1) := by decide +kernel
theorem dL_letterOf_12 : decode cL_letterOf 12 = .ok (.astore_n 3, 1) := by decide +kernel
theorem dL_letterOf_13 : decode cL_letterOf 13 = .ok (.sipush (-1002), 3) := by decide +kernel
theorem dL_letterOf_16 : decode cL_letterOf 16 = .ok (.ireturn, 1) := by decide +kernel
theorem dL_weightAgain_0 : decode cL_weightAgain 0 = .ok (.aload_n 0, 1) := by decide +kernel
theorem dL_weightAgain_1 : decode cL_weightAgain 1 = .ok (.iload_n 1, 1) := by decide +kernel
theorem dL_weightAgain_2 : decode cL_weightAgain 2 = .ok (.invokevirtual 63, 3) := by decide +kernel
theorem dL_weightAgain_5 : decode cL_weightAgain 5 = .ok (.ireturn, 1) := by decide +kernel
theorem dL_weightAgain_6 : decode cL_weightAgain 6 = .ok (.astore_n 2, 1) := by decide +kernel
theorem dL_weightAgain_7 : decode cL_weightAgain 7 = .ok (.sipush (-1001), 3) := by decide +kernel
theorem dL_weightAgain_10 : decode cL_weightAgain 10 = .ok (.ireturn, 1) := by decide +kernel
theorem dL_waiting_0 : decode cL_waiting 0 = .ok (.aload_n 0, 1) := by decide +kernel
theorem dL_waiting_1 : decode cL_waiting 1 = .ok (.iload_n 1, 1) := by decide +kernel
theorem dL_waiting_2 : decode cL_waiting 2 = .ok (.invokevirtual 66, 3) := by decide +kernel
theorem dL_waiting_5 : decode cL_waiting 5 = .ok (.ireturn, 1) := by decide +kernel
theorem dL_waiting_6 : decode cL_waiting 6 = .ok (.astore_n 2, 1) := by decide +kernel
theorem dL_waiting_7 : decode cL_waiting 7 = .ok (.sipush (-1001), 3) := by decide +kernel
theorem dL_waiting_10 : decode cL_waiting 10 = .ok (.ireturn, 1) := by decide +kernel
theorem dL_word_0 : decode cL_word 0 = .ok (.aload_n 0, 1) := by decide +kernel
theorem dL_word_1 : decode cL_word 1 = .ok (.iload_n 1, 1) := by decide +kernel
theorem dL_word_2 : decode cL_word 2 = .ok (.invokevirtual 71, 3) := by decide +kernel
theorem dL_word_5 : decode cL_word 5 = .ok (.ireturn, 1) := by decide +kernel
theorem dL_word_6 : decode cL_word 6 = .ok (.astore_n 2, 1) := by decide +kernel
theorem dL_word_7 : decode cL_word 7 = .ok (.sipush (-1001), 3) := by decide +kernel
theorem dL_word_10 : decode cL_word 10 = .ok (.ireturn, 1) := by decide +kernel
theorem dL_word_11 : decode cL_word 11 = .ok (.astore_n 2, 1) := by decide +kernel
theorem dL_word_12 : decode cL_word 12 = .ok (.sipush (-1002), 3) := by decide +kernel
theorem dL_word_15 : decode cL_word 15 = .ok (.ireturn, 1) := by decide +kernel
theorem dL_sign_0 : decode cL_sign 0 = .ok (.aload_n 0, 1) := by decide +kernel
theorem dL_sign_1 : decode cL_sign 1 = .ok (.iload_n 1, 1) := by decide +kernel
theorem dL_sign_2 : decode cL_sign 2 = .ok (.invokevirtual 74, 3) := by decide +kernel
theorem dL_sign_5 : decode cL_sign 5 = .ok (.ireturn, 1) := by decide +kernel
theorem dL_sign_6 : decode cL_sign 6 = .ok (.astore_n 2, 1) := by decide +kernel
theorem dL_sign_7 : decode cL_sign 7 = .ok (.sipush (-1001), 3) := by decide +kernel
theorem dL_sign_10 : decode cL_sign 10 = .ok (.ireturn, 1) := by decide +kernel
theorem dL_isWithin_0 : decode cL_isWithin 0 = .ok (.aload_n 0, 1) := by decide +kernel
theorem dL_isWithin_1 : decode cL_isWithin 1 = .ok (.iload_n 1, 1) := by decide +kernel
theorem dL_isWithin_2 : decode cL_isWithin 2 = .ok (.iload_n 2, 1) := by decide +kernel
theorem dL_isWithin_3 : decode cL_isWithin 3 = .ok (.invokevirtual 78, 3) := by decide +kernel
theorem dL_isWithin_6 : decode cL_isWithin 6 = .ok (.ifCond .eq 7, 3) := by decide +kernel
theorem dL_isWithin_9 : decode cL_isWithin 9 = .ok (.iconst 1, 1) := by decide +kernel
theorem dL_isWithin_10 : decode cL_isWithin 10 = .ok (.goto 4, 3) := by decide +kernel
theorem dL_isWithin_13 : decode cL_isWithin 13 = .ok (.iconst 0, 1) := by decide +kernel
theorem dL_isWithin_14 : decode cL_isWithin 14 = .ok (.ireturn, 1) := by decide +kernel
theorem dL_isWithin_15 : decode cL_isWithin 15 = .ok (.astore_n 3, 1) := by decide +kernel
theorem dL_isWithin_16 : decode cL_isWithin 16 = .ok (.sipush (-1001), 3) := by decide +kernel
theorem dL_isWithin_19 : decode cL_isWithin 19 = .ok (.ireturn, 1) := by decide +kernel
theorem dL_endsIn_0 : decode cL_endsIn 0 = .ok (.aload_n 0, 1) := by decide +kernel
theorem dL_endsIn_1 : decode cL_endsIn 1 = .ok (.iload_n 1, 1) := by decide +kernel
theorem dL_endsIn_2 : decode cL_endsIn 2 = .ok (.invokevirtual 82, 3) := by decide +kernel
theorem dL_endsIn_5 : decode cL_endsIn 5 = .ok (.ireturn, 1) := by decide +kernel
theorem dL_endsIn_6 : decode cL_endsIn 6 = .ok (.astore_n 2, 1) := by decide +kernel
theorem dL_endsIn_7 : decode cL_endsIn 7 = .ok (.sipush (-1001), 3) := by decide +kernel
theorem dL_endsIn_10 : decode cL_endsIn 10 = .ok (.ireturn, 1) := by decide +kernel
theorem dL_endsIn_11 : decode cL_endsIn 11 = .ok (.astore_n 2, 1) := by decide +kernel
theorem dL_endsIn_12 : decode cL_endsIn 12 = .ok (.sipush (-1002), 3) := by decide +kernel
theorem dL_endsIn_15 : decode cL_endsIn 15 = .ok (.ireturn, 1) := by decide +kernel
theorem dL_ends_0 : decode cL_ends 0 = .ok (.aload_n 0, 1) := by decide +kernel
theorem dL_ends_1 : decode cL_ends 1 = .ok (.iload_n 1, 1) := by decide +kernel
theorem dL_ends_2 : decode cL_ends 2 = .ok (.iload_n 2, 1) := by decide +kernel
theorem dL_ends_3 : decode cL_ends 3 = .ok (.invokevirtual 85, 3) := by decide +kernel
theorem dL_ends_6 : decode cL_ends 6 = .ok (.ireturn, 1) := by decide +kernel
theorem dL_ends_7 : decode cL_ends 7 = .ok (.astore_n 3, 1) := by decide +kernel
theorem dL_ends_8 : decode cL_ends 8 = .ok (.sipush (-1001), 3) := by decide +kernel
theorem dL_ends_11 : decode cL_ends 11 = .ok (.ireturn, 1) := by decide +kernel
theorem dL_ends_12 : decode cL_ends 12 = .ok (.astore_n 3, 1) := by decide +kernel
theorem dL_ends_13 : decode cL_ends 13 = .ok (.sipush (-1002), 3) := by decide +kernel
theorem dL_ends_16 : decode cL_ends 16 = .ok (.ireturn, 1) := by decide +kernel
theorem dL_ends_17 : decode cL_ends 17 = .ok (.astore_n 3, 1) := by decide +kernel
theorem dL_ends_18 : decode cL_ends 18 = .ok (.sipush (-1003), 3) := by decide +kernel
theorem dL_ends_21 : decode cL_ends 21 = .ok (.ireturn, 1) := by decide +kernel
theorem dL_bestDrop_0 : decode cL_bestDrop 0 = .ok (.aload_n 0, 1) := by decide +kernel
theorem dL_bestDrop_1 : decode cL_bestDrop 1 = .ok (.iload_n 1, 1) := by decide +kernel
theorem dL_bestDrop_2 : decode cL_bestDrop 2 = .ok (.invokevirtual 88, 3) := by decide +kernel
theorem dL_bestDrop_5 : decode cL_bestDrop 5 = .ok (.ireturn, 1) := by decide +kernel
theorem dL_bestDrop_6 : decode cL_bestDrop 6 = .ok (.astore_n 2, 1) := by decide +kernel
theorem dL_bestDrop_7 : decode cL_bestDrop 7 = .ok (.sipush (-1001), 3) := by decide +kernel
theorem dL_bestDrop_10 : decode cL_bestDrop 10 = .ok (.ireturn, 1) := by decide +kernel
theorem dL_bestDrop_11 : decode cL_bestDrop 11 = .ok (.astore_n 2, 1) := by decide +kernel
theorem dL_bestDrop_12 : decode cL_bestDrop 12 = .ok (.sipush (-1002), 3) := by decide +kernel
theorem dL_bestDrop_15 : decode cL_bestDrop 15 = .ok (.ireturn, 1) := by decide +kernel
theorem dL_append_0 : decode cL_append 0 = .ok (.aload_n 0, 1) := by decide +kernel
theorem dL_append_1 : decode cL_append 1 = .ok (.iload_n 1, 1) := by decide +kernel
theorem dL_append_2 : decode cL_append 2 = .ok (.invokevirtual 91, 3) := by decide +kernel
theorem dL_append_5 : decode cL_append 5 = .ok (.ireturn, 1) := by decide +kernel
theorem dL_append_6 : decode cL_append 6 = .ok (.astore_n 2, 1) := by decide +kernel
theorem dL_append_7 : decode cL_append 7 = .ok (.sipush (-1001), 3) := by decide +kernel
theorem dL_append_10 : decode cL_append 10 = .ok (.ireturn, 1) := by decide +kernel
theorem dL_read_0 : decode cL_read 0 = .ok (.aload_n 0, 1) := by decide +kernel
theorem dL_read_1 : decode cL_read 1 = .ok (.invokevirtual 97, 3) := by decide +kernel
theorem dL_read_4 : decode cL_read 4 = .ok (.ireturn, 1) := by decide +kernel
theorem dL_read_5 : decode cL_read 5 = .ok (.astore_n 1, 1) := by decide +kernel
theorem dL_read_6 : decode cL_read 6 = .ok (.sipush (-1001), 3) := by decide +kernel
theorem dL_read_9 : decode cL_read 9 = .ok (.ireturn, 1) := by decide +kernel
theorem dL_read_10 : decode cL_read 10 = .ok (.astore_n 1, 1) := by decide +kernel
theorem dL_read_11 : decode cL_read 11 = .ok (.sipush (-1002), 3) := by decide +kernel
theorem dL_read_14 : decode cL_read 14 = .ok (.ireturn, 1) := by decide +kernel
theorem dL_refusal_0 : decode cL_refusal 0 = .ok (.aload_n 0, 1) := by decide +kernel
theorem dL_refusal_1 : decode cL_refusal 1 = .ok (.iload_n 1, 1) := by decide +kernel
theorem dL_refusal_2 : decode cL_refusal 2 = .ok (.invokevirtual 101, 3) := by decide +kernel
theorem dL_refusal_5 : decode cL_refusal 5 = .ok (.ireturn, 1) := by decide +kernel
theorem dL_refusal_6 : decode cL_refusal 6 = .ok (.astore_n 2, 1) := by decide +kernel
theorem dL_refusal_7 : decode cL_refusal 7 = .ok (.sipush (-1001), 3) := by decide +kernel
theorem dL_refusal_10 : decode cL_refusal 10 = .ok (.ireturn, 1) := by decide +kernel
theorem dL_account_0 : decode cL_account 0 = .ok (.aload_n 0, 1) := by decide +kernel
theorem dL_account_1 : decode cL_account 1 = .ok (.iload_n 1, 1) := by decide +kernel
theorem dL_account_2 : decode cL_account 2 = .ok (.invokevirtual 105, 3) := by decide +kernel
theorem dL_account_5 : decode cL_account 5 = .ok (.ireturn, 1) := by decide +kernel
theorem dL_account_6 : decode cL_account 6 = .ok (.astore_n 2, 1) := by decide +kernel
theorem dL_account_7 : decode cL_account 7 = .ok (.sipush (-1001), 3) := by decide +kernel
theorem dL_account_10 : decode cL_account 10 = .ok (.ireturn, 1) := by decide +kernel
theorem dL_meanDistance_0 : decode cL_meanDistance 0 = .ok (.aload_n 0, 1) := by decide +kernel
theorem dL_meanDistance_1 : decode cL_meanDistance 1 = .ok (.invokevirtual 108, 3) := by decide +kernel
theorem dL_meanDistance_4 : decode cL_meanDistance 4 = .ok (.dreturn, 1) := by decide +kernel
theorem dL_meanDistance_5 : decode cL_meanDistance 5 = .ok (.astore_n 1, 1) := by decide +kernel
theorem dL_meanDistance_6 : decode cL_meanDistance 6 = .ok (.ldc2_w 114, 3) := by decide +kernel
theorem dL_meanDistance_9 : decode cL_meanDistance 9 = .ok (.dreturn, 1) := by decide +kernel
theorem dL_share_0 : decode cL_share 0 = .ok (.aload_n 0, 1) := by decide +kernel
theorem dL_share_1 : decode cL_share 1 = .ok (.invokevirtual 116, 3) := by decide +kernel
theorem dL_share_4 : decode cL_share 4 = .ok (.freturn, 1) := by decide +kernel
theorem dL_share_5 : decode cL_share 5 = .ok (.astore_n 1, 1) := by decide +kernel
theorem dL_share_6 : decode cL_share 6 = .ok (.ldc 120, 2) := by decide +kernel
theorem dL_share_8 : decode cL_share 8 = .ok (.freturn, 1) := by decide +kernel
theorem dL_undo_0 : decode cL_undo 0 = .ok (.aload_n 0, 1) := by decide +kernel
theorem dL_undo_1 : decode cL_undo 1 = .ok (.invokevirtual 121, 3) := by decide +kernel
theorem dL_undo_4 : decode cL_undo 4 = .ok (.ireturn, 1) := by decide +kernel
theorem dL_undo_5 : decode cL_undo 5 = .ok (.astore_n 1, 1) := by decide +kernel
theorem dL_undo_6 : decode cL_undo 6 = .ok (.sipush (-1001), 3) := by decide +kernel
theorem dL_undo_9 : decode cL_undo 9 = .ok (.ireturn, 1) := by decide +kernel
