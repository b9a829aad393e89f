theorem dX5_read_33 : decode cX5_read 33 = .ok (.iload_n 1, 1) := by decide +kernel
theorem dX5_read_34 : decode cX5_read 34 = .ok (.aload_n 0, 1) := by decide +kernel
theorem dX5_read_35 : decode cX5_read 35 = .ok (.getfield 36, 3) := by decide +kernel
theorem dX5_read_38 : decode cX5_read 38 = .ok (.getfield 200, 3) := by decide +kernel
theorem dX5_read_41 : decode cX5_read 41 = .ok (.if_icmp .ge 51, 3) := by decide +kernel
theorem dX5_read_44 : decode cX5_read 44 = .ok (.aload_n 0, 1) := by decide +kernel
theorem dX5_read_45 : decode cX5_read 45 = .ok (.iload_n 1, 1) := by decide +kernel
theorem dX5_read_46 : decode cX5_read 46 = .ok (.invokevirtual 203, 3) := by decide +kernel
theorem dX5_read_49 : decode cX5_read 49 = .ok (.istore_n 2, 1) := by decide +kernel
theorem dX5_read_50 : decode cX5_read 50 = .ok (.iload_n 2, 1) := by decide +kernel
theorem dX5_read_51 : decode cX5_read 51 = .ok (.invokestatic 206, 3) := by decide +kernel
theorem dX5_read_54 : decode cX5_read 54 = .ok (.ifCond .eq 32, 3) := by decide +kernel
theorem dX5_read_57 : decode cX5_read 57 = .ok (.aload_n 0, 1) := by decide +kernel
theorem dX5_read_58 : decode cX5_read 58 = .ok (.getfield 19, 3) := by decide +kernel
theorem dX5_read_61 : decode cX5_read 61 = .ok (.aload_n 0, 1) := by decide +kernel
theorem dX5_read_62 : decode cX5_read 62 = .ok (.getfield 10, 3) := by decide +kernel
theorem dX5_read_65 : decode cX5_read 65 = .ok (.invokevirtual 209, 3) := by decide +kernel
theorem dX5_read_68 : decode cX5_read 68 = .ok (.aload_n 0, 1) := by decide +kernel
theorem dX5_read_69 : decode cX5_read 69 = .ok (.iload_n 2, 1) := by decide +kernel
theorem dX5_read_70 : decode cX5_read 70 = .ok (.bipush (-103), 2) := by decide +kernel
theorem dX5_read_72 : decode cX5_read 72 = .ok (.if_icmp .ne 8, 3) := by decide +kernel
theorem dX5_read_75 : decode cX5_read 75 = .ok (.bipush (-103), 2) := by decide +kernel
theorem dX5_read_77 : decode cX5_read 77 = .ok (.goto 5, 3) := by decide +kernel
theorem dX5_read_80 : decode cX5_read 80 = .ok (.bipush (-102), 2) := by decide +kernel
theorem dX5_read_82 : decode cX5_read 82 = .ok (.invokevirtual 48, 3) := by decide +kernel
theorem dX5_read_85 : decode cX5_read 85 = .ok (.ireturn, 1) := by decide +kernel
theorem dX5_read_86 : decode cX5_read 86 = .ok (.iinc 1 1, 3) := by decide +kernel
theorem dX5_read_89 : decode cX5_read 89 = .ok (.goto (-56), 3) := by decide +kernel
theorem dX5_read_92 : decode cX5_read 92 = .ok (.aload_n 0, 1) := by decide +kernel
theorem dX5_read_93 : decode cX5_read 93 = .ok (.aload_n 0, 1) := by decide +kernel
theorem dX5_read_94 : decode cX5_read 94 = .ok (.getfield 36, 3) := by decide +kernel
theorem dX5_read_97 : decode cX5_read 97 = .ok (.getfield 200, 3) := by decide +kernel
theorem dX5_read_100 : decode cX5_read 100 = .ok (.invokevirtual 48, 3) := by decide +kernel
theorem dX5_read_103 : decode cX5_read 103 = .ok (.ireturn, 1) := by decide +kernel
theorem dX5_errorPosition_0 : decode cX5_errorPosition 0 = .ok (.aload_n 0, 1) := by decide +kernel
theorem dX5_errorPosition_1 : decode cX5_errorPosition 1 = .ok (.getfield 36, 3) := by decide +kernel
theorem dX5_errorPosition_4 : decode cX5_errorPosition 4 = .ok (.getfield 212, 3) := by decide +kernel
theorem dX5_errorPosition_7 : decode cX5_errorPosition 7 = .ok (.ireturn, 1) := by decide +kernel
theorem dX5_refusal_0 : decode cX5_refusal 0 = .ok (.aload_n 0, 1) := by decide +kernel
theorem dX5_refusal_1 : decode cX5_refusal 1 = .ok (.getfield 10, 3) := by decide +kernel
theorem dX5_refusal_4 : decode cX5_refusal 4 = .ok (.getfield 215, 3) := by decide +kernel
theorem dX5_refusal_7 : decode cX5_refusal 7 = .ok (.ifCond .ne 13, 3) := by decide +kernel
theorem dX5_refusal_10 : decode cX5_refusal 10 = .ok (.new 131, 3) := by decide +kernel
theorem dX5_refusal_13 : decode cX5_refusal 13 = .ok (.dup, 1) := by decide +kernel
theorem dX5_refusal_14 : decode cX5_refusal 14 = .ok (.ldc 218, 2) := by decide +kernel
theorem dX5_refusal_16 : decode cX5_refusal 16 = .ok (.invokespecial 135, 3) := by decide +kernel
theorem dX5_refusal_19 : decode cX5_refusal 19 = .ok (.athrow, 1) := by decide +kernel
theorem dX5_refusal_20 : decode cX5_refusal 20 = .ok (.iload_n 1, 1) := by decide +kernel
theorem dX5_refusal_21 : decode cX5_refusal 21 = .ok (.ifCond .eq 13, 3) := by decide +kernel
theorem dX5_refusal_24 : decode cX5_refusal 24 = .ok (.aload_n 0, 1) := by decide +kernel
theorem dX5_refusal_25 : decode cX5_refusal 25 = .ok (.getfield 10, 3) := by decide +kernel
theorem dX5_refusal_28 : decode cX5_refusal 28 = .ok (.getfield 220, 3) := by decide +kernel
theorem dX5_refusal_31 : decode cX5_refusal 31 = .ok (.goto 10, 3) := by decide +kernel
theorem dX5_refusal_34 : decode cX5_refusal 34 = .ok (.aload_n 0, 1) := by decide +kernel
theorem dX5_refusal_35 : decode cX5_refusal 35 = .ok (.getfield 10, 3) := by decide +kernel
theorem dX5_refusal_38 : decode cX5_refusal 38 = .ok (.getfield 215, 3) := by decide +kernel
theorem dX5_refusal_41 : decode cX5_refusal 41 = .ok (.ireturn, 1) := by decide +kernel
theorem dX5_account_0 : decode cX5_account 0 = .ok (.iload_n 1, 1) := by decide +kernel
theorem dX5_account_1 : decode cX5_account 1 = .ok (.iconst 0, 1) := by decide +kernel
theorem dX5_account_2 : decode cX5_account 2 = .ok (.bipush 20, 2) := by decide +kernel
theorem dX5_account_4 : decode cX5_account 4 = .ok (.invokestatic 93, 3) := by decide +kernel
theorem dX5_account_7 : decode cX5_account 7 = .ok (.ifCond .ne 13, 3) := by decide +kernel
theorem dX5_account_10 : decode cX5_account 10 = .ok (.new 97, 3) := by decide +kernel
theorem dX5_account_13 : decode cX5_account 13 = .ok (.dup, 1) := by decide +kernel
theorem dX5_account_14 : decode cX5_account 14 = .ok (.ldc 223, 2) := by decide +kernel
theorem dX5_account_16 : decode cX5_account 16 = .ok (.invokespecial 101, 3) := by decide +kernel
theorem dX5_account_19 : decode cX5_account 19 = .ok (.athrow, 1) := by decide +kernel
theorem dX5_account_20 : decode cX5_account 20 = .ok (.iload_n 1, 1) := by decide +kernel
theorem dX5_account_21 : decode cX5_account 21 = .ok (.bipush 19, 2) := by decide +kernel
theorem dX5_account_23 : decode cX5_account 23 = .ok (.if_icmp .ne 11, 3) := by decide +kernel
theorem dX5_account_26 : decode cX5_account 26 = .ok (.aload_n 0, 1) := by decide +kernel
theorem dX5_account_27 : decode cX5_account 27 = .ok (.getfield 36, 3) := by decide +kernel
theorem dX5_account_30 : decode cX5_account 30 = .ok (.getfield 192, 3) := by decide +kernel
theorem dX5_account_33 : decode cX5_account 33 = .ok (.ireturn, 1) := by decide +kernel
theorem dX5_account_34 : decode cX5_account 34 = .ok (.iload_n 1, 1) := by decide +kernel
theorem dX5_account_35 : decode cX5_account 35 = .ok (.bipush 20, 2) := by decide +kernel
theorem dX5_account_37 : decode cX5_account 37 = .ok (.if_icmp .ne 11, 3) := by decide +kernel
theorem dX5_account_40 : decode cX5_account 40 = .ok (.aload_n 0, 1) := by decide +kernel
theorem dX5_account_41 : decode cX5_account 41 = .ok (.getfield 19, 3) := by decide +kernel
theorem dX5_account_44 : decode cX5_account 44 = .ok (.getfield 225, 3) := by decide +kernel
theorem dX5_account_47 : decode cX5_account 47 = .ok (.ireturn, 1) := by decide +kernel
theorem dX5_account_48 : decode cX5_account 48 = .ok (.aload_n 0, 1) := by decide +kernel
theorem dX5_account_49 : decode cX5_account 49 = .ok (.getfield 10, 3) := by decide +kernel
theorem dX5_account_52 : decode cX5_account 52 = .ok (.iload_n 1, 1) := by decide +kernel
theorem dX5_account_53 : decode cX5_account 53 = .ok (.invokevirtual 228, 3) := by decide +kernel
theorem dX5_account_56 : decode cX5_account 56 = .ok (.ireturn, 1) := by decide +kernel
theorem dX5_isWell_0 : decode cX5_isWell 0 = .ok (.aload_n 0, 1) := by decide +kernel
theorem dX5_isWell_1 : decode cX5_isWell 1 = .ok (.getfield 10, 3) := by decide +kernel
theorem dX5_isWell_4 : decode cX5_isWell 4 = .ok (.getfield 229, 3) := by decide +kernel
theorem dX5_isWell_7 : decode cX5_isWell 7 = .ok (.aload_n 0, 1) := by decide +kernel
theorem dX5_isWell_8 : decode cX5_isWell 8 = .ok (.getfield 10, 3) := by decide +kernel
theorem dX5_isWell_11 : decode cX5_isWell 11 = .ok (.getfield 232, 3) := by decide +kernel
theorem dX5_isWell_14 : decode cX5_isWell 14 = .ok (.aload_n 0, 1) := by decide +kernel
theorem dX5_isWell_15 : decode cX5_isWell 15 = .ok (.getfield 10, 3) := by decide +kernel
theorem dX5_isWell_18 : decode cX5_isWell 18 = .ok (.getfield 235, 3) := by decide +kernel
theorem dX5_isWell_21 : decode cX5_isWell 21 = .ok (.iadd, 1) := by decide +kernel
theorem dX5_isWell_22 : decode cX5_isWell 22 = .ok (.aload_n 0, 1) := by decide +kernel
theorem dX5_isWell_23 : decode cX5_isWell 23 = .ok (.getfield 10, 3) := by decide +kernel
theorem dX5_isWell_26 : decode cX5_isWell 26 = .ok (.getfield 238, 3) := by decide +kernel
theorem dX5_isWell_29 : decode cX5_isWell 29 = .ok (.iadd, 1) := by decide +kernel
theorem dX5_isWell_30 : decode cX5_isWell 30 = .ok (.aload_n 0, 1) := by decide +kernel
theorem dX5_isWell_31 : decode cX5_isWell 31 = .ok (.getfield 10, 3) := by decide +kernel
theorem dX5_isWell_34 : decode cX5_isWell 34 = .ok (.invokevirtual 241, 3) := by decide +kernel
theorem dX5_isWell_37 : decode cX5_isWell 37 = .ok (.iadd, 1) := by decide +kernel
theorem dX5_isWell_38 : decode cX5_isWell 38 = .ok (.if_icmp .ne 7, 3) := by decide +kernel
theorem dX5_isWell_41 : decode cX5_isWell 41 = .ok (.iconst 1, 1) := by decide +kernel
theorem dX5_isWell_42 : decode cX5_isWell 42 = .ok (.goto 4, 3) := by decide +kernel
theorem dX5_isWell_45 : decode cX5_isWell 45 = .ok (.iconst 0, 1) := by decide +kernel
theorem dX5_isWell_46 : decode cX5_isWell 46 = .ok (.ireturn, 1) := by decide +kernel
theorem dX5_meanDistance_0 : decode cX5_meanDistance 0 = .ok (.aload_n 0, 1) := by decide +kernel
theorem dX5_meanDistance_1 : decode cX5_meanDistance 1 = .ok (.getfield 10, 3) := by decide +kernel
theorem dX5_meanDistance_4 : decode cX5_meanDistance 4 = .ok (.iconst 2, 1) := by decide +kernel
theorem dX5_meanDistance_5 : decode cX5_meanDistance 5 = .ok (.invokevirtual 244, 3) := by decide +kernel
theorem dX5_meanDistance_8 : decode cX5_meanDistance 8 = .ok (.istore_n 1, 1) := by decide +kernel
theorem dX5_meanDistance_9 : decode cX5_meanDistance 9 = .ok (.iload_n 1, 1) := by decide +kernel
theorem dX5_meanDistance_10 : decode cX5_meanDistance 10 = .ok (.ifCond .ne 13, 3) := by decide +kernel
theorem dX5_meanDistance_13 : decode cX5_meanDistance 13 = .ok (.new 247, 3) := by decide +kernel
theorem dX5_meanDistance_16 : decode cX5_meanDistance 16 = .ok (.dup, 1) := by decide +kernel
theorem dX5_meanDistance_17 : decode cX5_meanDistance 17 = .ok (.ldc 249, 2) := by decide +kernel
theorem dX5_meanDistance_19 : decode cX5_meanDistance 19 = .ok (.invokespecial 251, 3) := by decide +kernel
theorem dX5_meanDistance_22 : decode cX5_meanDistance 22 = .ok (.athrow, 1) := by decide +kernel
theorem dX5_meanDistance_23 : decode cX5_meanDistance 23 = .ok (.aload_n 0, 1) := by decide +kernel
theorem dX5_meanDistance_24 : decode cX5_meanDistance 24 = .ok (.getfield 10, 3) := by decide +kernel
theorem dX5_meanDistance_27 : decode cX5_meanDistance 27 = .ok (.invokevirtual 252, 3) := by decide +kernel
theorem dX5_meanDistance_30 : decode cX5_meanDistance 30 = .ok (.i2d, 1) := by decide +kernel
theorem dX5_meanDistance_31 : decode cX5_meanDistance 31 = .ok (.iload_n 1, 1) := by decide +kernel
theorem dX5_meanDistance_32 : decode cX5_meanDistance 32 = .ok (.i2d, 1) := by decide +kernel
theorem dX5_meanDistance_33 : decode cX5_meanDistance 33 = .ok (.ddiv, 1) := by decide +kernel
theorem dX5_meanDistance_34 : decode cX5_meanDistance 34 = .ok (.dreturn, 1) := by decide +kernel
theorem dX5_share_0 : decode cX5_share 0 = .ok (.aload_n 0, 1) := by decide +kernel
theorem dX5_share_1 : decode cX5_share 1 = .ok (.getfield 10, 3) := by decide +kernel
theorem dX5_share_4 : decode cX5_share 4 = .ok (.iconst 2, 1) := by decide +kernel
theorem dX5_share_5 : decode cX5_share 5 = .ok (.invokevirtual 255, 3) := by decide +kernel
theorem dX5_share_8 : decode cX5_share 8 = .ok (.istore_n 1, 1) := by decide +kernel
theorem dX5_share_9 : decode cX5_share 9 = .ok (.iload_n 1, 1) := by decide +kernel
theorem dX5_share_10 : decode cX5_share 10 = .ok (.aload_n 0, 1) := by decide +kernel
theorem dX5_share_11 : decode cX5_share 11 = .ok (.getfield 10, 3) := by decide +kernel
theorem dX5_share_14 : decode cX5_share 14 = .ok (.iconst 3, 1) := by decide +kernel
theorem dX5_share_15 : decode cX5_share 15 = .ok (.invokevirtual 255, 3) := by decide +kernel
theorem dX5_share_18 : decode cX5_share 18 = .ok (.iadd, 1) := by decide +kernel
theorem dX5_share_19 : decode cX5_share 19 = .ok (.istore_n 2, 1) := by decide +kernel
theorem dX5_share_20 : decode cX5_share 20 = .ok (.iload_n 2, 1) := by decide +kernel
theorem dX5_share_21 : decode cX5_share 21 = .ok (.ifCond .ne 14, 3) := by decide +kernel
theorem dX5_share_24 : decode cX5_share 24 = .ok (.new 247, 3) := by decide +kernel
theorem dX5_share_27 : decode cX5_share 27 = .ok (.dup, 1) := by decide +kernel
theorem dX5_share_28 : decode cX5_share 28 = .ok (.ldc_w 258, 3) := by decide +kernel
theorem dX5_share_31 : decode cX5_share 31 = .ok (.invokespecial 251, 3) := by decide +kernel
theorem dX5_share_34 : decode cX5_share 34 = .ok (.athrow, 1) := by decide +kernel
theorem dX5_share_35 : decode cX5_share 35 = .ok (.iload_n 1, 1) := by decide +kernel
theorem dX5_share_36 : decode cX5_share 36 = .ok (.i2f, 1) := by decide +kernel
theorem dX5_share_37 : decode cX5_share 37 = .ok (.iload_n 2, 1) := by decide +kernel
theorem dX5_share_38 : decode cX5_share 38 = .ok (.i2f, 1) := by decide +kernel
theorem dX5_share_39 : decode cX5_share 39 = .ok (.fdiv, 1) := by decide +kernel
theorem dX5_share_40 : decode cX5_share 40 = .ok (.freturn, 1) := by decide +kernel
theorem dX5_undo_0 : decode cX5_undo 0 = .ok (.aload_n 0, 1) := by decide +kernel
theorem dX5_undo_1 : decode cX5_undo 1 = .ok (.getfield 19, 3) := by decide +kernel
theorem dX5_undo_4 : decode cX5_undo 4 = .ok (.aload_n 0, 1) := by decide +kernel
theorem dX5_undo_5 : decode cX5_undo 5 = .ok (.getfield 10, 3) := by decide +kernel
theorem dX5_undo_8 : decode cX5_undo 8 = .ok (.invokevirtual 260, 3) := by decide +kernel
theorem dX5_undo_11 : decode cX5_undo 11 = .ok (.ifCond .ne 14, 3) := by decide +kernel
theorem dX5_undo_14 : decode cX5_undo 14 = .ok (.new 187, 3) := by decide +kernel
theorem dX5_undo_17 : decode cX5_undo 17 = .ok (.dup, 1) := by decide +kernel
theorem dX5_undo_18 : decode cX5_undo 18 = .ok (.ldc_w 264, 3) := by decide +kernel
theorem dX5_undo_21 : decode cX5_undo 21 = .ok (.invokespecial 191, 3) := by decide +kernel
theorem dX5_undo_24 : decode cX5_undo 24 = .ok (.athrow, 1) := by decide +kernel
theorem dX5_undo_25 : decode cX5_undo 25 = .ok (.aload_n 0, 1) := by decide +kernel
theorem dX5_undo_26 : decode cX5_undo 26 = .ok (.getfield 19, 3) := by decide +kernel
theorem dX5_undo_29 : decode cX5_undo 29 = .ok (.getfield 225, 3) := by decide +kernel
theorem dX5_undo_32 : decode cX5_undo 32 = .ok (.ireturn, 1) := by decide +kernel
theorem dX5_save_0 : decode cX5_save 0 = .ok (.aload_n 0, 1) := by decide +kernel
theorem dX5_save_1 : decode cX5_save 1 = .ok (.getfield 23, 3) := by decide +kernel
theorem dX5_save_4 : decode cX5_save 4 = .ok (.aload_n 0, 1) := by decide +kernel
theorem dX5_save_5 : decode cX5_save 5 = .ok (.getfield 10, 3) := by decide +kernel
theorem dX5_save_8 : decode cX5_save 8 = .ok (.invokevirtual 266, 3) := by decide +kernel
theorem dX5_save_11 : decode cX5_save 11 = .ok (.aload_n 0, 1) := by decide +kernel
theorem dX5_save_12 : decode cX5_save 12 = .ok (.iconst 1, 1) := by decide +kernel
theorem dX5_save_13 : decode cX5_save 13 = .ok (.putfield 269, 3) := by decide +kernel
theorem dX5_save_16 : decode cX5_save 16 = .ok (.aload_n 0, 1) := by decide +kernel
theorem dX5_save_17 : decode cX5_save 17 = .ok (.getfield 10, 3) := by decide +kernel
theorem dX5_save_20 : decode cX5_save 20 = .ok (.getfield 273, 3) := by decide +kernel
theorem dX5_save_23 : decode cX5_save 23 = .ok (.ireturn, 1) := by decide +kernel
theorem dX5_restore_0 : decode cX5_restore 0 = .ok (.aload_n 0, 1) := by decide +kernel
theorem dX5_restore_1 : decode cX5_restore 1 = .ok (.getfield 269, 3) := by decide +kernel
theorem dX5_restore_4 : decode cX5_restore 4 = .ok (.ifCond .ne 14, 3) := by decide +kernel
theorem dX5_restore_7 : decode cX5_restore 7 = .ok (.new 187, 3) := by decide +kernel
theorem dX5_restore_10 : decode cX5_restore 10 = .ok (.dup, 1) := by decide +kernel
theorem dX5_restore_11 : decode cX5_restore 11 = .ok (.ldc_w 276, 3) := by decide +kernel
theorem dX5_restore_14 : decode cX5_restore 14 = .ok (.invokespecial 191, 3) := by decide +kernel
theorem dX5_restore_17 : decode cX5_restore 17 = .ok (.athrow, 1) := by decide +kernel
theorem dX5_restore_18 : decode cX5_restore 18 = .ok (.aload_n 0, 1) := by decide +kernel
theorem dX5_restore_19 : decode cX5_restore 19 = .ok (.getfield 10, 3) := by decide +kernel
theorem dX5_restore_22 : decode cX5_restore 22 = .ok (.aload_n 0, 1) := by decide +kernel
theorem dX5_restore_23 : decode cX5_restore 23 = .ok (.getfield 23, 3) := by decide +kernel
theorem dX5_restore_26 : decode cX5_restore 26 = .ok (.invokevirtual 266, 3) := by decide +kernel
theorem dX5_restore_29 : decode cX5_restore 29 = .ok (.aload_n 0, 1) := by decide +kernel
theorem dX5_restore_30 : decode cX5_restore 30 = .ok (.getfield 19, 3) := by decide +kernel
theorem dX5_restore_33 : decode cX5_restore 33 = .ok (.invokevirtual 278, 3) := by decide +kernel
theorem dX5_restore_36 : decode cX5_restore 36 = .ok (.aload_n 0, 1) := by decide +kernel
theorem dX5_restore_37 : decode cX5_restore 37 = .ok (.getfield 10, 3) := by decide +kernel
theorem dX5_restore_40 : decode cX5_restore 40 = .ok (.getfield 273, 3) := by decide +kernel
theorem dX5_restore_43 : decode cX5_restore 43 = .ok (.ireturn, 1) := by decide +kernel
theorem dX5_needBalloon_0 : decode cX5_needBalloon 0 = .ok (.aload_n 0, 1) := by decide +kernel
theorem dX5_needBalloon_1 : decode cX5_needBalloon 1 = .ok (.getfield 10, 3) := by decide +kernel
theorem dX5_needBalloon_4 : decode cX5_needBalloon 4 = .ok (.iload_n 1, 1) := by decide +kernel
theorem dX5_needBalloon_5 : decode cX5_needBalloon 5 = .ok (.invokevirtual 281, 3) := by decide +kernel
theorem dX5_needBalloon_8 : decode cX5_needBalloon 8 = .ok (.ifCond .ne 14, 3) := by decide +kernel
theorem dX5_needBalloon_11 : decode cX5_needBalloon 11 = .ok (.new 115, 3) := by decide +kernel
theorem dX5_needBalloon_14 : decode cX5_needBalloon 14 = .ok (.dup, 1) := by decide +kernel
theorem dX5_needBalloon_15 : decode cX5_needBalloon 15 = .ok (.ldc_w 284, 3) := by decide +kernel
theorem dX5_needBalloon_18 : decode cX5_needBalloon 18 = .ok (.invokespecial 119, 3) := by decide +kernel
theorem dX5_needBalloon_21 : decode cX5_needBalloon 21 = .ok (.athrow, 1) := by decide +kernel
theorem dX5_needBalloon_22 : decode cX5_needBalloon 22 = .ok (.return_, 1) := by decide +kernel
theorem dX5_needAloft_0 : decode cX5_needAloft 0 = .ok (.aload_n 0, 1) := by decide +kernel
theorem dX5_needAloft_1 : decode cX5_needAloft 1 = .ok (.getfield 10, 3) := by decide +kernel
theorem dX5_needAloft_4 : decode cX5_needAloft 4 = .ok (.getfield 104, 3) := by decide +kernel
theorem dX5_needAloft_7 : decode cX5_needAloft 7 = .ok (.iload_n 1, 1) := by decide +kernel
theorem dX5_needAloft_8 : decode cX5_needAloft 8 = .ok (.aaload, 1) := by decide +kernel
theorem dX5_needAloft_9 : decode cX5_needAloft 9 = .ok (.getfield 146, 3) := by decide +kernel
theorem dX5_needAloft_12 : decode cX5_needAloft 12 = .ok (.iconst 1, 1) := by decide +kernel
theorem dX5_needAloft_13 : decode cX5_needAloft 13 = .ok (.if_icmp .eq 14, 3) := by decide +kernel
theorem dX5_needAloft_16 : decode cX5_needAloft 16 = .ok (.new 131, 3) := by decide +kernel
theorem dX5_needAloft_19 : decode cX5_needAloft 19 = .ok (.dup, 1) := by decide +kernel
theorem dX5_needAloft_20 : decode cX5_needAloft 20 = .ok (.ldc_w 286, 3) := by decide +kernel
theorem dX5_needAloft_23 : decode cX5_needAloft 23 = .ok (.invokespecial 135, 3) := by decide +kernel
theorem dX5_needAloft_26 : decode cX5_needAloft 26 = .ok (.athrow, 1) := by decide +kernel
theorem dX5_needAloft_27 : decode cX5_needAloft 27 = .ok (.return_, 1) := by decide +kernel
theorem dX5_answerOf_0 : decode cX5_answerOf 0 = .ok (.iload_n 1, 1) := by decide +kernel
theorem dX5_answerOf_1 : decode cX5_answerOf 1 = .ok (.tableswitch 60 (-103) (-101) #[49, 38, 27], 27) := by decide +kernel
theorem dX5_answerOf_28 : decode cX5_answerOf 28 = .ok (.new 115, 3) := by decide +kernel
theorem dX5_answerOf_31 : decode cX5_answerOf 31 = .ok (.dup, 1) := by decide +kernel
theorem dX5_answerOf_32 : decode cX5_answerOf 32 = .ok (.ldc_w 288, 3) := by decide +kernel
theorem dX5_answerOf_35 : decode cX5_answerOf 35 = .ok (.invokespecial 119, 3) := by decide +kernel
theorem dX5_answerOf_38 : decode cX5_answerOf 38 = .ok (.athrow, 1) := by decide +kernel
theorem dX5_answerOf_39 : decode cX5_answerOf 39 = .ok (.new 97, 3) := by decide +kernel
theorem dX5_answerOf_42 : decode cX5_answerOf 42 = .ok (.dup, 1) := by decide +kernel
theorem dX5_answerOf_43 : decode cX5_answerOf 43 = .ok (.ldc_w 290, 3) := by decide +kernel
theorem dX5_answerOf_46 : decode cX5_answerOf 46 = .ok (.invokespecial 101, 3) := by decide +kernel
theorem dX5_answerOf_49 : decode cX5_answerOf 49 = .ok (.athrow, 1) := by decide +kernel
theorem dX5_answerOf_50 : decode cX5_answerOf 50 = .ok (.new 292, 3) := by decide +kernel
theorem dX5_answerOf_53 : decode cX5_answerOf 53 = .ok (.dup, 1) := by decide +kernel
theorem dX5_answerOf_54 : decode cX5_answerOf 54 = .ok (.ldc_w 294, 3) := by decide +kernel
theorem dX5_answerOf_57 : decode cX5_answerOf 57 = .ok (.invokespecial 296, 3) := by decide +kernel
theorem dX5_answerOf_60 : decode cX5_answerOf 60 = .ok (.athrow, 1) := by decide +kernel
theorem dX5_answerOf_61 : decode cX5_answerOf 61 = .ok (.aload_n 0, 1) := by decide +kernel
theorem dX5_answerOf_62 : decode cX5_answerOf 62 = .ok (.getfield 19, 3) := by decide +kernel
theorem dX5_answerOf_65 : decode cX5_answerOf 65 = .ok (.invokevirtual 297, 3) := by decide +kernel
theorem dX5_answerOf_68 : decode cX5_answerOf 68 = .ok (.iload_n 1, 1) := by decide +kernel
theorem dX5_answerOf_69 : decode cX5_answerOf 69 = .ok (.ireturn, 1) := by decide +kernel
theorem dX5_carryOut_0 : decode cX5_carryOut 0 = .ok (.aload_n 0, 1) := by decide +kernel
theorem dX5_carryOut_1 : decode cX5_carryOut 1 = .ok (.getfield 36, 3) := by decide +kernel
theorem dX5_carryOut_4 : decode cX5_carryOut 4 = .ok (.getfield 300, 3) := by decide +kernel
theorem dX5_carryOut_7 : decode cX5_carryOut 7 = .ok (.iload_n 1, 1) := by decide +kernel
theorem dX5_carryOut_8 : decode cX5_carryOut 8 = .ok (.iaload, 1) := by decide +kernel
theorem dX5_carryOut_9 : decode cX5_carryOut 9 = .ok (.istore_n 2, 1) := by decide +kernel
theorem dX5_carryOut_10 : decode cX5_carryOut 10 = .ok (.aload_n 0, 1) := by decide +kernel
theorem dX5_carryOut_11 : decode cX5_carryOut 11 = .ok (.getfield 36, 3) := by decide +kernel
theorem dX5_carryOut_14 : decode cX5_carryOut 14 = .ok (.getfield 304, 3) := by decide +kernel
theorem dX5_carryOut_17 : decode cX5_carryOut 17 = .ok (.iload_n 1, 1) := by decide +kernel
theorem dX5_carryOut_18 : decode cX5_carryOut 18 = .ok (.iaload, 1) := by decide +kernel
theorem dX5_carryOut_19 : decode cX5_carryOut 19 = .ok (.istore_n 3, 1) := by decide +kernel
theorem dX5_carryOut_20 : decode cX5_carryOut 20 = .ok (.aload_n 0, 1) := by decide +kernel
theorem dX5_carryOut_21 : decode cX5_carryOut 21 = .ok (.getfield 36, 3) := by decide +kernel
theorem dX5_carryOut_24 : decode cX5_carryOut 24 = .ok (.getfield 307, 3) := by decide +kernel
theorem dX5_carryOut_27 : decode cX5_carryOut 27 = .ok (.iload_n 1, 1) := by decide +kernel
theorem dX5_carryOut_28 : decode cX5_carryOut 28 = .ok (.iaload, 1) := by decide +kernel
theorem dX5_carryOut_29 : decode cX5_carryOut 29 = .ok (.tableswitch 153 98 117 #[105, 153, 115, 153, 95, 153, 144, 153, 153, 153, 125, 153, 153, 153, 153, 153, 153, 153, 153, 135], 95) := by decide +kernel
theorem dX5_carryOut_124 : decode cX5_carryOut 124 = .ok (.aload_n 0, 1) := by decide +kernel
theorem dX5_carryOut_125 : decode cX5_carryOut 125 = .ok (.getfield 10, 3) := by decide +kernel
theorem dX5_carryOut_128 : decode cX5_carryOut 128 = .ok (.iload_n 2, 1) := by decide +kernel
theorem dX5_carryOut_129 : decode cX5_carryOut 129 = .ok (.iload_n 3, 1) := by decide +kernel
theorem dX5_carryOut_130 : decode cX5_carryOut 130 = .ok (.invokevirtual 61, 3) := by decide +kernel
theorem dX5_carryOut_133 : decode cX5_carryOut 133 = .ok (.ireturn, 1) := by decide +kernel
theorem dX5_carryOut_134 : decode cX5_carryOut 134 = .ok (.aload_n 0, 1) := by decide +kernel
theorem dX5_carryOut_135 : decode cX5_carryOut 135 = .ok (.getfield 10, 3) := by decide +kernel
theorem dX5_carryOut_138 : decode cX5_carryOut 138 = .ok (.iload_n 2, 1) := by decide +kernel
theorem dX5_carryOut_139 : decode cX5_carryOut 139 = .ok (.iload_n 3, 1) := by decide +kernel
theorem dX5_carryOut_140 : decode cX5_carryOut 140 = .ok (.invokevirtual 65, 3) := by decide +kernel
theorem dX5_carryOut_143 : decode cX5_carryOut 143 = .ok (.ireturn, 1) := by decide +kernel
theorem dX5_carryOut_144 : decode cX5_carryOut 144 = .ok (.aload_n 0, 1) := by decide +kernel
theorem dX5_carryOut_145 : decode cX5_carryOut 145 = .ok (.getfield 10, 3) := by decide +kernel
theorem dX5_carryOut_148 : decode cX5_carryOut 148 = .ok (.iload_n 2, 1) := by decide +kernel
theorem dX5_carryOut_149 : decode cX5_carryOut 149 = .ok (.iload_n 3, 1) := by decide +kernel
theorem dX5_carryOut_150 : decode cX5_carryOut 150 = .ok (.invokevirtual 83, 3) := by decide +kernel
theorem dX5_carryOut_153 : decode cX5_carryOut 153 = .ok (.ireturn, 1) := by decide +kernel
theorem dX5_carryOut_154 : decode cX5_carryOut 154 = .ok (.aload_n 0, 1) := by decide +kernel
theorem dX5_carryOut_155 : decode cX5_carryOut 155 = .ok (.getfield 10, 3) := by decide +kernel
theorem dX5_carryOut_158 : decode cX5_carryOut 158 = .ok (.iload_n 2, 1) := by decide +kernel
theorem dX5_carryOut_159 : decode cX5_carryOut 159 = .ok (.iload_n 3, 1) := by decide +kernel
theorem dX5_carryOut_160 : decode cX5_carryOut 160 = .ok (.invokevirtual 74, 3) := by decide +kernel
theorem dX5_carryOut_163 : decode cX5_carryOut 163 = .ok (.ireturn, 1) := by decide +kernel
theorem dX5_carryOut_164 : decode cX5_carryOut 164 = .ok (.aload_n 0, 1) := by decide +kernel
theorem dX5_carryOut_165 : decode cX5_carryOut 165 = .ok (.getfield 10, 3) := by decide +kernel
theorem dX5_carryOut_168 : decode cX5_carryOut 168 = .ok (.iload_n 2, 1) := by decide +kernel
theorem dX5_carryOut_169 : decode cX5_carryOut 169 = .ok (.invokevirtual 80, 3) := by decide +kernel
theorem dX5_carryOut_172 : decode cX5_carryOut 172 = .ok (.ireturn, 1) := by decide +kernel
theorem dX5_carryOut_173 : decode cX5_carryOut 173 = .ok (.aload_n 0, 1) := by decide +kernel
theorem dX5_carryOut_174 : decode cX5_carryOut 174 = .ok (.getfield 10, 3) := by decide +kernel
theorem dX5_carryOut_177 : decode cX5_carryOut 177 = .ok (.iload_n 2, 1) := by decide +kernel
theorem dX5_carryOut_178 : decode cX5_carryOut 178 = .ok (.invokevirtual 86, 3) := by decide +kernel
theorem dX5_carryOut_181 : decode cX5_carryOut 181 = .ok (.ireturn, 1) := by decide +kernel
theorem dX5_carryOut_182 : decode cX5_carryOut 182 = .ok (.aload_n 0, 1) := by decide +kernel
theorem dX5_carryOut_183 : decode cX5_carryOut 183 = .ok (.getfield 10, 3) := by decide +kernel
theorem dX5_carryOut_186 : decode cX5_carryOut 186 = .ok (.iload_n 2, 1) := by decide +kernel
theorem dX5_carryOut_187 : decode cX5_carryOut 187 = .ok (.iload_n 3, 1) := by decide +kernel
theorem dX5_carryOut_188 : decode cX5_carryOut 188 = .ok (.aload_n 0, 1) := by decide +kernel
theorem dX5_carryOut_189 : decode cX5_carryOut 189 = .ok (.getfield 36, 3) := by decide +kernel
theorem dX5_carryOut_192 : decode cX5_carryOut 192 = .ok (.getfield 310, 3) := by decide +kernel
theorem dX5_carryOut_195 : decode cX5_carryOut 195 = .ok (.iload_n 1, 1) := by decide +kernel
theorem dX5_carryOut_196 : decode cX5_carryOut 196 = .ok (.iaload, 1) := by decide +kernel
theorem dX5_carryOut_197 : decode cX5_carryOut 197 = .ok (.invokevirtual 51, 3) := by decide +kernel
theorem dX5_carryOut_200 : decode cX5_carryOut 200 = .ok (.ireturn, 1) := by decide +kernel
theorem dX5_isFailure_0 : decode cX5_isFailure 0 = .ok (.iload_n 0, 1) := by decide +kernel
theorem dX5_isFailure_1 : decode cX5_isFailure 1 = .ok (.bipush (-101), 2) := by decide +kernel
theorem dX5_isFailure_3 : decode cX5_isFailure 3 = .ok (.if_icmp .eq 15, 3) := by decide +kernel
theorem dX5_isFailure_6 : decode cX5_isFailure 6 = .ok (.iload_n 0, 1) := by decide +kernel
theorem dX5_isFailure_7 : decode cX5_isFailure 7 = .ok (.bipush (-102), 2) := by decide +kernel
theorem dX5_isFailure_9 : decode cX5_isFailure 9 = .ok (.if_icmp .eq 9, 3) := by decide +kernel
theorem dX5_isFailure_12 : decode cX5_isFailure 12 = .ok (.iload_n 0, 1) := by decide +kernel
theorem dX5_isFailure_13 : decode cX5_isFailure 13 = .ok (.bipush (-103), 2) := by decide +kernel
theorem dX5_isFailure_15 : decode cX5_isFailure 15 = .ok (.if_icmp .ne 7, 3) := by decide +kernel
theorem dX5_isFailure_18 : decode cX5_isFailure 18 = .ok (.iconst 1, 1) := by decide +kernel
theorem dX5_isFailure_19 : decode cX5_isFailure 19 = .ok (.goto 4, 3) := by decide +kernel
theorem dX5_isFailure_22 : decode cX5_isFailure 22 = .ok (.iconst 0, 1) := by decide +kernel
theorem dX5_isFailure_23 : decode cX5_isFailure 23 = .ok (.ireturn, 1) := by decide +kernel
theorem dX5_isBetween_0 : decode cX5_isBetween 0 = .ok (.iload_n 0, 1) := by decide +kernel
theorem dX5_isBetween_1 : decode cX5_isBetween 1 = .ok (.iload_n 1, 1) := by decide +kernel
theorem dX5_isBetween_2 : decode cX5_isBetween 2 = .ok (.if_icmp .lt 12, 3) := by decide +kernel
theorem dX5_isBetween_5 : decode cX5_isBetween 5 = .ok (.iload_n 0, 1) := by decide +kernel
theorem dX5_isBetween_6 : decode cX5_isBetween 6 = .ok (.iload_n 2, 1) := by decide +kernel
theorem dX5_isBetween_7 : decode cX5_isBetween 7 = .ok (.if_icmp .gt 7, 3) := by decide +kernel
theorem dX5_isBetween_10 : decode cX5_isBetween 10 = .ok (.iconst 1, 1) := by decide +kernel
theorem dX5_isBetween_11 : decode cX5_isBetween 11 = .ok (.goto 4, 3) := by decide +kernel
theorem dX5_isBetween_14 : decode cX5_isBetween 14 = .ok (.iconst 0, 1) := by decide +kernel
theorem dX5_isBetween_15 : decode cX5_isBetween 15 = .ok (.ireturn, 1) := by decide +kernel
theorem dX5_isOnMap_0 : decode cX5_isOnMap 0 = .ok (.iload_n 0, 1) := by decide +kernel
theorem dX5_isOnMap_1 : decode cX5_isOnMap 1 = .ok (.iconst 0, 1) := by decide +kernel
theorem dX5_isOnMap_2 : decode cX5_isOnMap 2 = .ok (.bipush 39, 2) := by decide +kernel
theorem dX5_isOnMap_4 : decode cX5_isOnMap 4 = .ok (.invokestatic 93, 3) := by decide +kernel
theorem dX5_isOnMap_7 : decode cX5_isOnMap 7 = .ok (.ifCond .eq 17, 3) := by decide +kernel
theorem dX5_isOnMap_10 : decode cX5_isOnMap 10 = .ok (.iload_n 1, 1) := by decide +kernel
theorem dX5_isOnMap_11 : decode cX5_isOnMap 11 = .ok (.iconst 0, 1) := by decide +kernel
theorem dX5_isOnMap_12 : decode cX5_isOnMap 12 = .ok (.bipush 39, 2) := by decide +kernel
theorem dX5_isOnMap_14 : decode cX5_isOnMap 14 = .ok (.invokestatic 93, 3) := by decide +kernel
theorem dX5_isOnMap_17 : decode cX5_isOnMap 17 = .ok (.ifCond .eq 7, 3) := by decide +kernel
theorem dX5_isOnMap_20 : decode cX5_isOnMap 20 = .ok (.iconst 1, 1) := by decide +kernel
theorem dX5_isOnMap_21 : decode cX5_isOnMap 21 = .ok (.goto 4, 3) := by decide +kernel
theorem dX5_isOnMap_24 : decode cX5_isOnMap 24 = .ok (.iconst 0, 1) := by decide +kernel
theorem dX5_isOnMap_25 : decode cX5_isOnMap 25 = .ok (.ireturn, 1) := by decide +kernel
theorem dX5_distanceFromTown_0 : decode cX5_distanceFromTown 0 = .ok (.iload_n 0, 1) := by decide +kernel
theorem dX5_distanceFromTown_1 : decode cX5_distanceFromTown 1 = .ok (.bipush 20, 2) := by decide +kernel
theorem dX5_distanceFromTown_3 : decode cX5_distanceFromTown 3 = .ok (.isub, 1) := by decide +kernel
theorem dX5_distanceFromTown_4 : decode cX5_distanceFromTown 4 = .ok (.invokestatic 313, 3) := by decide +kernel
theorem dX5_distanceFromTown_7 : decode cX5_distanceFromTown 7 = .ok (.iload_n 1, 1) := by decide +kernel
theorem dX5_distanceFromTown_8 : decode cX5_distanceFromTown 8 = .ok (.bipush 20, 2) := by decide +kernel
theorem dX5_distanceFromTown_10 : decode cX5_distanceFromTown 10 = .ok (.isub, 1) := by decide +kernel
theorem dX5_distanceFromTown_11 : decode cX5_distanceFromTown 11 = .ok (.invokestatic 313, 3) := by decide +kernel
theorem dX5_distanceFromTown_14 : decode cX5_distanceFromTown 14 = .ok (.invokestatic 318, 3) := by decide +kernel
theorem dX5_distanceFromTown_17 : decode cX5_distanceFromTown 17 = .ok (.ireturn, 1) := by decide +kernel
theorem dX6_init_0 : decode cX6_init 0 = .ok (.aload_n 0, 1) := by decide +kernel
theorem dX6_init_1 : decode cX6_init 1 = .ok (.invokespecial 3, 3) := by decide +kernel
theorem dX6_init_4 : decode cX6_init 4 = .ok (.aload_n 0, 1) := by decide +kernel
theorem dX6_init_5 : decode cX6_init 5 = .ok (.sipush 184, 3) := by decide +kernel
theorem dX6_init_8 : decode cX6_init 8 = .ok (.newarray .int, 2) := by decide +kernel
theorem dX6_init_10 : decode cX6_init 10 = .ok (.putfield 9, 3) := by decide +kernel
theorem dX6_init_13 : decode cX6_init 13 = .ok (.aload_n 0, 1) := by decide +kernel
theorem dX6_init_14 : decode cX6_init 14 = .ok (.sipush 184, 3) := by decide +kernel
theorem dX6_init_17 : decode cX6_init 17 = .ok (.newarray .int, 2) := by decide +kernel
theorem dX6_init_19 : decode cX6_init 19 = .ok (.putfield 13, 3) := by decide +kernel
theorem dX6_init_22 : decode cX6_init 22 = .ok (.aload_n 0, 1) := by decide +kernel
theorem dX6_init_23 : decode cX6_init 23 = .ok (.sipush 184, 3) := by decide +kernel
theorem dX6_init_26 : decode cX6_init 26 = .ok (.newarray .int, 2) := by decide +kernel
theorem dX6_init_28 : decode cX6_init 28 = .ok (.putfield 16, 3) := by decide +kernel
theorem dX6_init_31 : decode cX6_init 31 = .ok (.aload_n 0, 1) := by decide +kernel
theorem dX6_init_32 : decode cX6_init 32 = .ok (.sipush 1472, 3) := by decide +kernel
theorem dX6_init_35 : decode cX6_init 35 = .ok (.newarray .int, 2) := by decide +kernel
theorem dX6_init_37 : decode cX6_init 37 = .ok (.putfield 19, 3) := by decide +kernel
theorem dX6_init_40 : decode cX6_init 40 = .ok (.aload_n 0, 1) := by decide +kernel
theorem dX6_init_41 : decode cX6_init 41 = .ok (.sipush 184, 3) := by decide +kernel
theorem dX6_init_44 : decode cX6_init 44 = .ok (.newarray .int, 2) := by decide +kernel
theorem dX6_init_46 : decode cX6_init 46 = .ok (.putfield 22, 3) := by decide +kernel
theorem dX6_init_49 : decode cX6_init 49 = .ok (.aload_n 0, 1) := by decide +kernel
theorem dX6_init_50 : decode cX6_init 50 = .ok (.bipush 60, 2) := by decide +kernel
theorem dX6_init_52 : decode cX6_init 52 = .ok (.newarray .char, 2) := by decide +kernel
theorem dX6_init_54 : decode cX6_init 54 = .ok (.putfield 25, 3) := by decide +kernel
theorem dX6_init_57 : decode cX6_init 57 = .ok (.aload_n 0, 1) := by decide +kernel
theorem dX6_init_58 : decode cX6_init 58 = .ok (.iconst 3, 1) := by decide +kernel
theorem dX6_init_59 : decode cX6_init 59 = .ok (.newarray .int, 2) := by decide +kernel
theorem dX6_init_61 : decode cX6_init 61 = .ok (.putfield 29, 3) := by decide +kernel
theorem dX6_init_64 : decode cX6_init 64 = .ok (.aload_n 0, 1) := by decide +kernel
theorem dX6_init_65 : decode cX6_init 65 = .ok (.iconst (-1), 1) := by decide +kernel
theorem dX6_init_66 : decode cX6_init 66 = .ok (.putfield 32, 3) := by decide +kernel
theorem dX6_init_69 : decode cX6_init 69 = .ok (.aload_n 0, 1) := by decide +kernel
theorem dX6_init_70 : decode cX6_init 70 = .ok (.getfield 9, 3) := by decide +kernel
theorem dX6_init_73 : decode cX6_init 73 = .ok (.iconst 1, 1) := by decide +kernel
theorem dX6_init_74 : decode cX6_init 74 = .ok (.iconst 5, 1) := by decide +kernel
theorem dX6_init_75 : decode cX6_init 75 = .ok (.iastore, 1) := by decide +kernel
theorem dX6_init_76 : decode cX6_init 76 = .ok (.aload_n 0, 1) := by decide +kernel
theorem dX6_init_77 : decode cX6_init 77 = .ok (.getfield 9, 3) := by decide +kernel
theorem dX6_init_80 : decode cX6_init 80 = .ok (.iconst 2, 1) := by decide +kernel
theorem dX6_init_81 : decode cX6_init 81 = .ok (.bipush 100, 2) := by decide +kernel
theorem dX6_init_83 : decode cX6_init 83 = .ok (.iastore, 1) := by decide +kernel
theorem dX6_init_84 : decode cX6_init 84 = .ok (.return_, 1) := by decide +kernel
theorem dX6_thrown_0 : decode cX6_thrown 0 = .ok (.aload_n 0, 1) := by decide +kernel
theorem dX6_thrown_1 : decode cX6_thrown 1 = .ok (.getfield 36, 3) := by decide +kernel
theorem dX6_thrown_4 : decode cX6_thrown 4 = .ok (.ireturn, 1) := by decide +kernel
theorem dX6_raises_0 : decode cX6_raises 0 = .ok (.aload_n 0, 1) := by decide +kernel
theorem dX6_raises_1 : decode cX6_raises 1 = .ok (.iload_n 1, 1) := by decide +kernel
theorem dX6_raises_2 : decode cX6_raises 2 = .ok (.putfield 36, 3) := by decide +kernel
theorem dX6_raises_5 : decode cX6_raises 5 = .ok (.iconst 0, 1) := by decide +kernel
theorem dX6_raises_6 : decode cX6_raises 6 = .ok (.ireturn, 1) := by decide +kernel
theorem dX6_in_0 : decode cX6_in 0 = .ok (.iload_n 0, 1) := by decide +kernel
theorem dX6_in_1 : decode cX6_in 1 = .ok (.iload_n 1, 1) := by decide +kernel
theorem dX6_in_2 : decode cX6_in 2 = .ok (.if_icmp .lt 12, 3) := by decide +kernel
theorem dX6_in_5 : decode cX6_in 5 = .ok (.iload_n 0, 1) := by decide +kernel
theorem dX6_in_6 : decode cX6_in 6 = .ok (.iload_n 2, 1) := by decide +kernel
theorem dX6_in_7 : decode cX6_in 7 = .ok (.if_icmp .gt 7, 3) := by decide +kernel
theorem dX6_in_10 : decode cX6_in 10 = .ok (.iconst 1, 1) := by decide +kernel
theorem dX6_in_11 : decode cX6_in 11 = .ok (.goto 4, 3) := by decide +kernel
theorem dX6_in_14 : decode cX6_in 14 = .ok (.iconst 0, 1) := by decide +kernel
theorem dX6_in_15 : decode cX6_in 15 = .ok (.ireturn, 1) := by decide +kernel
theorem dX6_tries_0 : decode cX6_tries 0 = .ok (.aload_n 0, 1) := by decide +kernel
theorem dX6_tries_1 : decode cX6_tries 1 = .ok (.iconst 0, 1) := by decide +kernel
theorem dX6_tries_2 : decode cX6_tries 2 = .ok (.putfield 36, 3) := by decide +kernel
theorem dX6_tries_5 : decode cX6_tries 5 = .ok (.iconst 0, 1) := by decide +kernel
theorem dX6_tries_6 : decode cX6_tries 6 = .ok (.istore_n 1, 1) := by decide +kernel
theorem dX6_tries_7 : decode cX6_tries 7 = .ok (.iload_n 1, 1) := by decide +kernel
theorem dX6_tries_8 : decode cX6_tries 8 = .ok (.sipush 184, 3) := by decide +kernel
theorem dX6_tries_11 : decode cX6_tries 11 = .ok (.if_icmp .ge 21, 3) := by decide +kernel
theorem dX6_tries_14 : decode cX6_tries 14 = .ok (.aload_n 0, 1) := by decide +kernel
theorem dX6_tries_15 : decode cX6_tries 15 = .ok (.getfield 13, 3) := by decide +kernel
theorem dX6_tries_18 : decode cX6_tries 18 = .ok (.iload_n 1, 1) := by decide +kernel
theorem dX6_tries_19 : decode cX6_tries 19 = .ok (.aload_n 0, 1) := by decide +kernel
theorem dX6_tries_20 : decode cX6_tries 20 = .ok (.getfield 9, 3) := by decide +kernel
theorem dX6_tries_23 : decode cX6_tries 23 = .ok (.iload_n 1, 1) := by decide +kernel
theorem dX6_tries_24 : decode cX6_tries 24 = .ok (.iaload, 1) := by decide +kernel
theorem dX6_tries_25 : decode cX6_tries 25 = .ok (.iastore, 1) := by decide +kernel
theorem dX6_tries_26 : decode cX6_tries 26 = .ok (.iinc 1 1, 3) := by decide +kernel
theorem dX6_tries_29 : decode cX6_tries 29 = .ok (.goto (-22), 3) := by decide +kernel
theorem dX6_tries_32 : decode cX6_tries 32 = .ok (.return_, 1) := by decide +kernel
theorem dX6_comesBack_0 : decode cX6_comesBack 0 = .ok (.iconst 0, 1) := by decide +kernel
theorem dX6_comesBack_1 : decode cX6_comesBack 1 = .ok (.istore_n 1, 1) := by decide +kernel
theorem dX6_comesBack_2 : decode cX6_comesBack 2 = .ok (.iload_n 1, 1) := by decide +kernel
theorem dX6_comesBack_3 : decode cX6_comesBack 3 = .ok (.sipush 184, 3) := by decide +kernel
theorem dX6_comesBack_6 : decode cX6_comesBack 6 = .ok (.if_icmp .ge 21, 3) := by decide +kernel
theorem dX6_comesBack_9 : decode cX6_comesBack 9 = .ok (.aload_n 0, 1) := by decide +kernel
theorem dX6_comesBack_10 : decode cX6_comesBack 10 = .ok (.getfield 9, 3) := by decide +kernel
theorem dX6_comesBack_13 : decode cX6_comesBack 13 = .ok (.iload_n 1, 1) := by decide +kernel
theorem dX6_comesBack_14 : decode cX6_comesBack 14 = .ok (.aload_n 0, 1) := by decide +kernel
theorem dX6_comesBack_15 : decode cX6_comesBack 15 = .ok (.getfield 13, 3) := by decide +kernel
theorem dX6_comesBack_18 : decode cX6_comesBack 18 = .ok (.iload_n 1, 1) := by decide +kernel
theorem dX6_comesBack_19 : decode cX6_comesBack 19 = .ok (.iaload, 1) := by decide +kernel
theorem dX6_comesBack_20 : decode cX6_comesBack 20 = .ok (.iastore, 1) := by decide +kernel
theorem dX6_comesBack_21 : decode cX6_comesBack 21 = .ok (.iinc 1 1, 3) := by decide +kernel
theorem dX6_comesBack_24 : decode cX6_comesBack 24 = .ok (.goto (-22), 3) := by decide +kernel
theorem dX6_comesBack_27 : decode cX6_comesBack 27 = .ok (.return_, 1) := by decide +kernel
theorem dX6_thinks_0 : decode cX6_thinks 0 = .ok (.iconst 0, 1) := by decide +kernel
theorem dX6_thinks_1 : decode cX6_thinks 1 = .ok (.istore_n 1, 1) := by decide +kernel
theorem dX6_thinks_2 : decode cX6_thinks 2 = .ok (.iload_n 1, 1) := by decide +kernel
theorem dX6_thinks_3 : decode cX6_thinks 3 = .ok (.sipush 184, 3) := by decide +kernel
theorem dX6_thinks_6 : decode cX6_thinks 6 = .ok (.if_icmp .ge 21, 3) := by decide +kernel
theorem dX6_thinks_9 : decode cX6_thinks 9 = .ok (.aload_n 0, 1) := by decide +kernel
theorem dX6_thinks_10 : decode cX6_thinks 10 = .ok (.getfield 16, 3) := by decide +kernel
theorem dX6_thinks_13 : decode cX6_thinks 13 = .ok (.iload_n 1, 1) := by decide +kernel
theorem dX6_thinks_14 : decode cX6_thinks 14 = .ok (.aload_n 0, 1) := by decide +kernel
theorem dX6_thinks_15 : decode cX6_thinks 15 = .ok (.getfield 9, 3) := by decide +kernel
theorem dX6_thinks_18 : decode cX6_thinks 18 = .ok (.iload_n 1, 1) := by decide +kernel
theorem dX6_thinks_19 : decode cX6_thinks 19 = .ok (.iaload, 1) := by decide +kernel
theorem dX6_thinks_20 : decode cX6_thinks 20 = .ok (.iastore, 1) := by decide +kernel
theorem dX6_thinks_21 : decode cX6_thinks 21 = .ok (.iinc 1 1, 3) := by decide +kernel
theorem dX6_thinks_24 : decode cX6_thinks 24 = .ok (.goto (-22), 3) := by decide +kernel
theorem dX6_thinks_27 : decode cX6_thinks 27 = .ok (.return_, 1) := by decide +kernel
theorem dX6_thinksNoMore_0 : decode cX6_thinksNoMore 0 = .ok (.iconst 0, 1) := by decide +kernel
theorem dX6_thinksNoMore_1 : decode cX6_thinksNoMore 1 = .ok (.istore_n 1, 1) := by decide +kernel
theorem dX6_thinksNoMore_2 : decode cX6_thinksNoMore 2 = .ok (.iload_n 1, 1) := by decide +kernel
theorem dX6_thinksNoMore_3 : decode cX6_thinksNoMore 3 = .ok (.sipush 184, 3) := by decide +kernel
theorem dX6_thinksNoMore_6 : decode cX6_thinksNoMore 6 = .ok (.if_icmp .ge 21, 3) := by decide +kernel
theorem dX6_thinksNoMore_9 : decode cX6_thinksNoMore 9 = .ok (.aload_n 0, 1) := by decide +kernel
theorem dX6_thinksNoMore_10 : decode cX6_thinksNoMore 10 = .ok (.getfield 9, 3) := by decide +kernel
theorem dX6_thinksNoMore_13 : decode cX6_thinksNoMore 13 = .ok (.iload_n 1, 1) := by decide +kernel
theorem dX6_thinksNoMore_14 : decode cX6_thinksNoMore 14 = .ok (.aload_n 0, 1) := by decide +kernel
theorem dX6_thinksNoMore_15 : decode cX6_thinksNoMore 15 = .ok (.getfield 16, 3) := by decide +kernel
theorem dX6_thinksNoMore_18 : decode cX6_thinksNoMore 18 = .ok (.iload_n 1, 1) := by decide +kernel
theorem dX6_thinksNoMore_19 : decode cX6_thinksNoMore 19 = .ok (.iaload, 1) := by decide +kernel
theorem dX6_thinksNoMore_20 : decode cX6_thinksNoMore 20 = .ok (.iastore, 1) := by decide +kernel
theorem dX6_thinksNoMore_21 : decode cX6_thinksNoMore 21 = .ok (.iinc 1 1, 3) := by decide +kernel
theorem dX6_thinksNoMore_24 : decode cX6_thinksNoMore 24 = .ok (.goto (-22), 3) := by decide +kernel
theorem dX6_thinksNoMore_27 : decode cX6_thinksNoMore 27 = .ok (.return_, 1) := by decide +kernel
theorem dX6_keeps_0 : decode cX6_keeps 0 = .ok (.aload_n 0, 1) := by decide +kernel
theorem dX6_keeps_1 : decode cX6_keeps 1 = .ok (.getfield 39, 3) := by decide +kernel
theorem dX6_keeps_4 : decode cX6_keeps 4 = .ok (.bipush 8, 2) := by decide +kernel
theorem dX6_keeps_6 : decode cX6_keeps 6 = .ok (.if_icmp .ne 44, 3) := by decide +kernel
theorem dX6_keeps_9 : decode cX6_keeps 9 = .ok (.iconst 0, 1) := by decide +kernel
theorem dX6_keeps_10 : decode cX6_keeps 10 = .ok (.istore_n 2, 1) := by decide +kernel
theorem dX6_keeps_11 : decode cX6_keeps 11 = .ok (.iload_n 2, 1) := by decide +kernel
theorem dX6_keeps_12 : decode cX6_keeps 12 = .ok (.sipush 1288, 3) := by decide +kernel
theorem dX6_keeps_15 : decode cX6_keeps 15 = .ok (.if_icmp .ge 25, 3) := by decide +kernel
theorem dX6_keeps_18 : decode cX6_keeps 18 = .ok (.aload_n 0, 1) := by decide +kernel
theorem dX6_keeps_19 : decode cX6_keeps 19 = .ok (.getfield 19, 3) := by decide +kernel
theorem dX6_keeps_22 : decode cX6_keeps 22 = .ok (.iload_n 2, 1) := by decide +kernel
theorem dX6_keeps_23 : decode cX6_keeps 23 = .ok (.aload_n 0, 1) := by decide +kernel
theorem dX6_keeps_24 : decode cX6_keeps 24 = .ok (.getfield 19, 3) := by decide +kernel
theorem dX6_keeps_27 : decode cX6_keeps 27 = .ok (.sipush 184, 3) := by decide +kernel
theorem dX6_keeps_30 : decode cX6_keeps 30 = .ok (.iload_n 2, 1) := by decide +kernel
theorem dX6_keeps_31 : decode cX6_keeps 31 = .ok (.iadd, 1) := by decide +kernel
theorem dX6_keeps_32 : decode cX6_keeps 32 = .ok (.iaload, 1) := by decide +kernel
theorem dX6_keeps_33 : decode cX6_keeps 33 = .ok (.iastore, 1) := by decide +kernel
theorem dX6_keeps_34 : decode cX6_keeps 34 = .ok (.iinc 2 1, 3) := by decide +kernel
theorem dX6_keeps_37 : decode cX6_keeps 37 = .ok (.goto (-26), 3) := by decide +kernel
theorem dX6_keeps_40 : decode cX6_keeps 40 = .ok (.aload_n 0, 1) := by decide +kernel
theorem dX6_keeps_41 : decode cX6_keeps 41 = .ok (.dup, 1) := by decide +kernel
theorem dX6_keeps_42 : decode cX6_keeps 42 = .ok (.getfield 39, 3) := by decide +kernel
theorem dX6_keeps_45 : decode cX6_keeps 45 = .ok (.iconst 1, 1) := by decide +kernel
theorem dX6_keeps_46 : decode cX6_keeps 46 = .ok (.isub, 1) := by decide +kernel
theorem dX6_keeps_47 : decode cX6_keeps 47 = .ok (.putfield 39, 3) := by decide +kernel
theorem dX6_keeps_50 : decode cX6_keeps 50 = .ok (.iconst 0, 1) := by decide +kernel
theorem dX6_keeps_51 : decode cX6_keeps 51 = .ok (.istore_n 2, 1) := by decide +kernel
theorem dX6_keeps_52 : decode cX6_keeps 52 = .ok (.iload_n 2, 1) := by decide +kernel
theorem dX6_keeps_53 : decode cX6_keeps 53 = .ok (.sipush 184, 3) := by decide +kernel
theorem dX6_keeps_56 : decode cX6_keeps 56 = .ok (.if_icmp .ge 30, 3) := by decide +kernel
theorem dX6_keeps_59 : decode cX6_keeps 59 = .ok (.aload_n 0, 1) := by decide +kernel
theorem dX6_keeps_60 : decode cX6_keeps 60 = .ok (.getfield 19, 3) := by decide +kernel
theorem dX6_keeps_63 : decode cX6_keeps 63 = .ok (.sipush 184, 3) := by decide +kernel
theorem dX6_keeps_66 : decode cX6_keeps 66 = .ok (.aload_n 0, 1) := by decide +kernel
theorem dX6_keeps_67 : decode cX6_keeps 67 = .ok (.getfield 39, 3) := by decide +kernel
theorem dX6_keeps_70 : decode cX6_keeps 70 = .ok (.imul, 1) := by decide +kernel
theorem dX6_keeps_71 : decode cX6_keeps 71 = .ok (.iload_n 2, 1) := by decide +kernel
theorem dX6_keeps_72 : decode cX6_keeps 72 = .ok (.iadd, 1) := by decide +kernel
theorem dX6_keeps_73 : decode cX6_keeps 73 = .ok (.aload_n 0, 1) := by decide +kernel
theorem dX6_keeps_74 : decode cX6_keeps 74 = .ok (.getfield 13, 3) := by decide +kernel
theorem dX6_keeps_77 : decode cX6_keeps 77 = .ok (.iload_n 2, 1) := by decide +kernel
theorem dX6_keeps_78 : decode cX6_keeps 78 = .ok (.iaload, 1) := by decide +kernel
theorem dX6_keeps_79 : decode cX6_keeps 79 = .ok (.iastore, 1) := by decide +kernel
theorem dX6_keeps_80 : decode cX6_keeps 80 = .ok (.iinc 2 1, 3) := by decide +kernel
theorem dX6_keeps_83 : decode cX6_keeps 83 = .ok (.goto (-31), 3) := by decide +kernel
theorem dX6_keeps_86 : decode cX6_keeps 86 = .ok (.aload_n 0, 1) := by decide +kernel
theorem dX6_keeps_87 : decode cX6_keeps 87 = .ok (.dup, 1) := by decide +kernel
theorem dX6_keeps_88 : decode cX6_keeps 88 = .ok (.getfield 39, 3) := by decide +kernel
theorem dX6_keeps_91 : decode cX6_keeps 91 = .ok (.iconst 1, 1) := by decide +kernel
theorem dX6_keeps_92 : decode cX6_keeps 92 = .ok (.iadd, 1) := by decide +kernel
theorem dX6_keeps_93 : decode cX6_keeps 93 = .ok (.putfield 39, 3) := by decide +kernel
theorem dX6_keeps_96 : decode cX6_keeps 96 = .ok (.iload_n 1, 1) := by decide +kernel
theorem dX6_keeps_97 : decode cX6_keeps 97 = .ok (.ireturn, 1) := by decide +kernel
theorem dX6_does_0 : decode cX6_does 0 = .ok (.aload_n 0, 1) := by decide +kernel
theorem dX6_does_1 : decode cX6_does 1 = .ok (.iload_n 1, 1) := by decide +kernel
theorem dX6_does_2 : decode cX6_does 2 = .ok (.putfield 42, 3) := by decide +kernel
theorem dX6_does_5 : decode cX6_does 5 = .ok (.iconst 0, 1) := by decide +kernel
theorem dX6_does_6 : decode cX6_does 6 = .ok (.ireturn, 1) := by decide +kernel
theorem dX6_why_0 : decode cX6_why 0 = .ok (.aload_n 0, 1) := by decide +kernel
theorem dX6_why_1 : decode cX6_why 1 = .ok (.iload_n 1, 1) := by decide +kernel
theorem dX6_why_2 : decode cX6_why 2 = .ok (.putfield 45, 3) := by decide +kernel
theorem dX6_why_5 : decode cX6_why 5 = .ok (.aload_n 0, 1) := by decide +kernel
theorem dX6_why_6 : decode cX6_why 6 = .ok (.iload_n 2, 1) := by decide +kernel
theorem dX6_why_7 : decode cX6_why 7 = .ok (.putfield 48, 3) := by decide +kernel
theorem dX6_why_10 : decode cX6_why 10 = .ok (.iload_n 1, 1) := by decide +kernel
theorem dX6_why_11 : decode cX6_why 11 = .ok (.ireturn, 1) := by decide +kernel
theorem dX6_outcome_0 : decode cX6_outcome 0 = .ok (.iload_n 1, 1) := by decide +kernel
theorem dX6_outcome_1 : decode cX6_outcome 1 = .ok (.ifCond .ne 14, 3) := by decide +kernel
theorem dX6_outcome_4 : decode cX6_outcome 4 = .ok (.aload_n 0, 1) := by decide +kernel
theorem dX6_outcome_5 : decode cX6_outcome 5 = .ok (.aload_n 0, 1) := by decide +kernel
theorem dX6_outcome_6 : decode cX6_outcome 6 = .ok (.getfield 42, 3) := by decide +kernel
theorem dX6_outcome_9 : decode cX6_outcome 9 = .ok (.invokevirtual 51, 3) := by decide +kernel
theorem dX6_outcome_12 : decode cX6_outcome 12 = .ok (.goto 17, 3) := by decide +kernel
theorem dX6_outcome_15 : decode cX6_outcome 15 = .ok (.aload_n 0, 1) := by decide +kernel
theorem dX6_outcome_16 : decode cX6_outcome 16 = .ok (.iload_n 1, 1) := by decide +kernel
theorem dX6_outcome_17 : decode cX6_outcome 17 = .ok (.ifCond .ge 8, 3) := by decide +kernel
theorem dX6_outcome_20 : decode cX6_outcome 20 = .ok (.iload_n 1, 1) := by decide +kernel
theorem dX6_outcome_21 : decode cX6_outcome 21 = .ok (.ineg, 1) := by decide +kernel
theorem dX6_outcome_22 : decode cX6_outcome 22 = .ok (.goto 4, 3) := by decide +kernel
theorem dX6_outcome_25 : decode cX6_outcome 25 = .ok (.iload_n 2, 1) := by decide +kernel
theorem dX6_outcome_26 : decode cX6_outcome 26 = .ok (.invokevirtual 55, 3) := by decide +kernel
theorem dX6_outcome_29 : decode cX6_outcome 29 = .ok (.ireturn, 1) := by decide +kernel
theorem dX6_isBalloon_0 : decode cX6_isBalloon 0 = .ok (.iload_n 1, 1) := by decide +kernel
theorem dX6_isBalloon_1 : decode cX6_isBalloon 1 = .ok (.iconst 0, 1) := by decide +kernel
theorem dX6_isBalloon_2 : decode cX6_isBalloon 2 = .ok (.aload_n 0, 1) := by decide +kernel
theorem dX6_isBalloon_3 : decode cX6_isBalloon 3 = .ok (.getfield 9, 3) := by decide +kernel
theorem dX6_isBalloon_6 : decode cX6_isBalloon 6 = .ok (.iconst 3, 1) := by decide +kernel
theorem dX6_isBalloon_7 : decode cX6_isBalloon 7 = .ok (.iaload, 1) := by decide +kernel
theorem dX6_isBalloon_8 : decode cX6_isBalloon 8 = .ok (.iconst 1, 1) := by decide +kernel
theorem dX6_isBalloon_9 : decode cX6_isBalloon 9 = .ok (.isub, 1) := by decide +kernel
theorem dX6_isBalloon_10 : decode cX6_isBalloon 10 = .ok (.invokestatic 58, 3) := by decide +kernel
theorem dX6_isBalloon_13 : decode cX6_isBalloon 13 = .ok (.ireturn, 1) := by decide +kernel
theorem dX6_isLetter_0 : decode cX6_isLetter 0 = .ok (.iload_n 1, 1) := by decide +kernel
theorem dX6_isLetter_1 : decode cX6_isLetter 1 = .ok (.iconst 0, 1) := by decide +kernel
theorem dX6_isLetter_2 : decode cX6_isLetter 2 = .ok (.aload_n 0, 1) := by decide +kernel
theorem dX6_isLetter_3 : decode cX6_isLetter 3 = .ok (.getfield 9, 3) := by decide +kernel
theorem dX6_isLetter_6 : decode cX6_isLetter 6 = .ok (.iconst 4, 1) := by decide +kernel
theorem dX6_isLetter_7 : decode cX6_isLetter 7 = .ok (.iaload, 1) := by decide +kernel
theorem dX6_isLetter_8 : decode cX6_isLetter 8 = .ok (.iconst 1, 1) := by decide +kernel
theorem dX6_isLetter_9 : decode cX6_isLetter 9 = .ok (.isub, 1) := by decide +kernel
theorem dX6_isLetter_10 : decode cX6_isLetter 10 = .ok (.invokestatic 58, 3) := by decide +kernel
theorem dX6_isLetter_13 : decode cX6_isLetter 13 = .ok (.ireturn, 1) := by decide +kernel
theorem dX6_of_0 : decode cX6_of 0 = .ok (.aload_n 0, 1) := by decide +kernel
theorem dX6_of_1 : decode cX6_of 1 = .ok (.getfield 9, 3) := by decide +kernel
theorem dX6_of_4 : decode cX6_of 4 = .ok (.bipush 22, 2) := by decide +kernel
theorem dX6_of_6 : decode cX6_of 6 = .ok (.bipush 11, 2) := by decide +kernel
theorem dX6_of_8 : decode cX6_of 8 = .ok (.iload_n 1, 1) := by decide +kernel
theorem dX6_of_9 : decode cX6_of 9 = .ok (.imul, 1) := by decide +kernel
theorem dX6_of_10 : decode cX6_of 10 = .ok (.iadd, 1) := by decide +kernel
theorem dX6_of_11 : decode cX6_of 11 = .ok (.iload_n 2, 1) := by decide +kernel
theorem dX6_of_12 : decode cX6_of 12 = .ok (.iadd, 1) := by decide +kernel
theorem dX6_of_13 : decode cX6_of 13 = .ok (.iaload, 1) := by decide +kernel
theorem dX6_of_14 : decode cX6_of 14 = .ok (.ireturn, 1) := by decide +kernel
theorem dX6_sets_0 : decode cX6_sets 0 = .ok (.aload_n 0, 1) := by decide +kernel
theorem dX6_sets_1 : decode cX6_sets 1 = .ok (.getfield 9, 3) := by decide +kernel
theorem dX6_sets_4 : decode cX6_sets 4 = .ok (.bipush 22, 2) := by decide +kernel
theorem dX6_sets_6 : decode cX6_sets 6 = .ok (.bipush 11, 2) := by decide +kernel
theorem dX6_sets_8 : decode cX6_sets 8 = .ok (.iload_n 1, 1) := by decide +kernel
theorem dX6_sets_9 : decode cX6_sets 9 = .ok (.imul, 1) := by decide +kernel
theorem dX6_sets_10 : decode cX6_sets 10 = .ok (.iadd, 1) := by decide +kernel
theorem dX6_sets_11 : decode cX6_sets 11 = .ok (.iload_n 2, 1) := by decide +kernel
theorem dX6_sets_12 : decode cX6_sets 12 = .ok (.iadd, 1) := by decide +kernel
theorem dX6_sets_13 : decode cX6_sets 13 = .ok (.iload_n 3, 1) := by decide +kernel
theorem dX6_sets_14 : decode cX6_sets 14 = .ok (.iastore, 1) := by decide +kernel
theorem dX6_sets_15 : decode cX6_sets 15 = .ok (.return_, 1) := by decide +kernel
theorem dX6_far_0 : decode cX6_far 0 = .ok (.iload_n 0, 1) := by decide +kernel
theorem dX6_far_1 : decode cX6_far 1 = .ok (.bipush 20, 2) := by decide +kernel
theorem dX6_far_3 : decode cX6_far 3 = .ok (.isub, 1) := by decide +kernel
theorem dX6_far_4 : decode cX6_far 4 = .ok (.invokestatic 62, 3) := by decide +kernel
theorem dX6_far_7 : decode cX6_far 7 = .ok (.iload_n 1, 1) := by decide +kernel
theorem dX6_far_8 : decode cX6_far 8 = .ok (.bipush 20, 2) := by decide +kernel
theorem dX6_far_10 : decode cX6_far 10 = .ok (.isub, 1) := by decide +kernel
theorem dX6_far_11 : decode cX6_far 11 = .ok (.invokestatic 62, 3) := by decide +kernel
theorem dX6_far_14 : decode cX6_far 14 = .ok (.invokestatic 67, 3) := by decide +kernel
theorem dX6_far_17 : decode cX6_far 17 = .ok (.ireturn, 1) := by decide +kernel
theorem dX6_farOf_0 : decode cX6_farOf 0 = .ok (.aload_n 0, 1) := by decide +kernel
theorem dX6_farOf_1 : decode cX6_farOf 1 = .ok (.iload_n 1, 1) := by decide +kernel
theorem dX6_farOf_2 : decode cX6_farOf 2 = .ok (.bipush 6, 2) := by decide +kernel
theorem dX6_farOf_4 : decode cX6_farOf 4 = .ok (.invokevirtual 71, 3) := by decide +kernel
theorem dX6_farOf_7 : decode cX6_farOf 7 = .ok (.aload_n 0, 1) := by decide +kernel
theorem dX6_farOf_8 : decode cX6_farOf 8 = .ok (.iload_n 1, 1) := by decide +kernel
theorem dX6_farOf_9 : decode cX6_farOf 9 = .ok (.bipush 7, 2) := by decide +kernel
theorem dX6_farOf_11 : decode cX6_farOf 11 = .ok (.invokevirtual 71, 3) := by decide +kernel
theorem dX6_farOf_14 : decode cX6_farOf 14 = .ok (.invokestatic 74, 3) := by decide +kernel
theorem dX6_farOf_17 : decode cX6_farOf 17 = .ok (.ireturn, 1) := by decide +kernel
theorem dX6_sheets_0 : decode cX6_sheets 0 = .ok (.iconst 0, 1) := by decide +kernel
theorem dX6_sheets_1 : decode cX6_sheets 1 = .ok (.istore_n 2, 1) := by decide +kernel
theorem dX6_sheets_2 : decode cX6_sheets 2 = .ok (.iconst 0, 1) := by decide +kernel
theorem dX6_sheets_3 : decode cX6_sheets 3 = .ok (.istore_n 3, 1) := by decide +kernel
theorem dX6_sheets_4 : decode cX6_sheets 4 = .ok (.iload_n 3, 1) := by decide +kernel
theorem dX6_sheets_5 : decode cX6_sheets 5 = .ok (.aload_n 0, 1) := by decide +kernel
theorem dX6_sheets_6 : decode cX6_sheets 6 = .ok (.getfield 9, 3) := by decide +kernel
theorem dX6_sheets_9 : decode cX6_sheets 9 = .ok (.iconst 4, 1) := by decide +kernel
theorem dX6_sheets_10 : decode cX6_sheets 10 = .ok (.iaload, 1) := by decide +kernel
theorem dX6_sheets_11 : decode cX6_sheets 11 = .ok (.if_icmp .ge 56, 3) := by decide +kernel
theorem dX6_sheets_14 : decode cX6_sheets 14 = .ok (.aload_n 0, 1) := by decide +kernel
theorem dX6_sheets_15 : decode cX6_sheets 15 = .ok (.getfield 9, 3) := by decide +kernel
theorem dX6_sheets_18 : decode cX6_sheets 18 = .ok (.bipush 88, 2) := by decide +kernel
theorem dX6_sheets_20 : decode cX6_sheets 20 = .ok (.iconst 4, 1) := by decide +kernel
theorem dX6_sheets_21 : decode cX6_sheets 21 = .ok (.iload_n 3, 1) := by decide +kernel
theorem dX6_sheets_22 : decode cX6_sheets 22 = .ok (.imul, 1) := by decide +kernel
theorem dX6_sheets_23 : decode cX6_sheets 23 = .ok (.iadd, 1) := by decide +kernel
theorem dX6_sheets_24 : decode cX6_sheets 24 = .ok (.iconst 2, 1) := by decide +kernel
theorem dX6_sheets_25 : decode cX6_sheets 25 = .ok (.iadd, 1) := by decide +kernel
theorem dX6_sheets_26 : decode cX6_sheets 26 = .ok (.iaload, 1) := by decide +kernel
theorem dX6_sheets_27 : decode cX6_sheets 27 = .ok (.ifCond .le 34, 3) := by decide +kernel
theorem dX6_sheets_30 : decode cX6_sheets 30 = .ok (.aload_n 0, 1) := by decide +kernel
theorem dX6_sheets_31 : decode cX6_sheets 31 = .ok (.getfield 9, 3) := by decide +kernel
theorem dX6_sheets_34 : decode cX6_sheets 34 = .ok (.bipush 88, 2) := by decide +kernel
theorem dX6_sheets_36 : decode cX6_sheets 36 = .ok (.iconst 4, 1) := by decide +kernel
theorem dX6_sheets_37 : decode cX6_sheets 37 = .ok (.iload_n 3, 1) := by decide +kernel
theorem dX6_sheets_38 : decode cX6_sheets 38 = .ok (.imul, 1) := by decide +kernel
theorem dX6_sheets_39 : decode cX6_sheets 39 = .ok (.iadd, 1) := by decide +kernel
theorem dX6_sheets_40 : decode cX6_sheets 40 = .ok (.iconst 3, 1) := by decide +kernel
theorem dX6_sheets_41 : decode cX6_sheets 41 = .ok (.iadd, 1) := by decide +kernel
theorem dX6_sheets_42 : decode cX6_sheets 42 = .ok (.iaload, 1) := by decide +kernel
theorem dX6_sheets_43 : decode cX6_sheets 43 = .ok (.iload_n 1, 1) := by decide +kernel
theorem dX6_sheets_44 : decode cX6_sheets 44 = .ok (.if_icmp .ne 17, 3) := by decide +kernel
theorem dX6_sheets_47 : decode cX6_sheets 47 = .ok (.iload_n 2, 1) := by decide +kernel
theorem dX6_sheets_48 : decode cX6_sheets 48 = .ok (.aload_n 0, 1) := by decide +kernel
theorem dX6_sheets_49 : decode cX6_sheets 49 = .ok (.getfield 9, 3) := by decide +kernel
theorem dX6_sheets_52 : decode cX6_sheets 52 = .ok (.bipush 88, 2) := by decide +kernel
theorem dX6_sheets_54 : decode cX6_sheets 54 = .ok (.iconst 4, 1) := by decide +kernel
theorem dX6_sheets_55 : decode cX6_sheets 55 = .ok (.iload_n 3, 1) := by decide +kernel
theorem dX6_sheets_56 : decode cX6_sheets 56 = .ok (.imul, 1) := by decide +kernel
theorem dX6_sheets_57 : decode cX6_sheets 57 = .ok (.iadd, 1) := by decide +kernel
theorem dX6_sheets_58 : decode cX6_sheets 58 = .ok (.iaload, 1) := by decide +kernel
theorem dX6_sheets_59 : decode cX6_sheets 59 = .ok (.iadd, 1) := by decide +kernel
theorem dX6_sheets_60 : decode cX6_sheets 60 = .ok (.istore_n 2, 1) := by decide +kernel
theorem dX6_sheets_61 : decode cX6_sheets 61 = .ok (.iinc 3 1, 3) := by decide +kernel
theorem dX6_sheets_64 : decode cX6_sheets 64 = .ok (.goto (-60), 3) := by decide +kernel
theorem dX6_sheets_67 : decode cX6_sheets 67 = .ok (.iload_n 2, 1) := by decide +kernel
theorem dX6_sheets_68 : decode cX6_sheets 68 = .ok (.ireturn, 1) := by decide +kernel
theorem dX6_weight_0 : decode cX6_weight 0 = .ok (.aload_n 0, 1) := by decide +kernel
theorem dX6_weight_1 : decode cX6_weight 1 = .ok (.iload_n 1, 1) := by decide +kernel
theorem dX6_weight_2 : decode cX6_weight 2 = .ok (.iconst 0, 1) := by decide +kernel
theorem dX6_weight_3 : decode cX6_weight 3 = .ok (.invokevirtual 71, 3) := by decide +kernel
theorem dX6_weight_6 : decode cX6_weight 6 = .ok (.bipush 9, 2) := by decide +kernel
theorem dX6_weight_8 : decode cX6_weight 8 = .ok (.iadd, 1) := by decide +kernel
theorem dX6_weight_9 : decode cX6_weight 9 = .ok (.bipush 10, 2) := by decide +kernel
theorem dX6_weight_11 : decode cX6_weight 11 = .ok (.idiv, 1) := by decide +kernel
theorem dX6_weight_12 : decode cX6_weight 12 = .ok (.aload_n 0, 1) := by decide +kernel
theorem dX6_weight_13 : decode cX6_weight 13 = .ok (.iload_n 1, 1) := by decide +kernel
theorem dX6_weight_14 : decode cX6_weight 14 = .ok (.iconst 2, 1) := by decide +kernel
theorem dX6_weight_15 : decode cX6_weight 15 = .ok (.invokevirtual 71, 3) := by decide +kernel
theorem dX6_weight_18 : decode cX6_weight 18 = .ok (.iadd, 1) := by decide +kernel
theorem dX6_weight_19 : decode cX6_weight 19 = .ok (.aload_n 0, 1) := by decide +kernel
theorem dX6_weight_20 : decode cX6_weight 20 = .ok (.iload_n 1, 1) := by decide +kernel
theorem dX6_weight_21 : decode cX6_weight 21 = .ok (.iconst 4, 1) := by decide +kernel
theorem dX6_weight_22 : decode cX6_weight 22 = .ok (.invokevirtual 71, 3) := by decide +kernel
theorem dX6_weight_25 : decode cX6_weight 25 = .ok (.iadd, 1) := by decide +kernel
theorem dX6_weight_26 : decode cX6_weight 26 = .ok (.aload_n 0, 1) := by decide +kernel
theorem dX6_weight_27 : decode cX6_weight 27 = .ok (.iload_n 1, 1) := by decide +kernel
theorem dX6_weight_28 : decode cX6_weight 28 = .ok (.invokevirtual 77, 3) := by decide +kernel
theorem dX6_weight_31 : decode cX6_weight 31 = .ok (.iconst 2, 1) := by decide +kernel
theorem dX6_weight_32 : decode cX6_weight 32 = .ok (.iadd, 1) := by decide +kernel
theorem dX6_weight_33 : decode cX6_weight 33 = .ok (.iconst 3, 1) := by decide +kernel
theorem dX6_weight_34 : decode cX6_weight 34 = .ok (.idiv, 1) := by decide +kernel
theorem dX6_weight_35 : decode cX6_weight 35 = .ok (.iadd, 1) := by decide +kernel
theorem dX6_weight_36 : decode cX6_weight 36 = .ok (.ireturn, 1) := by decide +kernel
theorem dX6_bears_0 : decode cX6_bears 0 = .ok (.aload_n 0, 1) := by decide +kernel
theorem dX6_bears_1 : decode cX6_bears 1 = .ok (.iload_n 1, 1) := by decide +kernel
theorem dX6_bears_2 : decode cX6_bears 2 = .ok (.iconst 1, 1) := by decide +kernel
theorem dX6_bears_3 : decode cX6_bears 3 = .ok (.invokevirtual 71, 3) := by decide +kernel
theorem dX6_bears_6 : decode cX6_bears 6 = .ok (.aload_n 0, 1) := by decide +kernel
theorem dX6_bears_7 : decode cX6_bears 7 = .ok (.iload_n 1, 1) := by decide +kernel
theorem dX6_bears_8 : decode cX6_bears 8 = .ok (.invokevirtual 80, 3) := by decide +kernel
theorem dX6_bears_11 : decode cX6_bears 11 = .ok (.isub, 1) := by decide +kernel
theorem dX6_bears_12 : decode cX6_bears 12 = .ok (.ireturn, 1) := by decide +kernel
theorem dX6_ring_0 : decode cX6_ring 0 = .ok (.aload_n 0, 1) := by decide +kernel
theorem dX6_ring_1 : decode cX6_ring 1 = .ok (.invokevirtual 83, 3) := by decide +kernel
theorem dX6_ring_4 : decode cX6_ring 4 = .ok (.iload_n 1, 1) := by decide +kernel
theorem dX6_ring_5 : decode cX6_ring 5 = .ok (.iconst 1, 1) := by decide +kernel
theorem dX6_ring_6 : decode cX6_ring 6 = .ok (.bipush 15, 2) := by decide +kernel
theorem dX6_ring_8 : decode cX6_ring 8 = .ok (.invokestatic 58, 3) := by decide +kernel
theorem dX6_ring_11 : decode cX6_ring 11 = .ok (.ifCond .ne 9, 3) := by decide +kernel
theorem dX6_ring_14 : decode cX6_ring 14 = .ok (.aload_n 0, 1) := by decide +kernel
theorem dX6_ring_15 : decode cX6_ring 15 = .ok (.iconst 1, 1) := by decide +kernel
theorem dX6_ring_16 : decode cX6_ring 16 = .ok (.invokevirtual 55, 3) := by decide +kernel
theorem dX6_ring_19 : decode cX6_ring 19 = .ok (.ireturn, 1) := by decide +kernel
theorem dX6_ring_20 : decode cX6_ring 20 = .ok (.aload_n 0, 1) := by decide +kernel
theorem dX6_ring_21 : decode cX6_ring 21 = .ok (.getfield 9, 3) := by decide +kernel
theorem dX6_ring_24 : decode cX6_ring 24 = .ok (.iconst 1, 1) := by decide +kernel
theorem dX6_ring_25 : decode cX6_ring 25 = .ok (.iaload, 1) := by decide +kernel
theorem dX6_ring_26 : decode cX6_ring 26 = .ok (.istore_n 2, 1) := by decide +kernel
theorem dX6_ring_27 : decode cX6_ring 27 = .ok (.aload_n 0, 1) := by decide +kernel
theorem dX6_ring_28 : decode cX6_ring 28 = .ok (.getfield 9, 3) := by decide +kernel
theorem dX6_ring_31 : decode cX6_ring 31 = .ok (.iconst 1, 1) := by decide +kernel
theorem dX6_ring_32 : decode cX6_ring 32 = .ok (.iload_n 1, 1) := by decide +kernel
theorem dX6_ring_33 : decode cX6_ring 33 = .ok (.iastore, 1) := by decide +kernel
theorem dX6_ring_34 : decode cX6_ring 34 = .ok (.aload_n 0, 1) := by decide +kernel
theorem dX6_ring_35 : decode cX6_ring 35 = .ok (.iload_n 2, 1) := by decide +kernel
theorem dX6_ring_36 : decode cX6_ring 36 = .ok (.invokevirtual 51, 3) := by decide +kernel
theorem dX6_ring_39 : decode cX6_ring 39 = .ok (.ireturn, 1) := by decide +kernel
theorem dX6_blows_0 : decode cX6_blows 0 = .ok (.iload_n 1, 1) := by decide +kernel
theorem dX6_blows_1 : decode cX6_blows 1 = .ok (.iconst 0, 1) := by decide +kernel
theorem dX6_blows_2 : decode cX6_blows 2 = .ok (.iconst 5, 1) := by decide +kernel
theorem dX6_blows_3 : decode cX6_blows 3 = .ok (.invokestatic 58, 3) := by decide +kernel
theorem dX6_blows_6 : decode cX6_blows 6 = .ok (.ifCond .ne 5, 3) := by decide +kernel
theorem dX6_blows_9 : decode cX6_blows 9 = .ok (.iconst (-1), 1) := by decide +kernel
theorem dX6_blows_10 : decode cX6_blows 10 = .ok (.ireturn, 1) := by decide +kernel
theorem dX6_blows_11 : decode cX6_blows 11 = .ok (.iload_n 2, 1) := by decide +kernel
theorem dX6_blows_12 : decode cX6_blows 12 = .ok (.bipush (-3), 2) := by decide +kernel
theorem dX6_blows_14 : decode cX6_blows 14 = .ok (.iconst 3, 1) := by decide +kernel
theorem dX6_blows_15 : decode cX6_blows 15 = .ok (.invokestatic 58, 3) := by decide +kernel
theorem dX6_blows_18 : decode cX6_blows 18 = .ok (.ifCond .eq 13, 3) := by decide +kernel
theorem dX6_blows_21 : decode cX6_blows 21 = .ok (.iload_n 3, 1) := by decide +kernel
theorem dX6_blows_22 : decode cX6_blows 22 = .ok (.bipush (-3), 2) := by decide +kernel
theorem dX6_blows_24 : decode cX6_blows 24 = .ok (.iconst 3, 1) := by decide +kernel
theorem dX6_blows_25 : decode cX6_blows 25 = .ok (.invokestatic 58, 3) := by decide +kernel
theorem dX6_blows_28 : decode cX6_blows 28 = .ok (.ifCond .ne 6, 3) := by decide +kernel
theorem dX6_blows_31 : decode cX6_blows 31 = .ok (.bipush (-2), 2) := by decide +kernel
theorem dX6_blows_33 : decode cX6_blows 33 = .ok (.ireturn, 1) := by decide +kernel
theorem dX6_blows_34 : decode cX6_blows 34 = .ok (.bipush 10, 2) := by decide +kernel
theorem dX6_blows_36 : decode cX6_blows 36 = .ok (.iconst 2, 1) := by decide +kernel
theorem dX6_blows_37 : decode cX6_blows 37 = .ok (.iload_n 1, 1) := by decide +kernel
theorem dX6_blows_38 : decode cX6_blows 38 = .ok (.imul, 1) := by decide +kernel
theorem dX6_blows_39 : decode cX6_blows 39 = .ok (.iadd, 1) := by decide +kernel
theorem dX6_blows_40 : decode cX6_blows 40 = .ok (.istore 4, 2) := by decide +kernel
theorem dX6_blows_42 : decode cX6_blows 42 = .ok (.bipush 10, 2) := by decide +kernel
theorem dX6_blows_44 : decode cX6_blows 44 = .ok (.aload_n 0, 1) := by decide +kernel
theorem dX6_blows_45 : decode cX6_blows 45 = .ok (.getfield 9, 3) := by decide +kernel
theorem dX6_blows_48 : decode cX6_blows 48 = .ok (.iload 4, 2) := by decide +kernel
theorem dX6_blows_50 : decode cX6_blows 50 = .ok (.iaload, 1) := by decide +kernel
theorem dX6_blows_51 : decode cX6_blows 51 = .ok (.imul, 1) := by decide +kernel
theorem dX6_blows_52 : decode cX6_blows 52 = .ok (.aload_n 0, 1) := by decide +kernel
theorem dX6_blows_53 : decode cX6_blows 53 = .ok (.getfield 9, 3) := by decide +kernel
theorem dX6_blows_56 : decode cX6_blows 56 = .ok (.iload 4, 2) := by decide +kernel
theorem dX6_blows_58 : decode cX6_blows 58 = .ok (.iconst 1, 1) := by decide +kernel
theorem dX6_blows_59 : decode cX6_blows 59 = .ok (.iadd, 1) := by decide +kernel
theorem dX6_blows_60 : decode cX6_blows 60 = .ok (.iaload, 1) := by decide +kernel
theorem dX6_blows_61 : decode cX6_blows 61 = .ok (.iadd, 1) := by decide +kernel
theorem dX6_blows_62 : decode cX6_blows 62 = .ok (.istore 5, 2) := by decide +kernel
theorem dX6_blows_64 : decode cX6_blows 64 = .ok (.aload_n 0, 1) := by decide +kernel
theorem dX6_blows_65 : decode cX6_blows 65 = .ok (.getfield 9, 3) := by decide +kernel
theorem dX6_blows_68 : decode cX6_blows 68 = .ok (.iload 4, 2) := by decide +kernel
theorem dX6_blows_70 : decode cX6_blows 70 = .ok (.iload_n 2, 1) := by decide +kernel
theorem dX6_blows_71 : decode cX6_blows 71 = .ok (.iastore, 1) := by decide +kernel
theorem dX6_blows_72 : decode cX6_blows 72 = .ok (.aload_n 0, 1) := by decide +kernel
theorem dX6_blows_73 : decode cX6_blows 73 = .ok (.getfield 9, 3) := by decide +kernel
theorem dX6_blows_76 : decode cX6_blows 76 = .ok (.iload 4, 2) := by decide +kernel
theorem dX6_blows_78 : decode cX6_blows 78 = .ok (.iconst 1, 1) := by decide +kernel
theorem dX6_blows_79 : decode cX6_blows 79 = .ok (.iadd, 1) := by decide +kernel
theorem dX6_blows_80 : decode cX6_blows 80 = .ok (.iload_n 3, 1) := by decide +kernel
theorem dX6_blows_81 : decode cX6_blows 81 = .ok (.iastore, 1) := by decide +kernel
theorem dX6_blows_82 : decode cX6_blows 82 = .ok (.aload_n 0, 1) := by decide +kernel
theorem dX6_blows_83 : decode cX6_blows 83 = .ok (.iload 5, 2) := by decide +kernel
theorem dX6_blows_85 : decode cX6_blows 85 = .ok (.invokevirtual 86, 3) := by decide +kernel
theorem dX6_blows_88 : decode cX6_blows 88 = .ok (.ireturn, 1) := by decide +kernel
theorem dX6_wind_0 : decode cX6_wind 0 = .ok (.aload_n 0, 1) := by decide +kernel
theorem dX6_wind_1 : decode cX6_wind 1 = .ok (.invokevirtual 83, 3) := by decide +kernel
theorem dX6_wind_4 : decode cX6_wind 4 = .ok (.aload_n 0, 1) := by decide +kernel
theorem dX6_wind_5 : decode cX6_wind 5 = .ok (.aload_n 0, 1) := by decide +kernel
theorem dX6_wind_6 : decode cX6_wind 6 = .ok (.iload_n 1, 1) := by decide +kernel
theorem dX6_wind_7 : decode cX6_wind 7 = .ok (.iload_n 2, 1) := by decide +kernel
theorem dX6_wind_8 : decode cX6_wind 8 = .ok (.iload_n 3, 1) := by decide +kernel
theorem dX6_wind_9 : decode cX6_wind 9 = .ok (.invokevirtual 89, 3) := by decide +kernel
theorem dX6_wind_12 : decode cX6_wind 12 = .ok (.iconst 3, 1) := by decide +kernel
theorem dX6_wind_13 : decode cX6_wind 13 = .ok (.invokevirtual 93, 3) := by decide +kernel
theorem dX6_wind_16 : decode cX6_wind 16 = .ok (.ireturn, 1) := by decide +kernel
theorem dX6_gas_0 : decode cX6_gas 0 = .ok (.aload_n 0, 1) := by decide +kernel
theorem dX6_gas_1 : decode cX6_gas 1 = .ok (.invokevirtual 83, 3) := by decide +kernel
theorem dX6_gas_4 : decode cX6_gas 4 = .ok (.iload_n 1, 1) := by decide +kernel
theorem dX6_gas_5 : decode cX6_gas 5 = .ok (.iconst 1, 1) := by decide +kernel
theorem dX6_gas_6 : decode cX6_gas 6 = .ok (.sipush 999, 3) := by decide +kernel
theorem dX6_gas_9 : decode cX6_gas 9 = .ok (.invokestatic 58, 3) := by decide +kernel
theorem dX6_gas_12 : decode cX6_gas 12 = .ok (.ifCond .ne 9, 3) := by decide +kernel
theorem dX6_gas_15 : decode cX6_gas 15 = .ok (.aload_n 0, 1) := by decide +kernel
theorem dX6_gas_16 : decode cX6_gas 16 = .ok (.iconst 1, 1) := by decide +kernel
theorem dX6_gas_17 : decode cX6_gas 17 = .ok (.invokevirtual 55, 3) := by decide +kernel
theorem dX6_gas_20 : decode cX6_gas 20 = .ok (.ireturn, 1) := by decide +kernel
theorem dX6_gas_21 : decode cX6_gas 21 = .ok (.aload_n 0, 1) := by decide +kernel
theorem dX6_gas_22 : decode cX6_gas 22 = .ok (.getfield 9, 3) := by decide +kernel
theorem dX6_gas_25 : decode cX6_gas 25 = .ok (.iconst 2, 1) := by decide +kernel
theorem dX6_gas_26 : decode cX6_gas 26 = .ok (.sipush 9999, 3) := by decide +kernel
theorem dX6_gas_29 : decode cX6_gas 29 = .ok (.aload_n 0, 1) := by decide +kernel
theorem dX6_gas_30 : decode cX6_gas 30 = .ok (.getfield 9, 3) := by decide +kernel
theorem dX6_gas_33 : decode cX6_gas 33 = .ok (.iconst 2, 1) := by decide +kernel
theorem dX6_gas_34 : decode cX6_gas 34 = .ok (.iaload, 1) := by decide +kernel
theorem dX6_gas_35 : decode cX6_gas 35 = .ok (.iload_n 1, 1) := by decide +kernel
theorem dX6_gas_36 : decode cX6_gas 36 = .ok (.iadd, 1) := by decide +kernel
theorem dX6_gas_37 : decode cX6_gas 37 = .ok (.invokestatic 96, 3) := by decide +kernel
theorem dX6_gas_40 : decode cX6_gas 40 = .ok (.iastore, 1) := by decide +kernel
theorem dX6_gas_41 : decode cX6_gas 41 = .ok (.aload_n 0, 1) := by decide +kernel
theorem dX6_gas_42 : decode cX6_gas 42 = .ok (.aload_n 0, 1) := by decide +kernel
theorem dX6_gas_43 : decode cX6_gas 43 = .ok (.getfield 9, 3) := by decide +kernel
theorem dX6_gas_46 : decode cX6_gas 46 = .ok (.iconst 2, 1) := by decide +kernel
theorem dX6_gas_47 : decode cX6_gas 47 = .ok (.iaload, 1) := by decide +kernel
theorem dX6_gas_48 : decode cX6_gas 48 = .ok (.invokevirtual 51, 3) := by decide +kernel
theorem dX6_gas_51 : decode cX6_gas 51 = .ok (.ireturn, 1) := by decide +kernel
theorem dX6_balloon_0 : decode cX6_balloon 0 = .ok (.aload_n 0, 1) := by decide +kernel
theorem dX6_balloon_1 : decode cX6_balloon 1 = .ok (.invokevirtual 83, 3) := by decide +kernel
theorem dX6_balloon_4 : decode cX6_balloon 4 = .ok (.iload_n 1, 1) := by decide +kernel
theorem dX6_balloon_5 : decode cX6_balloon 5 = .ok (.bipush 10, 2) := by decide +kernel
theorem dX6_balloon_7 : decode cX6_balloon 7 = .ok (.bipush 99, 2) := by decide +kernel
theorem dX6_balloon_9 : decode cX6_balloon 9 = .ok (.invokestatic 58, 3) := by decide +kernel
theorem dX6_balloon_12 : decode cX6_balloon 12 = .ok (.ifCond .ne 9, 3) := by decide +kernel
theorem dX6_balloon_15 : decode cX6_balloon 15 = .ok (.aload_n 0, 1) := by decide +kernel
theorem dX6_balloon_16 : decode cX6_balloon 16 = .ok (.iconst 1, 1) := by decide +kernel
theorem dX6_balloon_17 : decode cX6_balloon 17 = .ok (.invokevirtual 55, 3) := by decide +kernel
theorem dX6_balloon_20 : decode cX6_balloon 20 = .ok (.ireturn, 1) := by decide +kernel
theorem dX6_balloon_21 : decode cX6_balloon 21 = .ok (.aload_n 0, 1) := by decide +kernel
theorem dX6_balloon_22 : decode cX6_balloon 22 = .ok (.getfield 9, 3) := by decide +kernel
theorem dX6_balloon_25 : decode cX6_balloon 25 = .ok (.iconst 3, 1) := by decide +kernel
theorem dX6_balloon_26 : decode cX6_balloon 26 = .ok (.iaload, 1) := by decide +kernel
theorem dX6_balloon_27 : decode cX6_balloon 27 = .ok (.bipush 6, 2) := by decide +kernel
theorem dX6_balloon_29 : decode cX6_balloon 29 = .ok (.if_icmp .ne 16, 3) := by decide +kernel
theorem dX6_balloon_32 : decode cX6_balloon 32 = .ok (.aload_n 0, 1) := by decide +kernel
theorem dX6_balloon_33 : decode cX6_balloon 33 = .ok (.aload_n 0, 1) := by decide +kernel
theorem dX6_balloon_34 : decode cX6_balloon 34 = .ok (.iconst 1, 1) := by decide +kernel
theorem dX6_balloon_35 : decode cX6_balloon 35 = .ok (.bipush 6, 2) := by decide +kernel
theorem dX6_balloon_37 : decode cX6_balloon 37 = .ok (.invokevirtual 99, 3) := by decide +kernel
theorem dX6_balloon_40 : decode cX6_balloon 40 = .ok (.iconst 2, 1) := by decide +kernel
theorem dX6_balloon_41 : decode cX6_balloon 41 = .ok (.invokevirtual 93, 3) := by decide +kernel
theorem dX6_balloon_44 : decode cX6_balloon 44 = .ok (.ireturn, 1) := by decide +kernel
theorem dX6_balloon_45 : decode cX6_balloon 45 = .ok (.aload_n 0, 1) := by decide +kernel
theorem dX6_balloon_46 : decode cX6_balloon 46 = .ok (.getfield 9, 3) := by decide +kernel
theorem dX6_balloon_49 : decode cX6_balloon 49 = .ok (.iconst 3, 1) := by decide +kernel
theorem dX6_balloon_50 : decode cX6_balloon 50 = .ok (.dup2, 1) := by decide +kernel
theorem dX6_balloon_51 : decode cX6_balloon 51 = .ok (.iaload, 1) := by decide +kernel
theorem dX6_balloon_52 : decode cX6_balloon 52 = .ok (.dup_x2, 1) := by decide +kernel
theorem dX6_balloon_53 : decode cX6_balloon 53 = .ok (.iconst 1, 1) := by decide +kernel
theorem dX6_balloon_54 : decode cX6_balloon 54 = .ok (.iadd, 1) := by decide +kernel
theorem dX6_balloon_55 : decode cX6_balloon 55 = .ok (.iastore, 1) := by decide +kernel
theorem dX6_balloon_56 : decode cX6_balloon 56 = .ok (.istore_n 2, 1) := by decide +kernel
theorem dX6_balloon_57 : decode cX6_balloon 57 = .ok (.iconst 0, 1) := by decide +kernel
theorem dX6_balloon_58 : decode cX6_balloon 58 = .ok (.istore_n 3, 1) := by decide +kernel
theorem dX6_balloon_59 : decode cX6_balloon 59 = .ok (.iload_n 3, 1) := by decide +kernel
theorem dX6_balloon_60 : decode cX6_balloon 60 = .ok (.bipush 11, 2) := by decide +kernel
theorem dX6_balloon_62 : decode cX6_balloon 62 = .ok (.if_icmp .ge 16, 3) := by decide +kernel
theorem dX6_balloon_65 : decode cX6_balloon 65 = .ok (.aload_n 0, 1) := by decide +kernel
theorem dX6_balloon_66 : decode cX6_balloon 66 = .ok (.iload_n 2, 1) := by decide +kernel
theorem dX6_balloon_67 : decode cX6_balloon 67 = .ok (.iload_n 3, 1) := by decide +kernel
theorem dX6_balloon_68 : decode cX6_balloon 68 = .ok (.iconst 0, 1) := by decide +kernel
theorem dX6_balloon_69 : decode cX6_balloon 69 = .ok (.invokevirtual 102, 3) := by decide +kernel
theorem dX6_balloon_72 : decode cX6_balloon 72 = .ok (.iinc 3 1, 3) := by decide +kernel
theorem dX6_balloon_75 : decode cX6_balloon 75 = .ok (.goto (-16), 3) := by decide +kernel
theorem dX6_balloon_78 : decode cX6_balloon 78 = .ok (.aload_n 0, 1) := by decide +kernel
theorem dX6_balloon_79 : decode cX6_balloon 79 = .ok (.iload_n 2, 1) := by decide +kernel
theorem dX6_balloon_80 : decode cX6_balloon 80 = .ok (.iconst 0, 1) := by decide +kernel
theorem dX6_balloon_81 : decode cX6_balloon 81 = .ok (.iload_n 1, 1) := by decide +kernel
theorem dX6_balloon_82 : decode cX6_balloon 82 = .ok (.invokevirtual 102, 3) := by decide +kernel
theorem dX6_balloon_85 : decode cX6_balloon 85 = .ok (.aload_n 0, 1) := by decide +kernel
theorem dX6_balloon_86 : decode cX6_balloon 86 = .ok (.iload_n 2, 1) := by decide +kernel
theorem dX6_balloon_87 : decode cX6_balloon 87 = .ok (.bipush 6, 2) := by decide +kernel
theorem dX6_balloon_89 : decode cX6_balloon 89 = .ok (.bipush 20, 2) := by decide +kernel
theorem dX6_balloon_91 : decode cX6_balloon 91 = .ok (.invokevirtual 102, 3) := by decide +kernel
theorem dX6_balloon_94 : decode cX6_balloon 94 = .ok (.aload_n 0, 1) := by decide +kernel
theorem dX6_balloon_95 : decode cX6_balloon 95 = .ok (.iload_n 2, 1) := by decide +kernel
theorem dX6_balloon_96 : decode cX6_balloon 96 = .ok (.bipush 7, 2) := by decide +kernel
theorem dX6_balloon_98 : decode cX6_balloon 98 = .ok (.bipush 20, 2) := by decide +kernel
theorem dX6_balloon_100 : decode cX6_balloon 100 = .ok (.invokevirtual 102, 3) := by decide +kernel
theorem dX6_balloon_103 : decode cX6_balloon 103 = .ok (.aload_n 0, 1) := by decide +kernel
theorem dX6_balloon_104 : decode cX6_balloon 104 = .ok (.iload_n 2, 1) := by decide +kernel
theorem dX6_balloon_105 : decode cX6_balloon 105 = .ok (.invokevirtual 51, 3) := by decide +kernel
theorem dX6_balloon_108 : decode cX6_balloon 108 = .ok (.ireturn, 1) := by decide +kernel
theorem dX6_fills_0 : decode cX6_fills 0 = .ok (.aload_n 0, 1) := by decide +kernel
theorem dX6_fills_1 : decode cX6_fills 1 = .ok (.iload_n 1, 1) := by decide +kernel
theorem dX6_fills_2 : decode cX6_fills 2 = .ok (.invokevirtual 106, 3) := by decide +kernel
theorem dX6_fills_5 : decode cX6_fills 5 = .ok (.ifCond .ne 5, 3) := by decide +kernel
theorem dX6_fills_8 : decode cX6_fills 8 = .ok (.iconst (-1), 1) := by decide +kernel
theorem dX6_fills_9 : decode cX6_fills 9 = .ok (.ireturn, 1) := by decide +kernel
theorem dX6_fills_10 : decode cX6_fills 10 = .ok (.iload_n 2, 1) := by decide +kernel
theorem dX6_fills_11 : decode cX6_fills 11 = .ok (.iconst 1, 1) := by decide +kernel
theorem dX6_fills_12 : decode cX6_fills 12 = .ok (.bipush 99, 2) := by decide +kernel
theorem dX6_fills_14 : decode cX6_fills 14 = .ok (.invokestatic 58, 3) := by decide +kernel
theorem dX6_fills_17 : decode cX6_fills 17 = .ok (.ifCond .ne 6, 3) := by decide +kernel
theorem dX6_fills_20 : decode cX6_fills 20 = .ok (.bipush (-2), 2) := by decide +kernel
theorem dX6_fills_22 : decode cX6_fills 22 = .ok (.ireturn, 1) := by decide +kernel
theorem dX6_fills_23 : decode cX6_fills 23 = .ok (.aload_n 0, 1) := by decide +kernel
theorem dX6_fills_24 : decode cX6_fills 24 = .ok (.iload_n 1, 1) := by decide +kernel
theorem dX6_fills_25 : decode cX6_fills 25 = .ok (.iconst 5, 1) := by decide +kernel
theorem dX6_fills_26 : decode cX6_fills 26 = .ok (.invokevirtual 71, 3) := by decide +kernel
theorem dX6_fills_29 : decode cX6_fills 29 = .ok (.ifCond .eq 10, 3) := by decide +kernel
theorem dX6_fills_32 : decode cX6_fills 32 = .ok (.aload_n 0, 1) := by decide +kernel
theorem dX6_fills_33 : decode cX6_fills 33 = .ok (.iconst 2, 1) := by decide +kernel
theorem dX6_fills_34 : decode cX6_fills 34 = .ok (.iload_n 1, 1) := by decide +kernel
theorem dX6_fills_35 : decode cX6_fills 35 = .ok (.invokevirtual 99, 3) := by decide +kernel
theorem dX6_fills_38 : decode cX6_fills 38 = .ok (.ireturn, 1) := by decide +kernel
theorem dX6_fills_39 : decode cX6_fills 39 = .ok (.aload_n 0, 1) := by decide +kernel
theorem dX6_fills_40 : decode cX6_fills 40 = .ok (.getfield 9, 3) := by decide +kernel
theorem dX6_fills_43 : decode cX6_fills 43 = .ok (.iconst 2, 1) := by decide +kernel
theorem dX6_fills_44 : decode cX6_fills 44 = .ok (.iaload, 1) := by decide +kernel
theorem dX6_fills_45 : decode cX6_fills 45 = .ok (.iload_n 2, 1) := by decide +kernel
theorem dX6_fills_46 : decode cX6_fills 46 = .ok (.if_icmp .ge 15, 3) := by decide +kernel
theorem dX6_fills_49 : decode cX6_fills 49 = .ok (.aload_n 0, 1) := by decide +kernel
theorem dX6_fills_50 : decode cX6_fills 50 = .ok (.iconst 4, 1) := by decide +kernel
theorem dX6_fills_51 : decode cX6_fills 51 = .ok (.aload_n 0, 1) := by decide +kernel
theorem dX6_fills_52 : decode cX6_fills 52 = .ok (.getfield 9, 3) := by decide +kernel
theorem dX6_fills_55 : decode cX6_fills 55 = .ok (.iconst 2, 1) := by decide +kernel
theorem dX6_fills_56 : decode cX6_fills 56 = .ok (.iaload, 1) := by decide +kernel
theorem dX6_fills_57 : decode cX6_fills 57 = .ok (.invokevirtual 99, 3) := by decide +kernel
theorem dX6_fills_60 : decode cX6_fills 60 = .ok (.ireturn, 1) := by decide +kernel
theorem dX6_fills_61 : decode cX6_fills 61 = .ok (.aload_n 0, 1) := by decide +kernel
theorem dX6_fills_62 : decode cX6_fills 62 = .ok (.iload_n 1, 1) := by decide +kernel
theorem dX6_fills_63 : decode cX6_fills 63 = .ok (.iconst 0, 1) := by decide +kernel
theorem dX6_fills_64 : decode cX6_fills 64 = .ok (.invokevirtual 71, 3) := by decide +kernel
theorem dX6_fills_67 : decode cX6_fills 67 = .ok (.aload_n 0, 1) := by decide +kernel
theorem dX6_fills_68 : decode cX6_fills 68 = .ok (.iload_n 1, 1) := by decide +kernel
theorem dX6_fills_69 : decode cX6_fills 69 = .ok (.iconst 1, 1) := by decide +kernel
theorem dX6_fills_70 : decode cX6_fills 70 = .ok (.invokevirtual 71, 3) := by decide +kernel
theorem dX6_fills_73 : decode cX6_fills 73 = .ok (.isub, 1) := by decide +kernel
theorem dX6_fills_74 : decode cX6_fills 74 = .ok (.istore_n 3, 1) := by decide +kernel
theorem dX6_fills_75 : decode cX6_fills 75 = .ok (.iload_n 3, 1) := by decide +kernel
theorem dX6_fills_76 : decode cX6_fills 76 = .ok (.iload_n 2, 1) := by decide +kernel
theorem dX6_fills_77 : decode cX6_fills 77 = .ok (.if_icmp .ge 10, 3) := by decide +kernel
theorem dX6_fills_80 : decode cX6_fills 80 = .ok (.aload_n 0, 1) := by decide +kernel
theorem dX6_fills_81 : decode cX6_fills 81 = .ok (.iconst 5, 1) := by decide +kernel
theorem dX6_fills_82 : decode cX6_fills 82 = .ok (.iload_n 3, 1) := by decide +kernel
theorem dX6_fills_83 : decode cX6_fills 83 = .ok (.invokevirtual 99, 3) := by decide +kernel
theorem dX6_fills_86 : decode cX6_fills 86 = .ok (.ireturn, 1) := by decide +kernel
theorem dX6_fills_87 : decode cX6_fills 87 = .ok (.aload_n 0, 1) := by decide +kernel
theorem dX6_fills_88 : decode cX6_fills 88 = .ok (.getfield 9, 3) := by decide +kernel
theorem dX6_fills_91 : decode cX6_fills 91 = .ok (.iconst 2, 1) := by decide +kernel
theorem dX6_fills_92 : decode cX6_fills 92 = .ok (.dup2, 1) := by decide +kernel
theorem dX6_fills_93 : decode cX6_fills 93 = .ok (.iaload, 1) := by decide +kernel
theorem dX6_fills_94 : decode cX6_fills 94 = .ok (.iload_n 2, 1) := by decide +kernel
theorem dX6_fills_95 : decode cX6_fills 95 = .ok (.isub, 1) := by decide +kernel
theorem dX6_fills_96 : decode cX6_fills 96 = .ok (.iastore, 1) := by decide +kernel
theorem dX6_fills_97 : decode cX6_fills 97 = .ok (.aload_n 0, 1) := by decide +kernel
theorem dX6_fills_98 : decode cX6_fills 98 = .ok (.iload_n 1, 1) := by decide +kernel
theorem dX6_fills_99 : decode cX6_fills 99 = .ok (.iconst 1, 1) := by decide +kernel
theorem dX6_fills_100 : decode cX6_fills 100 = .ok (.aload_n 0, 1) := by decide +kernel
theorem dX6_fills_101 : decode cX6_fills 101 = .ok (.iload_n 1, 1) := by decide +kernel
theorem dX6_fills_102 : decode cX6_fills 102 = .ok (.iconst 1, 1) := by decide +kernel
theorem dX6_fills_103 : decode cX6_fills 103 = .ok (.invokevirtual 71, 3) := by decide +kernel
theorem dX6_fills_106 : decode cX6_fills 106 = .ok (.iload_n 2, 1) := by decide +kernel
theorem dX6_fills_107 : decode cX6_fills 107 = .ok (.iadd, 1) := by decide +kernel
theorem dX6_fills_108 : decode cX6_fills 108 = .ok (.invokevirtual 102, 3) := by decide +kernel
theorem dX6_fills_111 : decode cX6_fills 111 = .ok (.aload_n 0, 1) := by decide +kernel
theorem dX6_fills_112 : decode cX6_fills 112 = .ok (.aload_n 0, 1) := by decide +kernel
theorem dX6_fills_113 : decode cX6_fills 113 = .ok (.iload_n 1, 1) := by decide +kernel
theorem dX6_fills_114 : decode cX6_fills 114 = .ok (.iconst 1, 1) := by decide +kernel
theorem dX6_fills_115 : decode cX6_fills 115 = .ok (.invokevirtual 71, 3) := by decide +kernel
theorem dX6_fills_118 : decode cX6_fills 118 = .ok (.invokevirtual 86, 3) := by decide +kernel
theorem dX6_fills_121 : decode cX6_fills 121 = .ok (.ireturn, 1) := by decide +kernel
theorem dX6_fill_0 : decode cX6_fill 0 = .ok (.aload_n 0, 1) := by decide +kernel
theorem dX6_fill_1 : decode cX6_fill 1 = .ok (.invokevirtual 83, 3) := by decide +kernel
theorem dX6_fill_4 : decode cX6_fill 4 = .ok (.aload_n 0, 1) := by decide +kernel
theorem dX6_fill_5 : decode cX6_fill 5 = .ok (.aload_n 0, 1) := by decide +kernel
theorem dX6_fill_6 : decode cX6_fill 6 = .ok (.iload_n 1, 1) := by decide +kernel
theorem dX6_fill_7 : decode cX6_fill 7 = .ok (.iload_n 2, 1) := by decide +kernel
theorem dX6_fill_8 : decode cX6_fill 8 = .ok (.invokevirtual 110, 3) := by decide +kernel
theorem dX6_fill_11 : decode cX6_fill 11 = .ok (.iconst 3, 1) := by decide +kernel
theorem dX6_fill_12 : decode cX6_fill 12 = .ok (.invokevirtual 93, 3) := by decide +kernel
theorem dX6_fill_15 : decode cX6_fill 15 = .ok (.ireturn, 1) := by decide +kernel
theorem dX6_lays_0 : decode cX6_lays 0 = .ok (.aload_n 0, 1) := by decide +kernel
theorem dX6_lays_1 : decode cX6_lays 1 = .ok (.iload_n 1, 1) := by decide +kernel
theorem dX6_lays_2 : decode cX6_lays 2 = .ok (.invokevirtual 106, 3) := by decide +kernel
theorem dX6_lays_5 : decode cX6_lays 5 = .ok (.ifCond .ne 5, 3) := by decide +kernel
theorem dX6_lays_8 : decode cX6_lays 8 = .ok (.iconst (-1), 1) := by decide +kernel
theorem dX6_lays_9 : decode cX6_lays 9 = .ok (.ireturn, 1) := by decide +kernel
theorem dX6_lays_10 : decode cX6_lays 10 = .ok (.iload_n 2, 1) := by decide +kernel
theorem dX6_lays_11 : decode cX6_lays 11 = .ok (.iconst 1, 1) := by decide +kernel
theorem dX6_lays_12 : decode cX6_lays 12 = .ok (.bipush 50, 2) := by decide +kernel
theorem dX6_lays_14 : decode cX6_lays 14 = .ok (.invokestatic 58, 3) := by decide +kernel
theorem dX6_lays_17 : decode cX6_lays 17 = .ok (.ifCond .ne 6, 3) := by decide +kernel
theorem dX6_lays_20 : decode cX6_lays 20 = .ok (.bipush (-2), 2) := by decide +kernel
theorem dX6_lays_22 : decode cX6_lays 22 = .ok (.ireturn, 1) := by decide +kernel
theorem dX6_lays_23 : decode cX6_lays 23 = .ok (.aload_n 0, 1) := by decide +kernel
theorem dX6_lays_24 : decode cX6_lays 24 = .ok (.iload_n 1, 1) := by decide +kernel
theorem dX6_lays_25 : decode cX6_lays 25 = .ok (.iconst 5, 1) := by decide +kernel
theorem dX6_lays_26 : decode cX6_lays 26 = .ok (.invokevirtual 71, 3) := by decide +kernel
theorem dX6_lays_29 : decode cX6_lays 29 = .ok (.ifCond .eq 10, 3) := by decide +kernel
theorem dX6_lays_32 : decode cX6_lays 32 = .ok (.aload_n 0, 1) := by decide +kernel
theorem dX6_lays_33 : decode cX6_lays 33 = .ok (.iconst 2, 1) := by decide +kernel
theorem dX6_lays_34 : decode cX6_lays 34 = .ok (.iload_n 1, 1) := by decide +kernel
theorem dX6_lays_35 : decode cX6_lays 35 = .ok (.invokevirtual 99, 3) := by decide +kernel
theorem dX6_lays_38 : decode cX6_lays 38 = .ok (.ireturn, 1) := by decide +kernel
theorem dX6_lays_39 : decode cX6_lays 39 = .ok (.bipush 50, 2) := by decide +kernel
theorem dX6_lays_41 : decode cX6_lays 41 = .ok (.aload_n 0, 1) := by decide +kernel
theorem dX6_lays_42 : decode cX6_lays 42 = .ok (.iload_n 1, 1) := by decide +kernel
theorem dX6_lays_43 : decode cX6_lays 43 = .ok (.iconst 2, 1) := by decide +kernel
theorem dX6_lays_44 : decode cX6_lays 44 = .ok (.invokevirtual 71, 3) := by decide +kernel
theorem dX6_lays_47 : decode cX6_lays 47 = .ok (.isub, 1) := by decide +kernel
theorem dX6_lays_48 : decode cX6_lays 48 = .ok (.istore_n 3, 1) := by decide +kernel
theorem dX6_lays_49 : decode cX6_lays 49 = .ok (.iload_n 3, 1) := by decide +kernel
theorem dX6_lays_50 : decode cX6_lays 50 = .ok (.iload_n 2, 1) := by decide +kernel
theorem dX6_lays_51 : decode cX6_lays 51 = .ok (.if_icmp .ge 11, 3) := by decide +kernel
theorem dX6_lays_54 : decode cX6_lays 54 = .ok (.aload_n 0, 1) := by decide +kernel
theorem dX6_lays_55 : decode cX6_lays 55 = .ok (.bipush 6, 2) := by decide +kernel
theorem dX6_lays_57 : decode cX6_lays 57 = .ok (.iload_n 3, 1) := by decide +kernel
theorem dX6_lays_58 : decode cX6_lays 58 = .ok (.invokevirtual 99, 3) := by decide +kernel
theorem dX6_lays_61 : decode cX6_lays 61 = .ok (.ireturn, 1) := by decide +kernel
theorem dX6_lays_62 : decode cX6_lays 62 = .ok (.aload_n 0, 1) := by decide +kernel
theorem dX6_lays_63 : decode cX6_lays 63 = .ok (.iload_n 1, 1) := by decide +kernel
theorem dX6_lays_64 : decode cX6_lays 64 = .ok (.iconst 2, 1) := by decide +kernel
theorem dX6_lays_65 : decode cX6_lays 65 = .ok (.aload_n 0, 1) := by decide +kernel
theorem dX6_lays_66 : decode cX6_lays 66 = .ok (.iload_n 1, 1) := by decide +kernel
theorem dX6_lays_67 : decode cX6_lays 67 = .ok (.iconst 2, 1) := by decide +kernel
theorem dX6_lays_68 : decode cX6_lays 68 = .ok (.invokevirtual 71, 3) := by decide +kernel
theorem dX6_lays_71 : decode cX6_lays 71 = .ok (.iload_n 2, 1) := by decide +kernel
theorem dX6_lays_72 : decode cX6_lays 72 = .ok (.iadd, 1) := by decide +kernel
theorem dX6_lays_73 : decode cX6_lays 73 = .ok (.invokevirtual 102, 3) := by decide +kernel
theorem dX6_lays_76 : decode cX6_lays 76 = .ok (.aload_n 0, 1) := by decide +kernel
theorem dX6_lays_77 : decode cX6_lays 77 = .ok (.getfield 9, 3) := by decide +kernel
theorem dX6_lays_80 : decode cX6_lays 80 = .ok (.iconst 5, 1) := by decide +kernel
theorem dX6_lays_81 : decode cX6_lays 81 = .ok (.dup2, 1) := by decide +kernel
theorem dX6_lays_82 : decode cX6_lays 82 = .ok (.iaload, 1) := by decide +kernel
theorem dX6_lays_83 : decode cX6_lays 83 = .ok (.iload_n 2, 1) := by decide +kernel
theorem dX6_lays_84 : decode cX6_lays 84 = .ok (.iadd, 1) := by decide +kernel
theorem dX6_lays_85 : decode cX6_lays 85 = .ok (.iastore, 1) := by decide +kernel
theorem dX6_lays_86 : decode cX6_lays 86 = .ok (.aload_n 0, 1) := by decide +kernel
theorem dX6_lays_87 : decode cX6_lays 87 = .ok (.aload_n 0, 1) := by decide +kernel
theorem dX6_lays_88 : decode cX6_lays 88 = .ok (.iload_n 1, 1) := by decide +kernel
theorem dX6_lays_89 : decode cX6_lays 89 = .ok (.iconst 2, 1) := by decide +kernel
theorem dX6_lays_90 : decode cX6_lays 90 = .ok (.invokevirtual 71, 3) := by decide +kernel
theorem dX6_lays_93 : decode cX6_lays 93 = .ok (.invokevirtual 86, 3) := by decide +kernel
theorem dX6_lays_96 : decode cX6_lays 96 = .ok (.ireturn, 1) := by decide +kernel
theorem dX6_ballast_0 : decode cX6_ballast 0 = .ok (.aload_n 0, 1) := by decide +kernel
theorem dX6_ballast_1 : decode cX6_ballast 1 = .ok (.invokevirtual 83, 3) := by decide +kernel
theorem dX6_ballast_4 : decode cX6_ballast 4 = .ok (.aload_n 0, 1) := by decide +kernel
theorem dX6_ballast_5 : decode cX6_ballast 5 = .ok (.aload_n 0, 1) := by decide +kernel
theorem dX6_ballast_6 : decode cX6_ballast 6 = .ok (.iload_n 1, 1) := by decide +kernel
theorem dX6_ballast_7 : decode cX6_ballast 7 = .ok (.iload_n 2, 1) := by decide +kernel
theorem dX6_ballast_8 : decode cX6_ballast 8 = .ok (.invokevirtual 113, 3) := by decide +kernel
theorem dX6_ballast_11 : decode cX6_ballast 11 = .ok (.iconst 3, 1) := by decide +kernel
theorem dX6_ballast_12 : decode cX6_ballast 12 = .ok (.invokevirtual 93, 3) := by decide +kernel
theorem dX6_ballast_15 : decode cX6_ballast 15 = .ok (.ireturn, 1) := by decide +kernel
theorem dX6_courier_0 : decode cX6_courier 0 = .ok (.aload_n 0, 1) := by decide +kernel
theorem dX6_courier_1 : decode cX6_courier 1 = .ok (.invokevirtual 83, 3) := by decide +kernel
theorem dX6_courier_4 : decode cX6_courier 4 = .ok (.aload_n 0, 1) := by decide +kernel
theorem dX6_courier_5 : decode cX6_courier 5 = .ok (.iload_n 1, 1) := by decide +kernel
theorem dX6_courier_6 : decode cX6_courier 6 = .ok (.invokevirtual 106, 3) := by decide +kernel
theorem dX6_courier_9 : decode cX6_courier 9 = .ok (.ifCond .ne 9, 3) := by decide +kernel
theorem dX6_courier_12 : decode cX6_courier 12 = .ok (.aload_n 0, 1) := by decide +kernel
theorem dX6_courier_13 : decode cX6_courier 13 = .ok (.iconst 1, 1) := by decide +kernel
theorem dX6_courier_14 : decode cX6_courier 14 = .ok (.invokevirtual 55, 3) := by decide +kernel
theorem dX6_courier_17 : decode cX6_courier 17 = .ok (.ireturn, 1) := by decide +kernel
theorem dX6_courier_18 : decode cX6_courier 18 = .ok (.iload_n 2, 1) := by decide +kernel
theorem dX6_courier_19 : decode cX6_courier 19 = .ok (.iconst 5, 1) := by decide +kernel
theorem dX6_courier_20 : decode cX6_courier 20 = .ok (.bipush 12, 2) := by decide +kernel
theorem dX6_courier_22 : decode cX6_courier 22 = .ok (.invokestatic 58, 3) := by decide +kernel
theorem dX6_courier_25 : decode cX6_courier 25 = .ok (.ifCond .ne 9, 3) := by decide +kernel
theorem dX6_courier_28 : decode cX6_courier 28 = .ok (.aload_n 0, 1) := by decide +kernel
theorem dX6_courier_29 : decode cX6_courier 29 = .ok (.iconst 2, 1) := by decide +kernel
theorem dX6_courier_30 : decode cX6_courier 30 = .ok (.invokevirtual 55, 3) := by decide +kernel
theorem dX6_courier_33 : decode cX6_courier 33 = .ok (.ireturn, 1) := by decide +kernel
theorem dX6_courier_34 : decode cX6_courier 34 = .ok (.aload_n 0, 1) := by decide +kernel
theorem dX6_courier_35 : decode cX6_courier 35 = .ok (.iload_n 1, 1) := by decide +kernel
theorem dX6_courier_36 : decode cX6_courier 36 = .ok (.iconst 5, 1) := by decide +kernel
theorem dX6_courier_37 : decode cX6_courier 37 = .ok (.invokevirtual 71, 3) := by decide +kernel
theorem dX6_courier_40 : decode cX6_courier 40 = .ok (.ifCond .eq 15, 3) := by decide +kernel
theorem dX6_courier_43 : decode cX6_courier 43 = .ok (.aload_n 0, 1) := by decide +kernel
theorem dX6_courier_44 : decode cX6_courier 44 = .ok (.aload_n 0, 1) := by decide +kernel
theorem dX6_courier_45 : decode cX6_courier 45 = .ok (.iconst 2, 1) := by decide +kernel
theorem dX6_courier_46 : decode cX6_courier 46 = .ok (.iload_n 1, 1) := by decide +kernel
theorem dX6_courier_47 : decode cX6_courier 47 = .ok (.invokevirtual 99, 3) := by decide +kernel
theorem dX6_courier_50 : decode cX6_courier 50 = .ok (.iconst 3, 1) := by decide +kernel
theorem dX6_courier_51 : decode cX6_courier 51 = .ok (.invokevirtual 93, 3) := by decide +kernel
theorem dX6_courier_54 : decode cX6_courier 54 = .ok (.ireturn, 1) := by decide +kernel
theorem dX6_courier_55 : decode cX6_courier 55 = .ok (.aload_n 0, 1) := by decide +kernel
theorem dX6_courier_56 : decode cX6_courier 56 = .ok (.iload_n 1, 1) := by decide +kernel
theorem dX6_courier_57 : decode cX6_courier 57 = .ok (.iconst 3, 1) := by decide +kernel
theorem dX6_courier_58 : decode cX6_courier 58 = .ok (.invokevirtual 71, 3) := by decide +kernel
theorem dX6_courier_61 : decode cX6_courier 61 = .ok (.iconst 2, 1) := by decide +kernel
theorem dX6_courier_62 : decode cX6_courier 62 = .ok (.if_icmp .ne 15, 3) := by decide +kernel
theorem dX6_courier_65 : decode cX6_courier 65 = .ok (.aload_n 0, 1) := by decide +kernel
theorem dX6_courier_66 : decode cX6_courier 66 = .ok (.aload_n 0, 1) := by decide +kernel
theorem dX6_courier_67 : decode cX6_courier 67 = .ok (.iconst 1, 1) := by decide +kernel
theorem dX6_courier_68 : decode cX6_courier 68 = .ok (.iconst 2, 1) := by decide +kernel
theorem dX6_courier_69 : decode cX6_courier 69 = .ok (.invokevirtual 99, 3) := by decide +kernel
theorem dX6_courier_72 : decode cX6_courier 72 = .ok (.iconst 3, 1) := by decide +kernel
theorem dX6_courier_73 : decode cX6_courier 73 = .ok (.invokevirtual 93, 3) := by decide +kernel
theorem dX6_courier_76 : decode cX6_courier 76 = .ok (.ireturn, 1) := by decide +kernel
theorem dX6_courier_77 : decode cX6_courier 77 = .ok (.aload_n 0, 1) := by decide +kernel
theorem dX6_courier_78 : decode cX6_courier 78 = .ok (.iload_n 1, 1) := by decide +kernel
theorem dX6_courier_79 : decode cX6_courier 79 = .ok (.iconst 3, 1) := by decide +kernel
theorem dX6_courier_80 : decode cX6_courier 80 = .ok (.aload_n 0, 1) := by decide +kernel
theorem dX6_courier_81 : decode cX6_courier 81 = .ok (.iload_n 1, 1) := by decide +kernel
theorem dX6_courier_82 : decode cX6_courier 82 = .ok (.iconst 3, 1) := by decide +kernel
theorem dX6_courier_83 : decode cX6_courier 83 = .ok (.invokevirtual 71, 3) := by decide +kernel
theorem dX6_courier_86 : decode cX6_courier 86 = .ok (.iconst 1, 1) := by decide +kernel
theorem dX6_courier_87 : decode cX6_courier 87 = .ok (.iadd, 1) := by decide +kernel
theorem dX6_courier_88 : decode cX6_courier 88 = .ok (.invokevirtual 102, 3) := by decide +kernel
theorem dX6_courier_91 : decode cX6_courier 91 = .ok (.aload_n 0, 1) := by decide +kernel
theorem dX6_courier_92 : decode cX6_courier 92 = .ok (.iload_n 1, 1) := by decide +kernel
theorem dX6_courier_93 : decode cX6_courier 93 = .ok (.iconst 4, 1) := by decide +kernel
theorem dX6_courier_94 : decode cX6_courier 94 = .ok (.aload_n 0, 1) := by decide +kernel
theorem dX6_courier_95 : decode cX6_courier 95 = .ok (.iload_n 1, 1) := by decide +kernel
theorem dX6_courier_96 : decode cX6_courier 96 = .ok (.iconst 4, 1) := by decide +kernel
theorem dX6_courier_97 : decode cX6_courier 97 = .ok (.invokevirtual 71, 3) := by decide +kernel
theorem dX6_courier_100 : decode cX6_courier 100 = .ok (.iload_n 2, 1) := by decide +kernel
theorem dX6_courier_101 : decode cX6_courier 101 = .ok (.iadd, 1) := by decide +kernel
theorem dX6_courier_102 : decode cX6_courier 102 = .ok (.invokevirtual 102, 3) := by decide +kernel
theorem dX6_courier_105 : decode cX6_courier 105 = .ok (.aload_n 0, 1) := by decide +kernel
theorem dX6_courier_106 : decode cX6_courier 106 = .ok (.aload_n 0, 1) := by decide +kernel
theorem dX6_courier_107 : decode cX6_courier 107 = .ok (.iload_n 1, 1) := by decide +kernel
theorem dX6_courier_108 : decode cX6_courier 108 = .ok (.iconst 3, 1) := by decide +kernel
theorem dX6_courier_109 : decode cX6_courier 109 = .ok (.invokevirtual 71, 3) := by decide +kernel
theorem dX6_courier_112 : decode cX6_courier 112 = .ok (.invokevirtual 51, 3) := by decide +kernel
theorem dX6_courier_115 : decode cX6_courier 115 = .ok (.ireturn, 1) := by decide +kernel
theorem dX6_letter_0 : decode cX6_letter 0 = .ok (.aload_n 0, 1) := by decide +kernel
theorem dX6_letter_1 : decode cX6_letter 1 = .ok (.invokevirtual 83, 3) := by decide +kernel
theorem dX6_letter_4 : decode cX6_letter 4 = .ok (.iload_n 1, 1) := by decide +kernel
theorem dX6_letter_5 : decode cX6_letter 5 = .ok (.iconst 1, 1) := by decide +kernel
theorem dX6_letter_6 : decode cX6_letter 6 = .ok (.bipush 9, 2) := by decide +kernel
theorem dX6_letter_8 : decode cX6_letter 8 = .ok (.invokestatic 58, 3) := by decide +kernel
theorem dX6_letter_11 : decode cX6_letter 11 = .ok (.ifCond .eq 12, 3) := by decide +kernel
theorem dX6_letter_14 : decode cX6_letter 14 = .ok (.iload_n 2, 1) := by decide +kernel
theorem dX6_letter_15 : decode cX6_letter 15 = .ok (.iconst 0, 1) := by decide +kernel
theorem dX6_letter_16 : decode cX6_letter 16 = .ok (.iconst 2, 1) := by decide +kernel
theorem dX6_letter_17 : decode cX6_letter 17 = .ok (.invokestatic 58, 3) := by decide +kernel
theorem dX6_letter_20 : decode cX6_letter 20 = .ok (.ifCond .ne 9, 3) := by decide +kernel
theorem dX6_letter_23 : decode cX6_letter 23 = .ok (.aload_n 0, 1) := by decide +kernel
theorem dX6_letter_24 : decode cX6_letter 24 = .ok (.iconst 1, 1) := by decide +kernel
theorem dX6_letter_25 : decode cX6_letter 25 = .ok (.invokevirtual 55, 3) := by decide +kernel
theorem dX6_letter_28 : decode cX6_letter 28 = .ok (.ireturn, 1) := by decide +kernel
theorem dX6_letter_29 : decode cX6_letter 29 = .ok (.aload_n 0, 1) := by decide +kernel
theorem dX6_letter_30 : decode cX6_letter 30 = .ok (.getfield 9, 3) := by decide +kernel
theorem dX6_letter_33 : decode cX6_letter 33 = .ok (.iconst 4, 1) := by decide +kernel
theorem dX6_letter_34 : decode cX6_letter 34 = .ok (.iaload, 1) := by decide +kernel
theorem dX6_letter_35 : decode cX6_letter 35 = .ok (.bipush 24, 2) := by decide +kernel
theorem dX6_letter_37 : decode cX6_letter 37 = .ok (.if_icmp .ne 16, 3) := by decide +kernel
theorem dX6_letter_40 : decode cX6_letter 40 = .ok (.aload_n 0, 1) := by decide +kernel
theorem dX6_letter_41 : decode cX6_letter 41 = .ok (.aload_n 0, 1) := by decide +kernel
theorem dX6_letter_42 : decode cX6_letter 42 = .ok (.iconst 1, 1) := by decide +kernel
theorem dX6_letter_43 : decode cX6_letter 43 = .ok (.bipush 24, 2) := by decide +kernel
theorem dX6_letter_45 : decode cX6_letter 45 = .ok (.invokevirtual 99, 3) := by decide +kernel
theorem dX6_letter_48 : decode cX6_letter 48 = .ok (.iconst 2, 1) := by decide +kernel
theorem dX6_letter_49 : decode cX6_letter 49 = .ok (.invokevirtual 93, 3) := by decide +kernel
theorem dX6_letter_52 : decode cX6_letter 52 = .ok (.ireturn, 1) := by decide +kernel
theorem dX6_letter_53 : decode cX6_letter 53 = .ok (.bipush 88, 2) := by decide +kernel
theorem dX6_letter_55 : decode cX6_letter 55 = .ok (.iconst 4, 1) := by decide +kernel
theorem dX6_letter_56 : decode cX6_letter 56 = .ok (.aload_n 0, 1) := by decide +kernel
theorem dX6_letter_57 : decode cX6_letter 57 = .ok (.getfield 9, 3) := by decide +kernel
theorem dX6_letter_60 : decode cX6_letter 60 = .ok (.iconst 4, 1) := by decide +kernel
theorem dX6_letter_61 : decode cX6_letter 61 = .ok (.dup2, 1) := by decide +kernel
theorem dX6_letter_62 : decode cX6_letter 62 = .ok (.iaload, 1) := by decide +kernel
theorem dX6_letter_63 : decode cX6_letter 63 = .ok (.dup_x2, 1) := by decide +kernel
theorem dX6_letter_64 : decode cX6_letter 64 = .ok (.iconst 1, 1) := by decide +kernel
theorem dX6_letter_65 : decode cX6_letter 65 = .ok (.iadd, 1) := by decide +kernel
theorem dX6_letter_66 : decode cX6_letter 66 = .ok (.iastore, 1) := by decide +kernel
theorem dX6_letter_67 : decode cX6_letter 67 = .ok (.imul, 1) := by decide +kernel
theorem dX6_letter_68 : decode cX6_letter 68 = .ok (.iadd, 1) := by decide +kernel
theorem dX6_letter_69 : decode cX6_letter 69 = .ok (.istore_n 3, 1) := by decide +kernel
theorem dX6_letter_70 : decode cX6_letter 70 = .ok (.aload_n 0, 1) := by decide +kernel
theorem dX6_letter_71 : decode cX6_letter 71 = .ok (.getfield 9, 3) := by decide +kernel
theorem dX6_letter_74 : decode cX6_letter 74 = .ok (.iload_n 3, 1) := by decide +kernel
theorem dX6_letter_75 : decode cX6_letter 75 = .ok (.iload_n 1, 1) := by decide +kernel
theorem dX6_letter_76 : decode cX6_letter 76 = .ok (.iastore, 1) := by decide +kernel
theorem dX6_letter_77 : decode cX6_letter 77 = .ok (.aload_n 0, 1) := by decide +kernel
theorem dX6_letter_78 : decode cX6_letter 78 = .ok (.getfield 9, 3) := by decide +kernel
theorem dX6_letter_81 : decode cX6_letter 81 = .ok (.iload_n 3, 1) := by decide +kernel
theorem dX6_letter_82 : decode cX6_letter 82 = .ok (.iconst 1, 1) := by decide +kernel
theorem dX6_letter_83 : decode cX6_letter 83 = .ok (.iadd, 1) := by decide +kernel
theorem dX6_letter_84 : decode cX6_letter 84 = .ok (.iload_n 2, 1) := by decide +kernel
theorem dX6_letter_85 : decode cX6_letter 85 = .ok (.iastore, 1) := by decide +kernel
theorem dX6_letter_86 : decode cX6_letter 86 = .ok (.aload_n 0, 1) := by decide +kernel
theorem dX6_letter_87 : decode cX6_letter 87 = .ok (.getfield 9, 3) := by decide +kernel
theorem dX6_letter_90 : decode cX6_letter 90 = .ok (.iload_n 3, 1) := by decide +kernel
theorem dX6_letter_91 : decode cX6_letter 91 = .ok (.iconst 2, 1) := by decide +kernel
theorem dX6_letter_92 : decode cX6_letter 92 = .ok (.iadd, 1) := by decide +kernel
theorem dX6_letter_93 : decode cX6_letter 93 = .ok (.iconst 0, 1) := by decide +kernel
theorem dX6_letter_94 : decode cX6_letter 94 = .ok (.iastore, 1) := by decide +kernel
theorem dX6_letter_95 : decode cX6_letter 95 = .ok (.aload_n 0, 1) := by decide +kernel
theorem dX6_letter_96 : decode cX6_letter 96 = .ok (.getfield 9, 3) := by decide +kernel
theorem dX6_letter_99 : decode cX6_letter 99 = .ok (.iload_n 3, 1) := by decide +kernel
theorem dX6_letter_100 : decode cX6_letter 100 = .ok (.iconst 3, 1) := by decide +kernel
theorem dX6_letter_101 : decode cX6_letter 101 = .ok (.iadd, 1) := by decide +kernel
theorem dX6_letter_102 : decode cX6_letter 102 = .ok (.iconst (-1), 1) := by decide +kernel
theorem dX6_letter_103 : decode cX6_letter 103 = .ok (.iastore, 1) := by decide +kernel
theorem dX6_letter_104 : decode cX6_letter 104 = .ok (.aload_n 0, 1) := by decide +kernel
theorem dX6_letter_105 : decode cX6_letter 105 = .ok (.aload_n 0, 1) := by decide +kernel
theorem dX6_letter_106 : decode cX6_letter 106 = .ok (.getfield 9, 3) := by decide +kernel
theorem dX6_letter_109 : decode cX6_letter 109 = .ok (.iconst 4, 1) := by decide +kernel
theorem dX6_letter_110 : decode cX6_letter 110 = .ok (.iaload, 1) := by decide +kernel
theorem dX6_letter_111 : decode cX6_letter 111 = .ok (.iconst 1, 1) := by decide +kernel
theorem dX6_letter_112 : decode cX6_letter 112 = .ok (.isub, 1) := by decide +kernel
theorem dX6_letter_113 : decode cX6_letter 113 = .ok (.invokevirtual 51, 3) := by decide +kernel
theorem dX6_letter_116 : decode cX6_letter 116 = .ok (.ireturn, 1) := by decide +kernel
theorem dX6_loads_0 : decode cX6_loads 0 = .ok (.aload_n 0, 1) := by decide +kernel
theorem dX6_loads_1 : decode cX6_loads 1 = .ok (.iload_n 1, 1) := by decide +kernel
theorem dX6_loads_2 : decode cX6_loads 2 = .ok (.invokevirtual 116, 3) := by decide +kernel
theorem dX6_loads_5 : decode cX6_loads 5 = .ok (.ifCond .eq 11, 3) := by decide +kernel
theorem dX6_loads_8 : decode cX6_loads 8 = .ok (.aload_n 0, 1) := by decide +kernel
theorem dX6_loads_9 : decode cX6_loads 9 = .ok (.iload_n 2, 1) := by decide +kernel
theorem dX6_loads_10 : decode cX6_loads 10 = .ok (.invokevirtual 106, 3) := by decide +kernel
theorem dX6_loads_13 : decode cX6_loads 13 = .ok (.ifCond .ne 5, 3) := by decide +kernel
theorem dX6_loads_16 : decode cX6_loads 16 = .ok (.iconst (-1), 1) := by decide +kernel
theorem dX6_loads_17 : decode cX6_loads 17 = .ok (.ireturn, 1) := by decide +kernel
theorem dX6_loads_18 : decode cX6_loads 18 = .ok (.bipush 88, 2) := by decide +kernel
theorem dX6_loads_20 : decode cX6_loads 20 = .ok (.iconst 4, 1) := by decide +kernel
theorem dX6_loads_21 : decode cX6_loads 21 = .ok (.iload_n 1, 1) := by decide +kernel
theorem dX6_loads_22 : decode cX6_loads 22 = .ok (.imul, 1) := by decide +kernel
theorem dX6_loads_23 : decode cX6_loads 23 = .ok (.iadd, 1) := by decide +kernel
theorem dX6_loads_24 : decode cX6_loads 24 = .ok (.istore_n 3, 1) := by decide +kernel
theorem dX6_loads_25 : decode cX6_loads 25 = .ok (.aload_n 0, 1) := by decide +kernel
theorem dX6_loads_26 : decode cX6_loads 26 = .ok (.getfield 9, 3) := by decide +kernel
theorem dX6_loads_29 : decode cX6_loads 29 = .ok (.iload_n 3, 1) := by decide +kernel
theorem dX6_loads_30 : decode cX6_loads 30 = .ok (.iconst 2, 1) := by decide +kernel
theorem dX6_loads_31 : decode cX6_loads 31 = .ok (.iadd, 1) := by decide +kernel
theorem dX6_loads_32 : decode cX6_loads 32 = .ok (.iaload, 1) := by decide +kernel
theorem dX6_loads_33 : decode cX6_loads 33 = .ok (.ifCond .eq 11, 3) := by decide +kernel
theorem dX6_loads_36 : decode cX6_loads 36 = .ok (.aload_n 0, 1) := by decide +kernel
theorem dX6_loads_37 : decode cX6_loads 37 = .ok (.bipush 8, 2) := by decide +kernel
theorem dX6_loads_39 : decode cX6_loads 39 = .ok (.iload_n 1, 1) := by decide +kernel
theorem dX6_loads_40 : decode cX6_loads 40 = .ok (.invokevirtual 99, 3) := by decide +kernel
theorem dX6_loads_43 : decode cX6_loads 43 = .ok (.ireturn, 1) := by decide +kernel
theorem dX6_loads_44 : decode cX6_loads 44 = .ok (.aload_n 0, 1) := by decide +kernel
theorem dX6_loads_45 : decode cX6_loads 45 = .ok (.iload_n 2, 1) := by decide +kernel
theorem dX6_loads_46 : decode cX6_loads 46 = .ok (.iconst 5, 1) := by decide +kernel
theorem dX6_loads_47 : decode cX6_loads 47 = .ok (.invokevirtual 71, 3) := by decide +kernel
theorem dX6_loads_50 : decode cX6_loads 50 = .ok (.ifCond .eq 10, 3) := by decide +kernel
theorem dX6_loads_53 : decode cX6_loads 53 = .ok (.aload_n 0, 1) := by decide +kernel
theorem dX6_loads_54 : decode cX6_loads 54 = .ok (.iconst 2, 1) := by decide +kernel
theorem dX6_loads_55 : decode cX6_loads 55 = .ok (.iload_n 2, 1) := by decide +kernel
theorem dX6_loads_56 : decode cX6_loads 56 = .ok (.invokevirtual 99, 3) := by decide +kernel
theorem dX6_loads_59 : decode cX6_loads 59 = .ok (.ireturn, 1) := by decide +kernel
theorem dX6_loads_60 : decode cX6_loads 60 = .ok (.aload_n 0, 1) := by decide +kernel
theorem dX6_loads_61 : decode cX6_loads 61 = .ok (.getfield 9, 3) := by decide +kernel
theorem dX6_loads_64 : decode cX6_loads 64 = .ok (.iload_n 3, 1) := by decide +kernel
theorem dX6_loads_65 : decode cX6_loads 65 = .ok (.iconst 2, 1) := by decide +kernel
theorem dX6_loads_66 : decode cX6_loads 66 = .ok (.iadd, 1) := by decide +kernel
theorem dX6_loads_67 : decode cX6_loads 67 = .ok (.iconst 1, 1) := by decide +kernel
theorem dX6_loads_68 : decode cX6_loads 68 = .ok (.iastore, 1) := by decide +kernel
theorem dX6_loads_69 : decode cX6_loads 69 = .ok (.aload_n 0, 1) := by decide +kernel
theorem dX6_loads_70 : decode cX6_loads 70 = .ok (.getfield 9, 3) := by decide +kernel
theorem dX6_loads_73 : decode cX6_loads 73 = .ok (.iload_n 3, 1) := by decide +kernel
theorem dX6_loads_74 : decode cX6_loads 74 = .ok (.iconst 3, 1) := by decide +kernel
theorem dX6_loads_75 : decode cX6_loads 75 = .ok (.iadd, 1) := by decide +kernel
theorem dX6_loads_76 : decode cX6_loads 76 = .ok (.iload_n 2, 1) := by decide +kernel
theorem dX6_loads_77 : decode cX6_loads 77 = .ok (.iastore, 1) := by decide +kernel
theorem dX6_loads_78 : decode cX6_loads 78 = .ok (.aload_n 0, 1) := by decide +kernel
theorem dX6_loads_79 : decode cX6_loads 79 = .ok (.aload_n 0, 1) := by decide +kernel
theorem dX6_loads_80 : decode cX6_loads 80 = .ok (.iload_n 2, 1) := by decide +kernel
theorem dX6_loads_81 : decode cX6_loads 81 = .ok (.invokevirtual 80, 3) := by decide +kernel
theorem dX6_loads_84 : decode cX6_loads 84 = .ok (.invokevirtual 86, 3) := by decide +kernel
theorem dX6_loads_87 : decode cX6_loads 87 = .ok (.ireturn, 1) := by decide +kernel
theorem dX6_load_0 : decode cX6_load 0 = .ok (.aload_n 0, 1) := by decide +kernel
theorem dX6_load_1 : decode cX6_load 1 = .ok (.invokevirtual 83, 3) := by decide +kernel
theorem dX6_load_4 : decode cX6_load 4 = .ok (.aload_n 0, 1) := by decide +kernel
theorem dX6_load_5 : decode cX6_load 5 = .ok (.aload_n 0, 1) := by decide +kernel
theorem dX6_load_6 : decode cX6_load 6 = .ok (.iload_n 1, 1) := by decide +kernel
theorem dX6_load_7 : decode cX6_load 7 = .ok (.iload_n 2, 1) := by decide +kernel
theorem dX6_load_8 : decode cX6_load 8 = .ok (.invokevirtual 119, 3) := by decide +kernel
theorem dX6_load_11 : decode cX6_load 11 = .ok (.iconst 2, 1) := by decide +kernel
theorem dX6_load_12 : decode cX6_load 12 = .ok (.invokevirtual 93, 3) := by decide +kernel
theorem dX6_load_15 : decode cX6_load 15 = .ok (.ireturn, 1) := by decide +kernel
theorem dX6_waits_0 : decode cX6_waits 0 = .ok (.iload_n 1, 1) := by decide +kernel
theorem dX6_waits_1 : decode cX6_waits 1 = .ok (.istore_n 2, 1) := by decide +kernel
theorem dX6_waits_2 : decode cX6_waits 2 = .ok (.iconst 2, 1) := by decide +kernel
theorem dX6_waits_3 : decode cX6_waits 3 = .ok (.istore_n 3, 1) := by decide +kernel
theorem dX6_waits_4 : decode cX6_waits 4 = .ok (.iload_n 3, 1) := by decide +kernel
theorem dX6_waits_5 : decode cX6_waits 5 = .ok (.ifCond .lt 77, 3) := by decide +kernel
theorem dX6_waits_8 : decode cX6_waits 8 = .ok (.iconst 0, 1) := by decide +kernel
theorem dX6_waits_9 : decode cX6_waits 9 = .ok (.istore 4, 2) := by decide +kernel
theorem dX6_waits_11 : decode cX6_waits 11 = .ok (.iload 4, 2) := by decide +kernel
theorem dX6_waits_13 : decode cX6_waits 13 = .ok (.aload_n 0, 1) := by decide +kernel
theorem dX6_waits_14 : decode cX6_waits 14 = .ok (.getfield 9, 3) := by decide +kernel
theorem dX6_waits_17 : decode cX6_waits 17 = .ok (.iconst 4, 1) := by decide +kernel
theorem dX6_waits_18 : decode cX6_waits 18 = .ok (.iaload, 1) := by decide +kernel
theorem dX6_waits_19 : decode cX6_waits 19 = .ok (.if_icmp .ge 57, 3) := by decide +kernel
theorem dX6_waits_22 : decode cX6_waits 22 = .ok (.aload_n 0, 1) := by decide +kernel
theorem dX6_waits_23 : decode cX6_waits 23 = .ok (.getfield 9, 3) := by decide +kernel
theorem dX6_waits_26 : decode cX6_waits 26 = .ok (.bipush 88, 2) := by decide +kernel
theorem dX6_waits_28 : decode cX6_waits 28 = .ok (.iconst 4, 1) := by decide +kernel
theorem dX6_waits_29 : decode cX6_waits 29 = .ok (.iload 4, 2) := by decide +kernel
theorem dX6_waits_31 : decode cX6_waits 31 = .ok (.imul, 1) := by decide +kernel
theorem dX6_waits_32 : decode cX6_waits 32 = .ok (.iadd, 1) := by decide +kernel
theorem dX6_waits_33 : decode cX6_waits 33 = .ok (.iconst 2, 1) := by decide +kernel
theorem dX6_waits_34 : decode cX6_waits 34 = .ok (.iadd, 1) := by decide +kernel
theorem dX6_waits_35 : decode cX6_waits 35 = .ok (.iaload, 1) := by decide +kernel
theorem dX6_waits_36 : decode cX6_waits 36 = .ok (.ifCond .ne 34, 3) := by decide +kernel
theorem dX6_waits_39 : decode cX6_waits 39 = .ok (.aload_n 0, 1) := by decide +kernel
theorem dX6_waits_40 : decode cX6_waits 40 = .ok (.getfield 9, 3) := by decide +kernel
theorem dX6_waits_43 : decode cX6_waits 43 = .ok (.bipush 88, 2) := by decide +kernel
theorem dX6_waits_45 : decode cX6_waits 45 = .ok (.iconst 4, 1) := by decide +kernel
theorem dX6_waits_46 : decode cX6_waits 46 = .ok (.iload 4, 2) := by decide +kernel
theorem dX6_waits_48 : decode cX6_waits 48 = .ok (.imul, 1) := by decide +kernel
theorem dX6_waits_49 : decode cX6_waits 49 = .ok (.iadd, 1) := by decide +kernel
theorem dX6_waits_50 : decode cX6_waits 50 = .ok (.iconst 1, 1) := by decide +kernel
theorem dX6_waits_51 : decode cX6_waits 51 = .ok (.iadd, 1) := by decide +kernel
theorem dX6_waits_52 : decode cX6_waits 52 = .ok (.iaload, 1) := by decide +kernel
theorem dX6_waits_53 : decode cX6_waits 53 = .ok (.iload_n 3, 1) := by decide +kernel
theorem dX6_waits_54 : decode cX6_waits 54 = .ok (.if_icmp .eq 6, 3) := by decide +kernel
theorem dX6_waits_57 : decode cX6_waits 57 = .ok (.goto 13, 3) := by decide +kernel
theorem dX6_waits_60 : decode cX6_waits 60 = .ok (.iload_n 2, 1) := by decide +kernel
theorem dX6_waits_61 : decode cX6_waits 61 = .ok (.ifCond .ne 6, 3) := by decide +kernel
theorem dX6_waits_64 : decode cX6_waits 64 = .ok (.iload 4, 2) := by decide +kernel
theorem dX6_waits_66 : decode cX6_waits 66 = .ok (.ireturn, 1) := by decide +kernel
theorem dX6_waits_67 : decode cX6_waits 67 = .ok (.iinc 2 (-1), 3) := by decide +kernel
theorem dX6_waits_70 : decode cX6_waits 70 = .ok (.iinc 4 1, 3) := by decide +kernel
theorem dX6_waits_73 : decode cX6_waits 73 = .ok (.goto (-62), 3) := by decide +kernel
theorem dX6_waits_76 : decode cX6_waits 76 = .ok (.iinc 3 (-1), 3) := by decide +kernel
theorem dX6_waits_79 : decode cX6_waits 79 = .ok (.goto (-75), 3) := by decide +kernel
theorem dX6_waits_82 : decode cX6_waits 82 = .ok (.iconst (-1), 1) := by decide +kernel
theorem dX6_waits_83 : decode cX6_waits 83 = .ok (.ireturn, 1) := by decide +kernel
theorem dX6_loadAll_0 : decode cX6_loadAll 0 = .ok (.aload_n 0, 1) := by decide +kernel
theorem dX6_loadAll_1 : decode cX6_loadAll 1 = .ok (.invokevirtual 83, 3) := by decide +kernel
theorem dX6_loadAll_4 : decode cX6_loadAll 4 = .ok (.aload_n 0, 1) := by decide +kernel
theorem dX6_loadAll_5 : decode cX6_loadAll 5 = .ok (.iload_n 1, 1) := by decide +kernel
theorem dX6_loadAll_6 : decode cX6_loadAll 6 = .ok (.invokevirtual 106, 3) := by decide +kernel
theorem dX6_loadAll_9 : decode cX6_loadAll 9 = .ok (.ifCond .ne 9, 3) := by decide +kernel
theorem dX6_loadAll_12 : decode cX6_loadAll 12 = .ok (.aload_n 0, 1) := by decide +kernel
theorem dX6_loadAll_13 : decode cX6_loadAll 13 = .ok (.iconst 1, 1) := by decide +kernel
theorem dX6_loadAll_14 : decode cX6_loadAll 14 = .ok (.invokevirtual 55, 3) := by decide +kernel
theorem dX6_loadAll_17 : decode cX6_loadAll 17 = .ok (.ireturn, 1) := by decide +kernel
theorem dX6_loadAll_18 : decode cX6_loadAll 18 = .ok (.aload_n 0, 1) := by decide +kernel
theorem dX6_loadAll_19 : decode cX6_loadAll 19 = .ok (.iload_n 1, 1) := by decide +kernel
theorem dX6_loadAll_20 : decode cX6_loadAll 20 = .ok (.iconst 5, 1) := by decide +kernel
theorem dX6_loadAll_21 : decode cX6_loadAll 21 = .ok (.invokevirtual 71, 3) := by decide +kernel
theorem dX6_loadAll_24 : decode cX6_loadAll 24 = .ok (.ifCond .eq 15, 3) := by decide +kernel
theorem dX6_loadAll_27 : decode cX6_loadAll 27 = .ok (.aload_n 0, 1) := by decide +kernel
theorem dX6_loadAll_28 : decode cX6_loadAll 28 = .ok (.aload_n 0, 1) := by decide +kernel
theorem dX6_loadAll_29 : decode cX6_loadAll 29 = .ok (.iconst 2, 1) := by decide +kernel
theorem dX6_loadAll_30 : decode cX6_loadAll 30 = .ok (.iload_n 1, 1) := by decide +kernel
theorem dX6_loadAll_31 : decode cX6_loadAll 31 = .ok (.invokevirtual 99, 3) := by decide +kernel
theorem dX6_loadAll_34 : decode cX6_loadAll 34 = .ok (.iconst 2, 1) := by decide +kernel
theorem dX6_loadAll_35 : decode cX6_loadAll 35 = .ok (.invokevirtual 93, 3) := by decide +kernel
theorem dX6_loadAll_38 : decode cX6_loadAll 38 = .ok (.ireturn, 1) := by decide +kernel
theorem dX6_loadAll_39 : decode cX6_loadAll 39 = .ok (.iconst 0, 1) := by decide +kernel
theorem dX6_loadAll_40 : decode cX6_loadAll 40 = .ok (.istore_n 2, 1) := by decide +kernel
theorem dX6_loadAll_41 : decode cX6_loadAll 41 = .ok (.iconst 0, 1) := by decide +kernel
theorem dX6_loadAll_42 : decode cX6_loadAll 42 = .ok (.istore_n 3, 1) := by decide +kernel
theorem dX6_loadAll_43 : decode cX6_loadAll 43 = .ok (.aload_n 0, 1) := by decide +kernel
theorem dX6_loadAll_44 : decode cX6_loadAll 44 = .ok (.iconst 0, 1) := by decide +kernel
theorem dX6_loadAll_45 : decode cX6_loadAll 45 = .ok (.invokevirtual 122, 3) := by decide +kernel
theorem dX6_loadAll_48 : decode cX6_loadAll 48 = .ok (.istore 4, 2) := by decide +kernel
theorem dX6_loadAll_50 : decode cX6_loadAll 50 = .ok (.iload 4, 2) := by decide +kernel
theorem dX6_loadAll_52 : decode cX6_loadAll 52 = .ok (.ifCond .lt 79, 3) := by decide +kernel
theorem dX6_loadAll_55 : decode cX6_loadAll 55 = .ok (.bipush 88, 2) := by decide +kernel
theorem dX6_loadAll_57 : decode cX6_loadAll 57 = .ok (.iconst 4, 1) := by decide +kernel
theorem dX6_loadAll_58 : decode cX6_loadAll 58 = .ok (.iload 4, 2) := by decide +kernel
theorem dX6_loadAll_60 : decode cX6_loadAll 60 = .ok (.imul, 1) := by decide +kernel
theorem dX6_loadAll_61 : decode cX6_loadAll 61 = .ok (.iadd, 1) := by decide +kernel
theorem dX6_loadAll_62 : decode cX6_loadAll 62 = .ok (.istore 5, 2) := by decide +kernel
theorem dX6_loadAll_64 : decode cX6_loadAll 64 = .ok (.aload_n 0, 1) := by decide +kernel
theorem dX6_loadAll_65 : decode cX6_loadAll 65 = .ok (.getfield 9, 3) := by decide +kernel
theorem dX6_loadAll_68 : decode cX6_loadAll 68 = .ok (.iload 5, 2) := by decide +kernel
theorem dX6_loadAll_70 : decode cX6_loadAll 70 = .ok (.iconst 2, 1) := by decide +kernel
theorem dX6_loadAll_71 : decode cX6_loadAll 71 = .ok (.iadd, 1) := by decide +kernel
theorem dX6_loadAll_72 : decode cX6_loadAll 72 = .ok (.iconst 1, 1) := by decide +kernel
theorem dX6_loadAll_73 : decode cX6_loadAll 73 = .ok (.iastore, 1) := by decide +kernel
theorem dX6_loadAll_74 : decode cX6_loadAll 74 = .ok (.aload_n 0, 1) := by decide +kernel
theorem dX6_loadAll_75 : decode cX6_loadAll 75 = .ok (.getfield 9, 3) := by decide +kernel
theorem dX6_loadAll_78 : decode cX6_loadAll 78 = .ok (.iload 5, 2) := by decide +kernel
theorem dX6_loadAll_80 : decode cX6_loadAll 80 = .ok (.iconst 3, 1) := by decide +kernel
theorem dX6_loadAll_81 : decode cX6_loadAll 81 = .ok (.iadd, 1) := by decide +kernel
theorem dX6_loadAll_82 : decode cX6_loadAll 82 = .ok (.iload_n 1, 1) := by decide +kernel
theorem dX6_loadAll_83 : decode cX6_loadAll 83 = .ok (.iastore, 1) := by decide +kernel
theorem dX6_loadAll_84 : decode cX6_loadAll 84 = .ok (.aload_n 0, 1) := by decide +kernel
theorem dX6_loadAll_85 : decode cX6_loadAll 85 = .ok (.iload_n 1, 1) := by decide +kernel
theorem dX6_loadAll_86 : decode cX6_loadAll 86 = .ok (.invokevirtual 125, 3) := by decide +kernel
theorem dX6_loadAll_89 : decode cX6_loadAll 89 = .ok (.ifCond .lt 9, 3) := by decide +kernel
theorem dX6_loadAll_92 : decode cX6_loadAll 92 = .ok (.iinc 2 1, 3) := by decide +kernel
theorem dX6_loadAll_95 : decode cX6_loadAll 95 = .ok (.goto 26, 3) := by decide +kernel
theorem dX6_loadAll_98 : decode cX6_loadAll 98 = .ok (.aload_n 0, 1) := by decide +kernel
theorem dX6_loadAll_99 : decode cX6_loadAll 99 = .ok (.getfield 9, 3) := by decide +kernel
theorem dX6_loadAll_102 : decode cX6_loadAll 102 = .ok (.iload 5, 2) := by decide +kernel
theorem dX6_loadAll_104 : decode cX6_loadAll 104 = .ok (.iconst 2, 1) := by decide +kernel
theorem dX6_loadAll_105 : decode cX6_loadAll 105 = .ok (.iadd, 1) := by decide +kernel
theorem dX6_loadAll_106 : decode cX6_loadAll 106 = .ok (.iconst 0, 1) := by decide +kernel
theorem dX6_loadAll_107 : decode cX6_loadAll 107 = .ok (.iastore, 1) := by decide +kernel
theorem dX6_loadAll_108 : decode cX6_loadAll 108 = .ok (.aload_n 0, 1) := by decide +kernel
theorem dX6_loadAll_109 : decode cX6_loadAll 109 = .ok (.getfield 9, 3) := by decide +kernel
theorem dX6_loadAll_112 : decode cX6_loadAll 112 = .ok (.iload 5, 2) := by decide +kernel
theorem dX6_loadAll_114 : decode cX6_loadAll 114 = .ok (.iconst 3, 1) := by decide +kernel
theorem dX6_loadAll_115 : decode cX6_loadAll 115 = .ok (.iadd, 1) := by decide +kernel
theorem dX6_loadAll_116 : decode cX6_loadAll 116 = .ok (.iconst (-1), 1) := by decide +kernel
theorem dX6_loadAll_117 : decode cX6_loadAll 117 = .ok (.iastore, 1) := by decide +kernel
theorem dX6_loadAll_118 : decode cX6_loadAll 118 = .ok (.iinc 3 1, 3) := by decide +kernel
theorem dX6_loadAll_121 : decode cX6_loadAll 121 = .ok (.aload_n 0, 1) := by decide +kernel
theorem dX6_loadAll_122 : decode cX6_loadAll 122 = .ok (.iload_n 3, 1) := by decide +kernel
theorem dX6_loadAll_123 : decode cX6_loadAll 123 = .ok (.invokevirtual 122, 3) := by decide +kernel
theorem dX6_loadAll_126 : decode cX6_loadAll 126 = .ok (.istore 4, 2) := by decide +kernel
theorem dX6_loadAll_128 : decode cX6_loadAll 128 = .ok (.goto (-78), 3) := by decide +kernel
theorem dX6_loadAll_131 : decode cX6_loadAll 131 = .ok (.aload_n 0, 1) := by decide +kernel
theorem dX6_loadAll_132 : decode cX6_loadAll 132 = .ok (.iload_n 2, 1) := by decide +kernel
theorem dX6_loadAll_133 : decode cX6_loadAll 133 = .ok (.invokevirtual 51, 3) := by decide +kernel
theorem dX6_loadAll_136 : decode cX6_loadAll 136 = .ok (.ireturn, 1) := by decide +kernel
theorem dX6_launches_0 : decode cX6_launches 0 = .ok (.aload_n 0, 1) := by decide +kernel
theorem dX6_launches_1 : decode cX6_launches 1 = .ok (.iload_n 1, 1) := by decide +kernel
theorem dX6_launches_2 : decode cX6_launches 2 = .ok (.invokevirtual 106, 3) := by decide +kernel
theorem dX6_launches_5 : decode cX6_launches 5 = .ok (.ifCond .ne 5, 3) := by decide +kernel
theorem dX6_launches_8 : decode cX6_launches 8 = .ok (.iconst (-1), 1) := by decide +kernel
theorem dX6_launches_9 : decode cX6_launches 9 = .ok (.ireturn, 1) := by decide +kernel
theorem dX6_launches_10 : decode cX6_launches 10 = .ok (.aload_n 0, 1) := by decide +kernel
theorem dX6_launches_11 : decode cX6_launches 11 = .ok (.iload_n 1, 1) := by decide +kernel
theorem dX6_launches_12 : decode cX6_launches 12 = .ok (.iconst 5, 1) := by decide +kernel
theorem dX6_launches_13 : decode cX6_launches 13 = .ok (.invokevirtual 71, 3) := by decide +kernel
theorem dX6_launches_16 : decode cX6_launches 16 = .ok (.ifCond .eq 10, 3) := by decide +kernel
theorem dX6_launches_19 : decode cX6_launches 19 = .ok (.aload_n 0, 1) := by decide +kernel
theorem dX6_launches_20 : decode cX6_launches 20 = .ok (.iconst 2, 1) := by decide +kernel
theorem dX6_launches_21 : decode cX6_launches 21 = .ok (.iload_n 1, 1) := by decide +kernel
theorem dX6_launches_22 : decode cX6_launches 22 = .ok (.invokevirtual 99, 3) := by decide +kernel
theorem dX6_launches_25 : decode cX6_launches 25 = .ok (.ireturn, 1) := by decide +kernel
theorem dX6_launches_26 : decode cX6_launches 26 = .ok (.aload_n 0, 1) := by decide +kernel
theorem dX6_launches_27 : decode cX6_launches 27 = .ok (.iload_n 1, 1) := by decide +kernel
theorem dX6_launches_28 : decode cX6_launches 28 = .ok (.invokevirtual 125, 3) := by decide +kernel
theorem dX6_launches_31 : decode cX6_launches 31 = .ok (.istore_n 2, 1) := by decide +kernel
theorem dX6_launches_32 : decode cX6_launches 32 = .ok (.iload_n 2, 1) := by decide +kernel
theorem dX6_launches_33 : decode cX6_launches 33 = .ok (.ifCond .ge 12, 3) := by decide +kernel
theorem dX6_launches_36 : decode cX6_launches 36 = .ok (.aload_n 0, 1) := by decide +kernel
theorem dX6_launches_37 : decode cX6_launches 37 = .ok (.bipush 9, 2) := by decide +kernel
theorem dX6_launches_39 : decode cX6_launches 39 = .ok (.iload_n 2, 1) := by decide +kernel
theorem dX6_launches_40 : decode cX6_launches 40 = .ok (.ineg, 1) := by decide +kernel
theorem dX6_launches_41 : decode cX6_launches 41 = .ok (.invokevirtual 99, 3) := by decide +kernel
theorem dX6_launches_44 : decode cX6_launches 44 = .ok (.ireturn, 1) := by decide +kernel
theorem dX6_launches_45 : decode cX6_launches 45 = .ok (.aload_n 0, 1) := by decide +kernel
theorem dX6_launches_46 : decode cX6_launches 46 = .ok (.iload_n 1, 1) := by decide +kernel
theorem dX6_launches_47 : decode cX6_launches 47 = .ok (.iconst 5, 1) := by decide +kernel
theorem dX6_launches_48 : decode cX6_launches 48 = .ok (.iconst 1, 1) := by decide +kernel
theorem dX6_launches_49 : decode cX6_launches 49 = .ok (.invokevirtual 102, 3) := by decide +kernel
theorem dX6_launches_52 : decode cX6_launches 52 = .ok (.aload_n 0, 1) := by decide +kernel
theorem dX6_launches_53 : decode cX6_launches 53 = .ok (.iload_n 2, 1) := by decide +kernel
theorem dX6_launches_54 : decode cX6_launches 54 = .ok (.invokevirtual 86, 3) := by decide +kernel
theorem dX6_launches_57 : decode cX6_launches 57 = .ok (.ireturn, 1) := by decide +kernel
theorem dX6_launch_0 : decode cX6_launch 0 = .ok (.aload_n 0, 1) := by decide +kernel
theorem dX6_launch_1 : decode cX6_launch 1 = .ok (.invokevirtual 83, 3) := by decide +kernel
theorem dX6_launch_4 : decode cX6_launch 4 = .ok (.aload_n 0, 1) := by decide +kernel
theorem dX6_launch_5 : decode cX6_launch 5 = .ok (.aload_n 0, 1) := by decide +kernel
theorem dX6_launch_6 : decode cX6_launch 6 = .ok (.iload_n 1, 1) := by decide +kernel
theorem dX6_launch_7 : decode cX6_launch 7 = .ok (.invokevirtual 128, 3) := by decide +kernel
theorem dX6_launch_10 : decode cX6_launch 10 = .ok (.iconst 2, 1) := by decide +kernel
theorem dX6_launch_11 : decode cX6_launch 11 = .ok (.invokevirtual 93, 3) := by decide +kernel
theorem dX6_launch_14 : decode cX6_launch 14 = .ok (.ireturn, 1) := by decide +kernel
theorem dX6_drops_0 : decode cX6_drops 0 = .ok (.aload_n 0, 1) := by decide +kernel
theorem dX6_drops_1 : decode cX6_drops 1 = .ok (.iload_n 1, 1) := by decide +kernel
theorem dX6_drops_2 : decode cX6_drops 2 = .ok (.invokevirtual 106, 3) := by decide +kernel
theorem dX6_drops_5 : decode cX6_drops 5 = .ok (.ifCond .ne 5, 3) := by decide +kernel
theorem dX6_drops_8 : decode cX6_drops 8 = .ok (.iconst (-1), 1) := by decide +kernel
theorem dX6_drops_9 : decode cX6_drops 9 = .ok (.ireturn, 1) := by decide +kernel
theorem dX6_drops_10 : decode cX6_drops 10 = .ok (.iload_n 2, 1) := by decide +kernel
theorem dX6_drops_11 : decode cX6_drops 11 = .ok (.iconst 1, 1) := by decide +kernel
theorem dX6_drops_12 : decode cX6_drops 12 = .ok (.bipush 50, 2) := by decide +kernel
theorem dX6_drops_14 : decode cX6_drops 14 = .ok (.invokestatic 58, 3) := by decide +kernel
theorem dX6_drops_17 : decode cX6_drops 17 = .ok (.ifCond .ne 6, 3) := by decide +kernel
theorem dX6_drops_20 : decode cX6_drops 20 = .ok (.bipush (-2), 2) := by decide +kernel
theorem dX6_drops_22 : decode cX6_drops 22 = .ok (.ireturn, 1) := by decide +kernel
theorem dX6_drops_23 : decode cX6_drops 23 = .ok (.aload_n 0, 1) := by decide +kernel
theorem dX6_drops_24 : decode cX6_drops 24 = .ok (.iload_n 1, 1) := by decide +kernel
theorem dX6_drops_25 : decode cX6_drops 25 = .ok (.iconst 5, 1) := by decide +kernel
theorem dX6_drops_26 : decode cX6_drops 26 = .ok (.invokevirtual 71, 3) := by decide +kernel
theorem dX6_drops_29 : decode cX6_drops 29 = .ok (.iconst 1, 1) := by decide +kernel
theorem dX6_drops_30 : decode cX6_drops 30 = .ok (.if_icmp .eq 10, 3) := by decide +kernel
theorem dX6_drops_33 : decode cX6_drops 33 = .ok (.aload_n 0, 1) := by decide +kernel
theorem dX6_drops_34 : decode cX6_drops 34 = .ok (.iconst 3, 1) := by decide +kernel
theorem dX6_drops_35 : decode cX6_drops 35 = .ok (.iload_n 1, 1) := by decide +kernel
theorem dX6_drops_36 : decode cX6_drops 36 = .ok (.invokevirtual 99, 3) := by decide +kernel
theorem dX6_drops_39 : decode cX6_drops 39 = .ok (.ireturn, 1) := by decide +kernel
theorem dX6_drops_40 : decode cX6_drops 40 = .ok (.aload_n 0, 1) := by decide +kernel
theorem dX6_drops_41 : decode cX6_drops 41 = .ok (.iload_n 1, 1) := by decide +kernel
theorem dX6_drops_42 : decode cX6_drops 42 = .ok (.iconst 2, 1) := by decide +kernel
theorem dX6_drops_43 : decode cX6_drops 43 = .ok (.invokevirtual 71, 3) := by decide +kernel
theorem dX6_drops_46 : decode cX6_drops 46 = .ok (.iload_n 2, 1) := by decide +kernel
theorem dX6_drops_47 : decode cX6_drops 47 = .ok (.if_icmp .ge 16, 3) := by decide +kernel
theorem dX6_drops_50 : decode cX6_drops 50 = .ok (.aload_n 0, 1) := by decide +kernel
theorem dX6_drops_51 : decode cX6_drops 51 = .ok (.bipush 7, 2) := by decide +kernel
theorem dX6_drops_53 : decode cX6_drops 53 = .ok (.aload_n 0, 1) := by decide +kernel
theorem dX6_drops_54 : decode cX6_drops 54 = .ok (.iload_n 1, 1) := by decide +kernel
theorem dX6_drops_55 : decode cX6_drops 55 = .ok (.iconst 2, 1) := by decide +kernel
theorem dX6_drops_56 : decode cX6_drops 56 = .ok (.invokevirtual 71, 3) := by decide +kernel
theorem dX6_drops_59 : decode cX6_drops 59 = .ok (.invokevirtual 99, 3) := by decide +kernel
theorem dX6_drops_62 : decode cX6_drops 62 = .ok (.ireturn, 1) := by decide +kernel
theorem dX6_drops_63 : decode cX6_drops 63 = .ok (.aload_n 0, 1) := by decide +kernel
theorem dX6_drops_64 : decode cX6_drops 64 = .ok (.iload_n 1, 1) := by decide +kernel
theorem dX6_drops_65 : decode cX6_drops 65 = .ok (.iconst 2, 1) := by decide +kernel
theorem dX6_drops_66 : decode cX6_drops 66 = .ok (.aload_n 0, 1) := by decide +kernel
theorem dX6_drops_67 : decode cX6_drops 67 = .ok (.iload_n 1, 1) := by decide +kernel
theorem dX6_drops_68 : decode cX6_drops 68 = .ok (.iconst 2, 1) := by decide +kernel
theorem dX6_drops_69 : decode cX6_drops 69 = .ok (.invokevirtual 71, 3) := by decide +kernel
theorem dX6_drops_72 : decode cX6_drops 72 = .ok (.iload_n 2, 1) := by decide +kernel
theorem dX6_drops_73 : decode cX6_drops 73 = .ok (.isub, 1) := by decide +kernel
theorem dX6_drops_74 : decode cX6_drops 74 = .ok (.invokevirtual 102, 3) := by decide +kernel
theorem dX6_drops_77 : decode cX6_drops 77 = .ok (.aload_n 0, 1) := by decide +kernel
theorem dX6_drops_78 : decode cX6_drops 78 = .ok (.getfield 9, 3) := by decide +kernel
theorem dX6_drops_81 : decode cX6_drops 81 = .ok (.bipush 6, 2) := by decide +kernel
theorem dX6_drops_83 : decode cX6_drops 83 = .ok (.dup2, 1) := by decide +kernel
theorem dX6_drops_84 : decode cX6_drops 84 = .ok (.iaload, 1) := by decide +kernel
theorem dX6_drops_85 : decode cX6_drops 85 = .ok (.iload_n 2, 1) := by decide +kernel
theorem dX6_drops_86 : decode cX6_drops 86 = .ok (.iadd, 1) := by decide +kernel
theorem dX6_drops_87 : decode cX6_drops 87 = .ok (.iastore, 1) := by decide +kernel
theorem dX6_drops_88 : decode cX6_drops 88 = .ok (.aload_n 0, 1) := by decide +kernel
theorem dX6_drops_89 : decode cX6_drops 89 = .ok (.aload_n 0, 1) := by decide +kernel
theorem dX6_drops_90 : decode cX6_drops 90 = .ok (.iload_n 1, 1) := by decide +kernel
theorem dX6_drops_91 : decode cX6_drops 91 = .ok (.iconst 2, 1) := by decide +kernel
theorem dX6_drops_92 : decode cX6_drops 92 = .ok (.invokevirtual 71, 3) := by decide +kernel
theorem dX6_drops_95 : decode cX6_drops 95 = .ok (.invokevirtual 86, 3) := by decide +kernel
theorem dX6_drops_98 : decode cX6_drops 98 = .ok (.ireturn, 1) := by decide +kernel
theorem dX6_drop_0 : decode cX6_drop 0 = .ok (.aload_n 0, 1) := by decide +kernel
theorem dX6_drop_1 : decode cX6_drop 1 = .ok (.invokevirtual 83, 3) := by decide +kernel
theorem dX6_drop_4 : decode cX6_drop 4 = .ok (.aload_n 0, 1) := by decide +kernel
theorem dX6_drop_5 : decode cX6_drop 5 = .ok (.aload_n 0, 1) := by decide +kernel
theorem dX6_drop_6 : decode cX6_drop 6 = .ok (.iload_n 1, 1) := by decide +kernel
theorem dX6_drop_7 : decode cX6_drop 7 = .ok (.iload_n 2, 1) := by decide +kernel
theorem dX6_drop_8 : decode cX6_drop 8 = .ok (.invokevirtual 131, 3) := by decide +kernel
theorem dX6_drop_11 : decode cX6_drop 11 = .ok (.iconst 3, 1) := by decide +kernel
theorem dX6_drop_12 : decode cX6_drop 12 = .ok (.invokevirtual 93, 3) := by decide +kernel
theorem dX6_drop_15 : decode cX6_drop 15 = .ok (.ireturn, 1) := by decide +kernel
theorem dX6_isDown_0 : decode cX6_isDown 0 = .ok (.aload_n 0, 1) := by decide +kernel
theorem dX6_isDown_1 : decode cX6_isDown 1 = .ok (.iload_n 1, 1) := by decide +kernel
theorem dX6_isDown_2 : decode cX6_isDown 2 = .ok (.iconst 5, 1) := by decide +kernel
theorem dX6_isDown_3 : decode cX6_isDown 3 = .ok (.iload_n 2, 1) := by decide +kernel
theorem dX6_isDown_4 : decode cX6_isDown 4 = .ok (.invokevirtual 102, 3) := by decide +kernel
theorem dX6_isDown_7 : decode cX6_isDown 7 = .ok (.aload_n 0, 1) := by decide +kernel
theorem dX6_isDown_8 : decode cX6_isDown 8 = .ok (.iload_n 1, 1) := by decide +kernel
theorem dX6_isDown_9 : decode cX6_isDown 9 = .ok (.bipush 9, 2) := by decide +kernel
theorem dX6_isDown_11 : decode cX6_isDown 11 = .ok (.aload_n 0, 1) := by decide +kernel
theorem dX6_isDown_12 : decode cX6_isDown 12 = .ok (.getfield 9, 3) := by decide +kernel
theorem dX6_isDown_15 : decode cX6_isDown 15 = .ok (.iconst 0, 1) := by decide +kernel
theorem dX6_isDown_16 : decode cX6_isDown 16 = .ok (.iaload, 1) := by decide +kernel
theorem dX6_isDown_17 : decode cX6_isDown 17 = .ok (.invokevirtual 102, 3) := by decide +kernel
theorem dX6_isDown_20 : decode cX6_isDown 20 = .ok (.aload_n 0, 1) := by decide +kernel
theorem dX6_isDown_21 : decode cX6_isDown 21 = .ok (.iload_n 1, 1) := by decide +kernel
theorem dX6_isDown_22 : decode cX6_isDown 22 = .ok (.bipush 10, 2) := by decide +kernel
theorem dX6_isDown_24 : decode cX6_isDown 24 = .ok (.iconst 0, 1) := by decide +kernel
theorem dX6_isDown_25 : decode cX6_isDown 25 = .ok (.invokevirtual 102, 3) := by decide +kernel
theorem dX6_isDown_28 : decode cX6_isDown 28 = .ok (.aload_n 0, 1) := by decide +kernel
theorem dX6_isDown_29 : decode cX6_isDown 29 = .ok (.getfield 9, 3) := by decide +kernel
theorem dX6_isDown_32 : decode cX6_isDown 32 = .ok (.iload_n 2, 1) := by decide +kernel
theorem dX6_isDown_33 : decode cX6_isDown 33 = .ok (.iconst 2, 1) := by decide +kernel
theorem dX6_isDown_34 : decode cX6_isDown 34 = .ok (.if_icmp .ne 8, 3) := by decide +kernel
theorem dX6_isDown_37 : decode cX6_isDown 37 = .ok (.bipush 7, 2) := by decide +kernel
theorem dX6_isDown_39 : decode cX6_isDown 39 = .ok (.goto 5, 3) := by decide +kernel
theorem dX6_isDown_42 : decode cX6_isDown 42 = .ok (.bipush 8, 2) := by decide +kernel
theorem dX6_isDown_44 : decode cX6_isDown 44 = .ok (.dup2, 1) := by decide +kernel
theorem dX6_isDown_45 : decode cX6_isDown 45 = .ok (.iaload, 1) := by decide +kernel
theorem dX6_isDown_46 : decode cX6_isDown 46 = .ok (.aload_n 0, 1) := by decide +kernel
theorem dX6_isDown_47 : decode cX6_isDown 47 = .ok (.iload_n 1, 1) := by decide +kernel
theorem dX6_isDown_48 : decode cX6_isDown 48 = .ok (.iconst 2, 1) := by decide +kernel
theorem dX6_isDown_49 : decode cX6_isDown 49 = .ok (.invokevirtual 71, 3) := by decide +kernel
theorem dX6_isDown_52 : decode cX6_isDown 52 = .ok (.iadd, 1) := by decide +kernel
theorem dX6_isDown_53 : decode cX6_isDown 53 = .ok (.iastore, 1) := by decide +kernel
theorem dX6_isDown_54 : decode cX6_isDown 54 = .ok (.iconst 0, 1) := by decide +kernel
theorem dX6_isDown_55 : decode cX6_isDown 55 = .ok (.istore_n 3, 1) := by decide +kernel
theorem dX6_isDown_56 : decode cX6_isDown 56 = .ok (.iload_n 3, 1) := by decide +kernel
theorem dX6_isDown_57 : decode cX6_isDown 57 = .ok (.aload_n 0, 1) := by decide +kernel
theorem dX6_isDown_58 : decode cX6_isDown 58 = .ok (.getfield 9, 3) := by decide +kernel
theorem dX6_isDown_61 : decode cX6_isDown 61 = .ok (.iconst 4, 1) := by decide +kernel
theorem dX6_isDown_62 : decode cX6_isDown 62 = .ok (.iaload, 1) := by decide +kernel
theorem dX6_isDown_63 : decode cX6_isDown 63 = .ok (.if_icmp .ge 57, 3) := by decide +kernel
theorem dX6_isDown_66 : decode cX6_isDown 66 = .ok (.aload_n 0, 1) := by decide +kernel
theorem dX6_isDown_67 : decode cX6_isDown 67 = .ok (.getfield 9, 3) := by decide +kernel
theorem dX6_isDown_70 : decode cX6_isDown 70 = .ok (.bipush 88, 2) := by decide +kernel
theorem dX6_isDown_72 : decode cX6_isDown 72 = .ok (.iconst 4, 1) := by decide +kernel
theorem dX6_isDown_73 : decode cX6_isDown 73 = .ok (.iload_n 3, 1) := by decide +kernel
theorem dX6_isDown_74 : decode cX6_isDown 74 = .ok (.imul, 1) := by decide +kernel
theorem dX6_isDown_75 : decode cX6_isDown 75 = .ok (.iadd, 1) := by decide +kernel
theorem dX6_isDown_76 : decode cX6_isDown 76 = .ok (.iconst 2, 1) := by decide +kernel
theorem dX6_isDown_77 : decode cX6_isDown 77 = .ok (.iadd, 1) := by decide +kernel
theorem dX6_isDown_78 : decode cX6_isDown 78 = .ok (.iaload, 1) := by decide +kernel
theorem dX6_isDown_79 : decode cX6_isDown 79 = .ok (.iconst 1, 1) := by decide +kernel
theorem dX6_isDown_80 : decode cX6_isDown 80 = .ok (.if_icmp .ne 34, 3) := by decide +kernel
theorem dX6_isDown_83 : decode cX6_isDown 83 = .ok (.aload_n 0, 1) := by decide +kernel
theorem dX6_isDown_84 : decode cX6_isDown 84 = .ok (.getfield 9, 3) := by decide +kernel
theorem dX6_isDown_87 : decode cX6_isDown 87 = .ok (.bipush 88, 2) := by decide +kernel
theorem dX6_isDown_89 : decode cX6_isDown 89 = .ok (.iconst 4, 1) := by decide +kernel
theorem dX6_isDown_90 : decode cX6_isDown 90 = .ok (.iload_n 3, 1) := by decide +kernel
theorem dX6_isDown_91 : decode cX6_isDown 91 = .ok (.imul, 1) := by decide +kernel
theorem dX6_isDown_92 : decode cX6_isDown 92 = .ok (.iadd, 1) := by decide +kernel
theorem dX6_isDown_93 : decode cX6_isDown 93 = .ok (.iconst 3, 1) := by decide +kernel
theorem dX6_isDown_94 : decode cX6_isDown 94 = .ok (.iadd, 1) := by decide +kernel
theorem dX6_isDown_95 : decode cX6_isDown 95 = .ok (.iaload, 1) := by decide +kernel
theorem dX6_isDown_96 : decode cX6_isDown 96 = .ok (.iload_n 1, 1) := by decide +kernel
theorem dX6_isDown_97 : decode cX6_isDown 97 = .ok (.if_icmp .ne 17, 3) := by decide +kernel
theorem dX6_isDown_100 : decode cX6_isDown 100 = .ok (.aload_n 0, 1) := by decide +kernel
theorem dX6_isDown_101 : decode cX6_isDown 101 = .ok (.getfield 9, 3) := by decide +kernel
theorem dX6_isDown_104 : decode cX6_isDown 104 = .ok (.bipush 88, 2) := by decide +kernel
theorem dX6_isDown_106 : decode cX6_isDown 106 = .ok (.iconst 4, 1) := by decide +kernel
theorem dX6_isDown_107 : decode cX6_isDown 107 = .ok (.iload_n 3, 1) := by decide +kernel
theorem dX6_isDown_108 : decode cX6_isDown 108 = .ok (.imul, 1) := by decide +kernel
theorem dX6_isDown_109 : decode cX6_isDown 109 = .ok (.iadd, 1) := by decide +kernel
theorem dX6_isDown_110 : decode cX6_isDown 110 = .ok (.iconst 2, 1) := by decide +kernel
theorem dX6_isDown_111 : decode cX6_isDown 111 = .ok (.iadd, 1) := by decide +kernel
theorem dX6_isDown_112 : decode cX6_isDown 112 = .ok (.iload_n 2, 1) := by decide +kernel
theorem dX6_isDown_113 : decode cX6_isDown 113 = .ok (.iastore, 1) := by decide +kernel
theorem dX6_isDown_114 : decode cX6_isDown 114 = .ok (.iinc 3 1, 3) := by decide +kernel
theorem dX6_isDown_117 : decode cX6_isDown 117 = .ok (.goto (-61), 3) := by decide +kernel
theorem dX6_isDown_120 : decode cX6_isDown 120 = .ok (.return_, 1) := by decide +kernel
theorem dX6_flies_0 : decode cX6_flies 0 = .ok (.aload_n 0, 1) := by decide +kernel
theorem dX6_flies_1 : decode cX6_flies 1 = .ok (.iload_n 1, 1) := by decide +kernel
theorem dX6_flies_2 : decode cX6_flies 2 = .ok (.iconst 1, 1) := by decide +kernel
theorem dX6_flies_3 : decode cX6_flies 3 = .ok (.invokevirtual 71, 3) := by decide +kernel
theorem dX6_flies_6 : decode cX6_flies 6 = .ok (.bipush 19, 2) := by decide +kernel
theorem dX6_flies_8 : decode cX6_flies 8 = .ok (.iadd, 1) := by decide +kernel
theorem dX6_flies_9 : decode cX6_flies 9 = .ok (.bipush 20, 2) := by decide +kernel
theorem dX6_flies_11 : decode cX6_flies 11 = .ok (.idiv, 1) := by decide +kernel
theorem dX6_flies_12 : decode cX6_flies 12 = .ok (.istore_n 2, 1) := by decide +kernel
theorem dX6_flies_13 : decode cX6_flies 13 = .ok (.aload_n 0, 1) := by decide +kernel
theorem dX6_flies_14 : decode cX6_flies 14 = .ok (.iload_n 1, 1) := by decide +kernel
theorem dX6_flies_15 : decode cX6_flies 15 = .ok (.iconst 1, 1) := by decide +kernel
theorem dX6_flies_16 : decode cX6_flies 16 = .ok (.aload_n 0, 1) := by decide +kernel
theorem dX6_flies_17 : decode cX6_flies 17 = .ok (.iload_n 1, 1) := by decide +kernel
theorem dX6_flies_18 : decode cX6_flies 18 = .ok (.iconst 1, 1) := by decide +kernel
theorem dX6_flies_19 : decode cX6_flies 19 = .ok (.invokevirtual 71, 3) := by decide +kernel
theorem dX6_flies_22 : decode cX6_flies 22 = .ok (.iload_n 2, 1) := by decide +kernel
theorem dX6_flies_23 : decode cX6_flies 23 = .ok (.isub, 1) := by decide +kernel
theorem dX6_flies_24 : decode cX6_flies 24 = .ok (.invokevirtual 102, 3) := by decide +kernel
theorem dX6_flies_27 : decode cX6_flies 27 = .ok (.aload_n 0, 1) := by decide +kernel
theorem dX6_flies_28 : decode cX6_flies 28 = .ok (.iload_n 1, 1) := by decide +kernel
theorem dX6_flies_29 : decode cX6_flies 29 = .ok (.bipush 8, 2) := by decide +kernel
theorem dX6_flies_31 : decode cX6_flies 31 = .ok (.aload_n 0, 1) := by decide +kernel
theorem dX6_flies_32 : decode cX6_flies 32 = .ok (.iload_n 1, 1) := by decide +kernel
theorem dX6_flies_33 : decode cX6_flies 33 = .ok (.bipush 8, 2) := by decide +kernel
theorem dX6_flies_35 : decode cX6_flies 35 = .ok (.invokevirtual 71, 3) := by decide +kernel
theorem dX6_flies_38 : decode cX6_flies 38 = .ok (.iconst 1, 1) := by decide +kernel
theorem dX6_flies_39 : decode cX6_flies 39 = .ok (.iadd, 1) := by decide +kernel
theorem dX6_flies_40 : decode cX6_flies 40 = .ok (.invokevirtual 102, 3) := by decide +kernel
theorem dX6_flies_43 : decode cX6_flies 43 = .ok (.aload_n 0, 1) := by decide +kernel
theorem dX6_flies_44 : decode cX6_flies 44 = .ok (.getfield 9, 3) := by decide +kernel
theorem dX6_flies_47 : decode cX6_flies 47 = .ok (.bipush 9, 2) := by decide +kernel
theorem dX6_flies_49 : decode cX6_flies 49 = .ok (.dup2, 1) := by decide +kernel
theorem dX6_flies_50 : decode cX6_flies 50 = .ok (.iaload, 1) := by decide +kernel
theorem dX6_flies_51 : decode cX6_flies 51 = .ok (.iload_n 2, 1) := by decide +kernel
theorem dX6_flies_52 : decode cX6_flies 52 = .ok (.iadd, 1) := by decide +kernel
theorem dX6_flies_53 : decode cX6_flies 53 = .ok (.iastore, 1) := by decide +kernel
theorem dX6_flies_54 : decode cX6_flies 54 = .ok (.aload_n 0, 1) := by decide +kernel
theorem dX6_flies_55 : decode cX6_flies 55 = .ok (.iload_n 1, 1) := by decide +kernel
theorem dX6_flies_56 : decode cX6_flies 56 = .ok (.invokevirtual 125, 3) := by decide +kernel
theorem dX6_flies_59 : decode cX6_flies 59 = .ok (.ifCond .ge 28, 3) := by decide +kernel
theorem dX6_flies_62 : decode cX6_flies 62 = .ok (.aload_n 0, 1) := by decide +kernel
theorem dX6_flies_63 : decode cX6_flies 63 = .ok (.iload_n 1, 1) := by decide +kernel
theorem dX6_flies_64 : decode cX6_flies 64 = .ok (.aload_n 0, 1) := by decide +kernel
theorem dX6_flies_65 : decode cX6_flies 65 = .ok (.iload_n 1, 1) := by decide +kernel
theorem dX6_flies_66 : decode cX6_flies 66 = .ok (.invokevirtual 134, 3) := by decide +kernel
theorem dX6_flies_69 : decode cX6_flies 69 = .ok (.aload_n 0, 1) := by decide +kernel
theorem dX6_flies_70 : decode cX6_flies 70 = .ok (.getfield 9, 3) := by decide +kernel
theorem dX6_flies_73 : decode cX6_flies 73 = .ok (.iconst 1, 1) := by decide +kernel
theorem dX6_flies_74 : decode cX6_flies 74 = .ok (.iaload, 1) := by decide +kernel
theorem dX6_flies_75 : decode cX6_flies 75 = .ok (.if_icmp .gt 7, 3) := by decide +kernel
theorem dX6_flies_78 : decode cX6_flies 78 = .ok (.iconst 3, 1) := by decide +kernel
theorem dX6_flies_79 : decode cX6_flies 79 = .ok (.goto 4, 3) := by decide +kernel
theorem dX6_flies_82 : decode cX6_flies 82 = .ok (.iconst 2, 1) := by decide +kernel
theorem dX6_flies_83 : decode cX6_flies 83 = .ok (.invokevirtual 137, 3) := by decide +kernel
theorem dX6_flies_86 : decode cX6_flies 86 = .ok (.return_, 1) := by decide +kernel
theorem dX6_flies_87 : decode cX6_flies 87 = .ok (.aload_n 0, 1) := by decide +kernel
theorem dX6_flies_88 : decode cX6_flies 88 = .ok (.iload_n 1, 1) := by decide +kernel
theorem dX6_flies_89 : decode cX6_flies 89 = .ok (.bipush 10, 2) := by decide +kernel
theorem dX6_flies_91 : decode cX6_flies 91 = .ok (.iconst 5, 1) := by decide +kernel
theorem dX6_flies_92 : decode cX6_flies 92 = .ok (.aload_n 0, 1) := by decide +kernel
theorem dX6_flies_93 : decode cX6_flies 93 = .ok (.iload_n 1, 1) := by decide +kernel
theorem dX6_flies_94 : decode cX6_flies 94 = .ok (.invokevirtual 125, 3) := by decide +kernel
theorem dX6_flies_97 : decode cX6_flies 97 = .ok (.iconst 4, 1) := by decide +kernel
theorem dX6_flies_98 : decode cX6_flies 98 = .ok (.idiv, 1) := by decide +kernel
theorem dX6_flies_99 : decode cX6_flies 99 = .ok (.invokestatic 96, 3) := by decide +kernel
theorem dX6_flies_102 : decode cX6_flies 102 = .ok (.invokevirtual 102, 3) := by decide +kernel
theorem dX6_flies_105 : decode cX6_flies 105 = .ok (.bipush 10, 2) := by decide +kernel
theorem dX6_flies_107 : decode cX6_flies 107 = .ok (.iconst 2, 1) := by decide +kernel
theorem dX6_flies_108 : decode cX6_flies 108 = .ok (.aload_n 0, 1) := by decide +kernel
theorem dX6_flies_109 : decode cX6_flies 109 = .ok (.iload_n 1, 1) := by decide +kernel
theorem dX6_flies_110 : decode cX6_flies 110 = .ok (.bipush 10, 2) := by decide +kernel
theorem dX6_flies_112 : decode cX6_flies 112 = .ok (.invokevirtual 71, 3) := by decide +kernel
theorem dX6_flies_115 : decode cX6_flies 115 = .ok (.imul, 1) := by decide +kernel
theorem dX6_flies_116 : decode cX6_flies 116 = .ok (.iadd, 1) := by decide +kernel
theorem dX6_flies_117 : decode cX6_flies 117 = .ok (.istore_n 3, 1) := by decide +kernel
theorem dX6_flies_118 : decode cX6_flies 118 = .ok (.aload_n 0, 1) := by decide +kernel
theorem dX6_flies_119 : decode cX6_flies 119 = .ok (.iload_n 1, 1) := by decide +kernel
theorem dX6_flies_120 : decode cX6_flies 120 = .ok (.bipush 6, 2) := by decide +kernel
theorem dX6_flies_122 : decode cX6_flies 122 = .ok (.aload_n 0, 1) := by decide +kernel
theorem dX6_flies_123 : decode cX6_flies 123 = .ok (.iload_n 1, 1) := by decide +kernel
theorem dX6_flies_124 : decode cX6_flies 124 = .ok (.bipush 6, 2) := by decide +kernel
theorem dX6_flies_126 : decode cX6_flies 126 = .ok (.invokevirtual 71, 3) := by decide +kernel
theorem dX6_flies_129 : decode cX6_flies 129 = .ok (.aload_n 0, 1) := by decide +kernel
theorem dX6_flies_130 : decode cX6_flies 130 = .ok (.getfield 9, 3) := by decide +kernel
theorem dX6_flies_133 : decode cX6_flies 133 = .ok (.iload_n 3, 1) := by decide +kernel
theorem dX6_flies_134 : decode cX6_flies 134 = .ok (.iaload, 1) := by decide +kernel
theorem dX6_flies_135 : decode cX6_flies 135 = .ok (.iadd, 1) := by decide +kernel
theorem dX6_flies_136 : decode cX6_flies 136 = .ok (.invokevirtual 102, 3) := by decide +kernel
theorem dX6_flies_139 : decode cX6_flies 139 = .ok (.aload_n 0, 1) := by decide +kernel
theorem dX6_flies_140 : decode cX6_flies 140 = .ok (.iload_n 1, 1) := by decide +kernel
theorem dX6_flies_141 : decode cX6_flies 141 = .ok (.bipush 7, 2) := by decide +kernel
theorem dX6_flies_143 : decode cX6_flies 143 = .ok (.aload_n 0, 1) := by decide +kernel
theorem dX6_flies_144 : decode cX6_flies 144 = .ok (.iload_n 1, 1) := by decide +kernel
theorem dX6_flies_145 : decode cX6_flies 145 = .ok (.bipush 7, 2) := by decide +kernel
theorem dX6_flies_147 : decode cX6_flies 147 = .ok (.invokevirtual 71, 3) := by decide +kernel
theorem dX6_flies_150 : decode cX6_flies 150 = .ok (.aload_n 0, 1) := by decide +kernel
theorem dX6_flies_151 : decode cX6_flies 151 = .ok (.getfield 9, 3) := by decide +kernel
theorem dX6_flies_154 : decode cX6_flies 154 = .ok (.iload_n 3, 1) := by decide +kernel
theorem dX6_flies_155 : decode cX6_flies 155 = .ok (.iconst 1, 1) := by decide +kernel
theorem dX6_flies_156 : decode cX6_flies 156 = .ok (.iadd, 1) := by decide +kernel
theorem dX6_flies_157 : decode cX6_flies 157 = .ok (.iaload, 1) := by decide +kernel
theorem dX6_flies_158 : decode cX6_flies 158 = .ok (.iadd, 1) := by decide +kernel
theorem dX6_flies_159 : decode cX6_flies 159 = .ok (.invokevirtual 102, 3) := by decide +kernel
theorem dX6_flies_162 : decode cX6_flies 162 = .ok (.aload_n 0, 1) := by decide +kernel
theorem dX6_flies_163 : decode cX6_flies 163 = .ok (.iload_n 1, 1) := by decide +kernel
theorem dX6_flies_164 : decode cX6_flies 164 = .ok (.bipush 6, 2) := by decide +kernel
theorem dX6_flies_166 : decode cX6_flies 166 = .ok (.invokevirtual 71, 3) := by decide +kernel
theorem dX6_flies_169 : decode cX6_flies 169 = .ok (.iconst 0, 1) := by decide +kernel
theorem dX6_flies_170 : decode cX6_flies 170 = .ok (.bipush 39, 2) := by decide +kernel
theorem dX6_flies_172 : decode cX6_flies 172 = .ok (.invokestatic 58, 3) := by decide +kernel
theorem dX6_flies_175 : decode cX6_flies 175 = .ok (.ifCond .eq 19, 3) := by decide +kernel
theorem dX6_flies_178 : decode cX6_flies 178 = .ok (.aload_n 0, 1) := by decide +kernel
theorem dX6_flies_179 : decode cX6_flies 179 = .ok (.iload_n 1, 1) := by decide +kernel
theorem dX6_flies_180 : decode cX6_flies 180 = .ok (.bipush 7, 2) := by decide +kernel
theorem dX6_flies_182 : decode cX6_flies 182 = .ok (.invokevirtual 71, 3) := by decide +kernel
theorem dX6_flies_185 : decode cX6_flies 185 = .ok (.iconst 0, 1) := by decide +kernel
theorem dX6_flies_186 : decode cX6_flies 186 = .ok (.bipush 39, 2) := by decide +kernel
theorem dX6_flies_188 : decode cX6_flies 188 = .ok (.invokestatic 58, 3) := by decide +kernel
theorem dX6_flies_191 : decode cX6_flies 191 = .ok (.ifCond .ne 9, 3) := by decide +kernel
theorem dX6_flies_194 : decode cX6_flies 194 = .ok (.aload_n 0, 1) := by decide +kernel
theorem dX6_flies_195 : decode cX6_flies 195 = .ok (.iload_n 1, 1) := by decide +kernel
theorem dX6_flies_196 : decode cX6_flies 196 = .ok (.iconst 3, 1) := by decide +kernel
theorem dX6_flies_197 : decode cX6_flies 197 = .ok (.invokevirtual 137, 3) := by decide +kernel
theorem dX6_flies_200 : decode cX6_flies 200 = .ok (.return_, 1) := by decide +kernel
theorem dX6_goes_0 : decode cX6_goes 0 = .ok (.iconst 0, 1) := by decide +kernel
theorem dX6_goes_1 : decode cX6_goes 1 = .ok (.istore_n 1, 1) := by decide +kernel
theorem dX6_goes_2 : decode cX6_goes 2 = .ok (.iconst 0, 1) := by decide +kernel
theorem dX6_goes_3 : decode cX6_goes 3 = .ok (.istore_n 2, 1) := by decide +kernel
theorem dX6_goes_4 : decode cX6_goes 4 = .ok (.iload_n 2, 1) := by decide +kernel
theorem dX6_goes_5 : decode cX6_goes 5 = .ok (.aload_n 0, 1) := by decide +kernel
theorem dX6_goes_6 : decode cX6_goes 6 = .ok (.getfield 9, 3) := by decide +kernel
theorem dX6_goes_9 : decode cX6_goes 9 = .ok (.iconst 3, 1) := by decide +kernel
theorem dX6_goes_10 : decode cX6_goes 10 = .ok (.iaload, 1) := by decide +kernel
theorem dX6_goes_11 : decode cX6_goes 11 = .ok (.if_icmp .ge 40, 3) := by decide +kernel
theorem dX6_goes_14 : decode cX6_goes 14 = .ok (.aload_n 0, 1) := by decide +kernel
theorem dX6_goes_15 : decode cX6_goes 15 = .ok (.iload_n 2, 1) := by decide +kernel
theorem dX6_goes_16 : decode cX6_goes 16 = .ok (.iconst 5, 1) := by decide +kernel
theorem dX6_goes_17 : decode cX6_goes 17 = .ok (.invokevirtual 71, 3) := by decide +kernel
theorem dX6_goes_20 : decode cX6_goes 20 = .ok (.iconst 1, 1) := by decide +kernel
theorem dX6_goes_21 : decode cX6_goes 21 = .ok (.if_icmp .eq 6, 3) := by decide +kernel
theorem dX6_goes_24 : decode cX6_goes 24 = .ok (.goto 21, 3) := by decide +kernel
theorem dX6_goes_27 : decode cX6_goes 27 = .ok (.aload_n 0, 1) := by decide +kernel
theorem dX6_goes_28 : decode cX6_goes 28 = .ok (.iload_n 2, 1) := by decide +kernel
theorem dX6_goes_29 : decode cX6_goes 29 = .ok (.invokevirtual 141, 3) := by decide +kernel
theorem dX6_goes_32 : decode cX6_goes 32 = .ok (.aload_n 0, 1) := by decide +kernel
theorem dX6_goes_33 : decode cX6_goes 33 = .ok (.iload_n 2, 1) := by decide +kernel
theorem dX6_goes_34 : decode cX6_goes 34 = .ok (.iconst 5, 1) := by decide +kernel
theorem dX6_goes_35 : decode cX6_goes 35 = .ok (.invokevirtual 71, 3) := by decide +kernel
theorem dX6_goes_38 : decode cX6_goes 38 = .ok (.iconst 2, 1) := by decide +kernel
theorem dX6_goes_39 : decode cX6_goes 39 = .ok (.if_icmp .ne 6, 3) := by decide +kernel
theorem dX6_goes_42 : decode cX6_goes 42 = .ok (.iinc 1 1, 3) := by decide +kernel
theorem dX6_goes_45 : decode cX6_goes 45 = .ok (.iinc 2 1, 3) := by decide +kernel
theorem dX6_goes_48 : decode cX6_goes 48 = .ok (.goto (-44), 3) := by decide +kernel
theorem dX6_goes_51 : decode cX6_goes 51 = .ok (.aload_n 0, 1) := by decide +kernel
theorem dX6_goes_52 : decode cX6_goes 52 = .ok (.getfield 9, 3) := by decide +kernel
theorem dX6_goes_55 : decode cX6_goes 55 = .ok (.iconst 0, 1) := by decide +kernel
theorem dX6_goes_56 : decode cX6_goes 56 = .ok (.dup2, 1) := by decide +kernel
theorem dX6_goes_57 : decode cX6_goes 57 = .ok (.iaload, 1) := by decide +kernel
theorem dX6_goes_58 : decode cX6_goes 58 = .ok (.iconst 1, 1) := by decide +kernel
theorem dX6_goes_59 : decode cX6_goes 59 = .ok (.iadd, 1) := by decide +kernel
theorem dX6_goes_60 : decode cX6_goes 60 = .ok (.iastore, 1) := by decide +kernel
theorem dX6_goes_61 : decode cX6_goes 61 = .ok (.iload_n 1, 1) := by decide +kernel
theorem dX6_goes_62 : decode cX6_goes 62 = .ok (.ireturn, 1) := by decide +kernel
theorem dX6_passes_0 : decode cX6_passes 0 = .ok (.iload_n 1, 1) := by decide +kernel
theorem dX6_passes_1 : decode cX6_passes 1 = .ok (.iconst 1, 1) := by decide +kernel
theorem dX6_passes_2 : decode cX6_passes 2 = .ok (.bipush 48, 2) := by decide +kernel
theorem dX6_passes_4 : decode cX6_passes 4 = .ok (.invokestatic 58, 3) := by decide +kernel
theorem dX6_passes_7 : decode cX6_passes 7 = .ok (.ifCond .ne 5, 3) := by decide +kernel
theorem dX6_passes_10 : decode cX6_passes 10 = .ok (.iconst (-1), 1) := by decide +kernel
theorem dX6_passes_11 : decode cX6_passes 11 = .ok (.ireturn, 1) := by decide +kernel
theorem dX6_passes_12 : decode cX6_passes 12 = .ok (.iconst 0, 1) := by decide +kernel
theorem dX6_passes_13 : decode cX6_passes 13 = .ok (.istore_n 2, 1) := by decide +kernel
theorem dX6_passes_14 : decode cX6_passes 14 = .ok (.iconst 0, 1) := by decide +kernel
theorem dX6_passes_15 : decode cX6_passes 15 = .ok (.istore_n 3, 1) := by decide +kernel
theorem dX6_passes_16 : decode cX6_passes 16 = .ok (.iload_n 3, 1) := by decide +kernel
theorem dX6_passes_17 : decode cX6_passes 17 = .ok (.iload_n 1, 1) := by decide +kernel
theorem dX6_passes_18 : decode cX6_passes 18 = .ok (.if_icmp .ge 16, 3) := by decide +kernel
theorem dX6_passes_21 : decode cX6_passes 21 = .ok (.iload_n 2, 1) := by decide +kernel
theorem dX6_passes_22 : decode cX6_passes 22 = .ok (.aload_n 0, 1) := by decide +kernel
theorem dX6_passes_23 : decode cX6_passes 23 = .ok (.invokevirtual 145, 3) := by decide +kernel
theorem dX6_passes_26 : decode cX6_passes 26 = .ok (.iadd, 1) := by decide +kernel
theorem dX6_passes_27 : decode cX6_passes 27 = .ok (.istore_n 2, 1) := by decide +kernel
theorem dX6_passes_28 : decode cX6_passes 28 = .ok (.iinc 3 1, 3) := by decide +kernel
theorem dX6_passes_31 : decode cX6_passes 31 = .ok (.goto (-15), 3) := by decide +kernel
theorem dX6_passes_34 : decode cX6_passes 34 = .ok (.aload_n 0, 1) := by decide +kernel
theorem dX6_passes_35 : decode cX6_passes 35 = .ok (.iload_n 2, 1) := by decide +kernel
theorem dX6_passes_36 : decode cX6_passes 36 = .ok (.invokevirtual 86, 3) := by decide +kernel
theorem dX6_passes_39 : decode cX6_passes 39 = .ok (.ireturn, 1) := by decide +kernel
theorem dX6_pass_0 : decode cX6_pass 0 = .ok (.aload_n 0, 1) := by decide +kernel
theorem dX6_pass_1 : decode cX6_pass 1 = .ok (.invokevirtual 83, 3) := by decide +kernel
theorem dX6_pass_4 : decode cX6_pass 4 = .ok (.aload_n 0, 1) := by decide +kernel
theorem dX6_pass_5 : decode cX6_pass 5 = .ok (.aload_n 0, 1) := by decide +kernel
theorem dX6_pass_6 : decode cX6_pass 6 = .ok (.iload_n 1, 1) := by decide +kernel
theorem dX6_pass_7 : decode cX6_pass 7 = .ok (.invokevirtual 149, 3) := by decide +kernel
theorem dX6_pass_10 : decode cX6_pass 10 = .ok (.iconst 1, 1) := by decide +kernel
theorem dX6_pass_11 : decode cX6_pass 11 = .ok (.invokevirtual 93, 3) := by decide +kernel
theorem dX6_pass_14 : decode cX6_pass 14 = .ok (.ireturn, 1) := by decide +kernel
theorem dX6_lettersOf_0 : decode cX6_lettersOf 0 = .ok (.iconst 0, 1) := by decide +kernel
theorem dX6_lettersOf_1 : decode cX6_lettersOf 1 = .ok (.istore_n 2, 1) := by decide +kernel
theorem dX6_lettersOf_2 : decode cX6_lettersOf 2 = .ok (.iconst 0, 1) := by decide +kernel
theorem dX6_lettersOf_3 : decode cX6_lettersOf 3 = .ok (.istore_n 3, 1) := by decide +kernel
theorem dX6_lettersOf_4 : decode cX6_lettersOf 4 = .ok (.iload_n 3, 1) := by decide +kernel
theorem dX6_lettersOf_5 : decode cX6_lettersOf 5 = .ok (.aload_n 0, 1) := by decide +kernel
theorem dX6_lettersOf_6 : decode cX6_lettersOf 6 = .ok (.getfield 9, 3) := by decide +kernel
theorem dX6_lettersOf_9 : decode cX6_lettersOf 9 = .ok (.iconst 4, 1) := by decide +kernel
theorem dX6_lettersOf_10 : decode cX6_lettersOf 10 = .ok (.iaload, 1) := by decide +kernel
theorem dX6_lettersOf_11 : decode cX6_lettersOf 11 = .ok (.if_icmp .ge 45, 3) := by decide +kernel
theorem dX6_lettersOf_14 : decode cX6_lettersOf 14 = .ok (.aload_n 0, 1) := by decide +kernel
theorem dX6_lettersOf_15 : decode cX6_lettersOf 15 = .ok (.getfield 9, 3) := by decide +kernel
theorem dX6_lettersOf_18 : decode cX6_lettersOf 18 = .ok (.bipush 88, 2) := by decide +kernel
theorem dX6_lettersOf_20 : decode cX6_lettersOf 20 = .ok (.iconst 4, 1) := by decide +kernel
theorem dX6_lettersOf_21 : decode cX6_lettersOf 21 = .ok (.iload_n 3, 1) := by decide +kernel
theorem dX6_lettersOf_22 : decode cX6_lettersOf 22 = .ok (.imul, 1) := by decide +kernel
theorem dX6_lettersOf_23 : decode cX6_lettersOf 23 = .ok (.iadd, 1) := by decide +kernel
theorem dX6_lettersOf_24 : decode cX6_lettersOf 24 = .ok (.iconst 2, 1) := by decide +kernel
theorem dX6_lettersOf_25 : decode cX6_lettersOf 25 = .ok (.iadd, 1) := by decide +kernel
theorem dX6_lettersOf_26 : decode cX6_lettersOf 26 = .ok (.iaload, 1) := by decide +kernel
theorem dX6_lettersOf_27 : decode cX6_lettersOf 27 = .ok (.ifCond .le 23, 3) := by decide +kernel
theorem dX6_lettersOf_30 : decode cX6_lettersOf 30 = .ok (.aload_n 0, 1) := by decide +kernel
theorem dX6_lettersOf_31 : decode cX6_lettersOf 31 = .ok (.getfield 9, 3) := by decide +kernel
theorem dX6_lettersOf_34 : decode cX6_lettersOf 34 = .ok (.bipush 88, 2) := by decide +kernel
theorem dX6_lettersOf_36 : decode cX6_lettersOf 36 = .ok (.iconst 4, 1) := by decide +kernel
theorem dX6_lettersOf_37 : decode cX6_lettersOf 37 = .ok (.iload_n 3, 1) := by decide +kernel
theorem dX6_lettersOf_38 : decode cX6_lettersOf 38 = .ok (.imul, 1) := by decide +kernel
theorem dX6_lettersOf_39 : decode cX6_lettersOf 39 = .ok (.iadd, 1) := by decide +kernel
theorem dX6_lettersOf_40 : decode cX6_lettersOf 40 = .ok (.iconst 3, 1) := by decide +kernel
theorem dX6_lettersOf_41 : decode cX6_lettersOf 41 = .ok (.iadd, 1) := by decide +kernel
theorem dX6_lettersOf_42 : decode cX6_lettersOf 42 = .ok (.iaload, 1) := by decide +kernel
theorem dX6_lettersOf_43 : decode cX6_lettersOf 43 = .ok (.iload_n 1, 1) := by decide +kernel
theorem dX6_lettersOf_44 : decode cX6_lettersOf 44 = .ok (.if_icmp .ne 6, 3) := by decide +kernel
theorem dX6_lettersOf_47 : decode cX6_lettersOf 47 = .ok (.iinc 2 1, 3) := by decide +kernel
theorem dX6_lettersOf_50 : decode cX6_lettersOf 50 = .ok (.iinc 3 1, 3) := by decide +kernel
theorem dX6_lettersOf_53 : decode cX6_lettersOf 53 = .ok (.goto (-49), 3) := by decide +kernel
theorem dX6_lettersOf_56 : decode cX6_lettersOf 56 = .ok (.iload_n 2, 1) := by decide +kernel
theorem dX6_lettersOf_57 : decode cX6_lettersOf 57 = .ok (.ireturn, 1) := by decide +kernel
theorem dX6_balloonOf_0 : decode cX6_balloonOf 0 = .ok (.aload_n 0, 1) := by decide +kernel
theorem dX6_balloonOf_1 : decode cX6_balloonOf 1 = .ok (.iconst 0, 1) := by decide +kernel
theorem dX6_balloonOf_2 : decode cX6_balloonOf 2 = .ok (.putfield 36, 3) := by decide +kernel
theorem dX6_balloonOf_5 : decode cX6_balloonOf 5 = .ok (.aload_n 0, 1) := by decide +kernel
theorem dX6_balloonOf_6 : decode cX6_balloonOf 6 = .ok (.iload_n 1, 1) := by decide +kernel
theorem dX6_balloonOf_7 : decode cX6_balloonOf 7 = .ok (.invokevirtual 106, 3) := by decide +kernel
theorem dX6_balloonOf_10 : decode cX6_balloonOf 10 = .ok (.ifCond .ne 9, 3) := by decide +kernel
theorem dX6_balloonOf_13 : decode cX6_balloonOf 13 = .ok (.aload_n 0, 1) := by decide +kernel
theorem dX6_balloonOf_14 : decode cX6_balloonOf 14 = .ok (.iconst 1, 1) := by decide +kernel
theorem dX6_balloonOf_15 : decode cX6_balloonOf 15 = .ok (.invokevirtual 55, 3) := by decide +kernel
theorem dX6_balloonOf_18 : decode cX6_balloonOf 18 = .ok (.ireturn, 1) := by decide +kernel
theorem dX6_balloonOf_19 : decode cX6_balloonOf 19 = .ok (.iload_n 2, 1) := by decide +kernel
theorem dX6_balloonOf_20 : decode cX6_balloonOf 20 = .ok (.tableswitch 149 0 11 #[64, 71, 78, 85, 92, 98, 104, 110, 117, 125, 133, 141], 64) := by decide +kernel
theorem dX6_balloonOf_84 : decode cX6_balloonOf 84 = .ok (.aload_n 0, 1) := by decide +kernel
theorem dX6_balloonOf_85 : decode cX6_balloonOf 85 = .ok (.iload_n 1, 1) := by decide +kernel
theorem dX6_balloonOf_86 : decode cX6_balloonOf 86 = .ok (.iconst 0, 1) := by decide +kernel
theorem dX6_balloonOf_87 : decode cX6_balloonOf 87 = .ok (.invokevirtual 71, 3) := by decide +kernel
theorem dX6_balloonOf_90 : decode cX6_balloonOf 90 = .ok (.ireturn, 1) := by decide +kernel
theorem dX6_balloonOf_91 : decode cX6_balloonOf 91 = .ok (.aload_n 0, 1) := by decide +kernel
theorem dX6_balloonOf_92 : decode cX6_balloonOf 92 = .ok (.iload_n 1, 1) := by decide +kernel
theorem dX6_balloonOf_93 : decode cX6_balloonOf 93 = .ok (.iconst 1, 1) := by decide +kernel
theorem dX6_balloonOf_94 : decode cX6_balloonOf 94 = .ok (.invokevirtual 71, 3) := by decide +kernel
theorem dX6_balloonOf_97 : decode cX6_balloonOf 97 = .ok (.ireturn, 1) := by decide +kernel
theorem dX6_balloonOf_98 : decode cX6_balloonOf 98 = .ok (.aload_n 0, 1) := by decide +kernel
theorem dX6_balloonOf_99 : decode cX6_balloonOf 99 = .ok (.iload_n 1, 1) := by decide +kernel
theorem dX6_balloonOf_100 : decode cX6_balloonOf 100 = .ok (.iconst 2, 1) := by decide +kernel
theorem dX6_balloonOf_101 : decode cX6_balloonOf 101 = .ok (.invokevirtual 71, 3) := by decide +kernel
theorem dX6_balloonOf_104 : decode cX6_balloonOf 104 = .ok (.ireturn, 1) := by decide +kernel
theorem dX6_balloonOf_105 : decode cX6_balloonOf 105 = .ok (.aload_n 0, 1) := by decide +kernel
theorem dX6_balloonOf_106 : decode cX6_balloonOf 106 = .ok (.iload_n 1, 1) := by decide +kernel
theorem dX6_balloonOf_107 : decode cX6_balloonOf 107 = .ok (.iconst 3, 1) := by decide +kernel
theorem dX6_balloonOf_108 : decode cX6_balloonOf 108 = .ok (.invokevirtual 71, 3) := by decide +kernel
theorem dX6_balloonOf_111 : decode cX6_balloonOf 111 = .ok (.ireturn, 1) := by decide +kernel
theorem dX6_balloonOf_112 : decode cX6_balloonOf 112 = .ok (.aload_n 0, 1) := by decide +kernel
theorem dX6_balloonOf_113 : decode cX6_balloonOf 113 = .ok (.iload_n 1, 1) := by decide +kernel
theorem dX6_balloonOf_114 : decode cX6_balloonOf 114 = .ok (.invokevirtual 152, 3) := by decide +kernel
theorem dX6_balloonOf_117 : decode cX6_balloonOf 117 = .ok (.ireturn, 1) := by decide +kernel
theorem dX6_balloonOf_118 : decode cX6_balloonOf 118 = .ok (.aload_n 0, 1) := by decide +kernel
theorem dX6_balloonOf_119 : decode cX6_balloonOf 119 = .ok (.iload_n 1, 1) := by decide +kernel
theorem dX6_balloonOf_120 : decode cX6_balloonOf 120 = .ok (.invokevirtual 80, 3) := by decide +kernel
theorem dX6_balloonOf_123 : decode cX6_balloonOf 123 = .ok (.ireturn, 1) := by decide +kernel
theorem dX6_balloonOf_124 : decode cX6_balloonOf 124 = .ok (.aload_n 0, 1) := by decide +kernel
theorem dX6_balloonOf_125 : decode cX6_balloonOf 125 = .ok (.iload_n 1, 1) := by decide +kernel
theorem dX6_balloonOf_126 : decode cX6_balloonOf 126 = .ok (.invokevirtual 125, 3) := by decide +kernel
theorem dX6_balloonOf_129 : decode cX6_balloonOf 129 = .ok (.ireturn, 1) := by decide +kernel
theorem dX6_balloonOf_130 : decode cX6_balloonOf 130 = .ok (.aload_n 0, 1) := by decide +kernel
theorem dX6_balloonOf_131 : decode cX6_balloonOf 131 = .ok (.iload_n 1, 1) := by decide +kernel
theorem dX6_balloonOf_132 : decode cX6_balloonOf 132 = .ok (.iconst 5, 1) := by decide +kernel
theorem dX6_balloonOf_133 : decode cX6_balloonOf 133 = .ok (.invokevirtual 71, 3) := by decide +kernel
theorem dX6_balloonOf_136 : decode cX6_balloonOf 136 = .ok (.ireturn, 1) := by decide +kernel
theorem dX6_balloonOf_137 : decode cX6_balloonOf 137 = .ok (.aload_n 0, 1) := by decide +kernel
theorem dX6_balloonOf_138 : decode cX6_balloonOf 138 = .ok (.iload_n 1, 1) := by decide +kernel
theorem dX6_balloonOf_139 : decode cX6_balloonOf 139 = .ok (.bipush 10, 2) := by decide +kernel
theorem dX6_balloonOf_141 : decode cX6_balloonOf 141 = .ok (.invokevirtual 71, 3) := by decide +kernel
theorem dX6_balloonOf_144 : decode cX6_balloonOf 144 = .ok (.ireturn, 1) := by decide +kernel
theorem dX6_balloonOf_145 : decode cX6_balloonOf 145 = .ok (.aload_n 0, 1) := by decide +kernel
theorem dX6_balloonOf_146 : decode cX6_balloonOf 146 = .ok (.iload_n 1, 1) := by decide +kernel
theorem dX6_balloonOf_147 : decode cX6_balloonOf 147 = .ok (.bipush 6, 2) := by decide +kernel
theorem dX6_balloonOf_149 : decode cX6_balloonOf 149 = .ok (.invokevirtual 71, 3) := by decide +kernel
theorem dX6_balloonOf_152 : decode cX6_balloonOf 152 = .ok (.ireturn, 1) := by decide +kernel
theorem dX6_balloonOf_153 : decode cX6_balloonOf 153 = .ok (.aload_n 0, 1) := by decide +kernel
theorem dX6_balloonOf_154 : decode cX6_balloonOf 154 = .ok (.iload_n 1, 1) := by decide +kernel
theorem dX6_balloonOf_155 : decode cX6_balloonOf 155 = .ok (.bipush 7, 2) := by decide +kernel
theorem dX6_balloonOf_157 : decode cX6_balloonOf 157 = .ok (.invokevirtual 71, 3) := by decide +kernel
theorem dX6_balloonOf_160 : decode cX6_balloonOf 160 = .ok (.ireturn, 1) := by decide +kernel
theorem dX6_balloonOf_161 : decode cX6_balloonOf 161 = .ok (.aload_n 0, 1) := by decide +kernel
theorem dX6_balloonOf_162 : decode cX6_balloonOf 162 = .ok (.iload_n 1, 1) := by decide +kernel
theorem dX6_balloonOf_163 : decode cX6_balloonOf 163 = .ok (.bipush 8, 2) := by decide +kernel
theorem dX6_balloonOf_165 : decode cX6_balloonOf 165 = .ok (.invokevirtual 71, 3) := by decide +kernel
theorem dX6_balloonOf_168 : decode cX6_balloonOf 168 = .ok (.ireturn, 1) := by decide +kernel
theorem dX6_balloonOf_169 : decode cX6_balloonOf 169 = .ok (.aload_n 0, 1) := by decide +kernel
theorem dX6_balloonOf_170 : decode cX6_balloonOf 170 = .ok (.iconst 2, 1) := by decide +kernel
theorem dX6_balloonOf_171 : decode cX6_balloonOf 171 = .ok (.invokevirtual 55, 3) := by decide +kernel
theorem dX6_balloonOf_174 : decode cX6_balloonOf 174 = .ok (.ireturn, 1) := by decide +kernel
theorem dX6_letterOf_0 : decode cX6_letterOf 0 = .ok (.aload_n 0, 1) := by decide +kernel
theorem dX6_letterOf_1 : decode cX6_letterOf 1 = .ok (.iconst 0, 1) := by decide +kernel
theorem dX6_letterOf_2 : decode cX6_letterOf 2 = .ok (.putfield 36, 3) := by decide +kernel
theorem dX6_letterOf_5 : decode cX6_letterOf 5 = .ok (.aload_n 0, 1) := by decide +kernel
theorem dX6_letterOf_6 : decode cX6_letterOf 6 = .ok (.iload_n 1, 1) := by decide +kernel
theorem dX6_letterOf_7 : decode cX6_letterOf 7 = .ok (.invokevirtual 116, 3) := by decide +kernel
theorem dX6_letterOf_10 : decode cX6_letterOf 10 = .ok (.ifCond .ne 9, 3) := by decide +kernel
theorem dX6_letterOf_13 : decode cX6_letterOf 13 = .ok (.aload_n 0, 1) := by decide +kernel
theorem dX6_letterOf_14 : decode cX6_letterOf 14 = .ok (.iconst 1, 1) := by decide +kernel
theorem dX6_letterOf_15 : decode cX6_letterOf 15 = .ok (.invokevirtual 55, 3) := by decide +kernel
theorem dX6_letterOf_18 : decode cX6_letterOf 18 = .ok (.ireturn, 1) := by decide +kernel
theorem dX6_letterOf_19 : decode cX6_letterOf 19 = .ok (.iload_n 2, 1) := by decide +kernel
theorem dX6_letterOf_20 : decode cX6_letterOf 20 = .ok (.iconst 0, 1) := by decide +kernel
theorem dX6_letterOf_21 : decode cX6_letterOf 21 = .ok (.iconst 3, 1) := by decide +kernel
theorem dX6_letterOf_22 : decode cX6_letterOf 22 = .ok (.invokestatic 58, 3) := by decide +kernel
theorem dX6_letterOf_25 : decode cX6_letterOf 25 = .ok (.ifCond .eq 19, 3) := by decide +kernel
theorem dX6_letterOf_28 : decode cX6_letterOf 28 = .ok (.aload_n 0, 1) := by decide +kernel
theorem dX6_letterOf_29 : decode cX6_letterOf 29 = .ok (.getfield 9, 3) := by decide +kernel
theorem dX6_letterOf_32 : decode cX6_letterOf 32 = .ok (.bipush 88, 2) := by decide +kernel
theorem dX6_letterOf_34 : decode cX6_letterOf 34 = .ok (.iconst 4, 1) := by decide +kernel
theorem dX6_letterOf_35 : decode cX6_letterOf 35 = .ok (.iload_n 1, 1) := by decide +kernel
theorem dX6_letterOf_36 : decode cX6_letterOf 36 = .ok (.imul, 1) := by decide +kernel
theorem dX6_letterOf_37 : decode cX6_letterOf 37 = .ok (.iadd, 1) := by decide +kernel
theorem dX6_letterOf_38 : decode cX6_letterOf 38 = .ok (.iload_n 2, 1) := by decide +kernel
theorem dX6_letterOf_39 : decode cX6_letterOf 39 = .ok (.iadd, 1) := by decide +kernel
theorem dX6_letterOf_40 : decode cX6_letterOf 40 = .ok (.iaload, 1) := by decide +kernel
theorem dX6_letterOf_41 : decode cX6_letterOf 41 = .ok (.goto 8, 3) := by decide +kernel
theorem dX6_letterOf_44 : decode cX6_letterOf 44 = .ok (.aload_n 0, 1) := by decide +kernel
theorem dX6_letterOf_45 : decode cX6_letterOf 45 = .ok (.iconst 2, 1) := by decide +kernel
theorem dX6_letterOf_46 : decode cX6_letterOf 46 = .ok (.invokevirtual 55, 3) := by decide +kernel
theorem dX6_letterOf_49 : decode cX6_letterOf 49 = .ok (.ireturn, 1) := by decide +kernel
theorem dX6_weightAgain_0 : decode cX6_weightAgain 0 = .ok (.aload_n 0, 1) := by decide +kernel
theorem dX6_weightAgain_1 : decode cX6_weightAgain 1 = .ok (.iconst 0, 1) := by decide +kernel
theorem dX6_weightAgain_2 : decode cX6_weightAgain 2 = .ok (.putfield 36, 3) := by decide +kernel
theorem dX6_weightAgain_5 : decode cX6_weightAgain 5 = .ok (.aload_n 0, 1) := by decide +kernel
theorem dX6_weightAgain_6 : decode cX6_weightAgain 6 = .ok (.iload_n 1, 1) := by decide +kernel
theorem dX6_weightAgain_7 : decode cX6_weightAgain 7 = .ok (.invokevirtual 106, 3) := by decide +kernel
theorem dX6_weightAgain_10 : decode cX6_weightAgain 10 = .ok (.ifCond .eq 11, 3) := by decide +kernel
theorem dX6_weightAgain_13 : decode cX6_weightAgain 13 = .ok (.aload_n 0, 1) := by decide +kernel
theorem dX6_weightAgain_14 : decode cX6_weightAgain 14 = .ok (.iload_n 1, 1) := by decide +kernel
theorem dX6_weightAgain_15 : decode cX6_weightAgain 15 = .ok (.invokevirtual 80, 3) := by decide +kernel
theorem dX6_weightAgain_18 : decode cX6_weightAgain 18 = .ok (.goto 8, 3) := by decide +kernel
theorem dX6_weightAgain_21 : decode cX6_weightAgain 21 = .ok (.aload_n 0, 1) := by decide +kernel
theorem dX6_weightAgain_22 : decode cX6_weightAgain 22 = .ok (.iconst 1, 1) := by decide +kernel
theorem dX6_weightAgain_23 : decode cX6_weightAgain 23 = .ok (.invokevirtual 55, 3) := by decide +kernel
theorem dX6_weightAgain_26 : decode cX6_weightAgain 26 = .ok (.ireturn, 1) := by decide +kernel
theorem dX6_waiting_0 : decode cX6_waiting 0 = .ok (.aload_n 0, 1) := by decide +kernel
theorem dX6_waiting_1 : decode cX6_waiting 1 = .ok (.iconst 0, 1) := by decide +kernel
theorem dX6_waiting_2 : decode cX6_waiting 2 = .ok (.putfield 36, 3) := by decide +kernel
theorem dX6_waiting_5 : decode cX6_waiting 5 = .ok (.iload_n 1, 1) := by decide +kernel
theorem dX6_waiting_6 : decode cX6_waiting 6 = .ok (.ifCond .ge 7, 3) := by decide +kernel
theorem dX6_waiting_9 : decode cX6_waiting 9 = .ok (.iconst (-1), 1) := by decide +kernel
theorem dX6_waiting_10 : decode cX6_waiting 10 = .ok (.goto 8, 3) := by decide +kernel
theorem dX6_waiting_13 : decode cX6_waiting 13 = .ok (.aload_n 0, 1) := by decide +kernel
theorem dX6_waiting_14 : decode cX6_waiting 14 = .ok (.iload_n 1, 1) := by decide +kernel
theorem dX6_waiting_15 : decode cX6_waiting 15 = .ok (.invokevirtual 122, 3) := by decide +kernel
theorem dX6_waiting_18 : decode cX6_waiting 18 = .ok (.istore_n 2, 1) := by decide +kernel
theorem dX6_waiting_19 : decode cX6_waiting 19 = .ok (.iload_n 2, 1) := by decide +kernel
theorem dX6_waiting_20 : decode cX6_waiting 20 = .ok (.ifCond .ge 11, 3) := by decide +kernel
theorem dX6_waiting_23 : decode cX6_waiting 23 = .ok (.aload_n 0, 1) := by decide +kernel
theorem dX6_waiting_24 : decode cX6_waiting 24 = .ok (.iconst 1, 1) := by decide +kernel
theorem dX6_waiting_25 : decode cX6_waiting 25 = .ok (.invokevirtual 55, 3) := by decide +kernel
theorem dX6_waiting_28 : decode cX6_waiting 28 = .ok (.goto 4, 3) := by decide +kernel
theorem dX6_waiting_31 : decode cX6_waiting 31 = .ok (.iload_n 2, 1) := by decide +kernel
theorem dX6_waiting_32 : decode cX6_waiting 32 = .ok (.ireturn, 1) := by decide +kernel
theorem dX6_wordOf_0 : decode cX6_wordOf 0 = .ok (.aload_n 0, 1) := by decide +kernel
theorem dX6_wordOf_1 : decode cX6_wordOf 1 = .ok (.iload_n 1, 1) := by decide +kernel
theorem dX6_wordOf_2 : decode cX6_wordOf 2 = .ok (.bipush 9, 2) := by decide +kernel
theorem dX6_wordOf_4 : decode cX6_wordOf 4 = .ok (.invokevirtual 71, 3) := by decide +kernel
theorem dX6_wordOf_7 : decode cX6_wordOf 7 = .ok (.aload_n 0, 1) := by decide +kernel
theorem dX6_wordOf_8 : decode cX6_wordOf 8 = .ok (.iload_n 1, 1) := by decide +kernel
theorem dX6_wordOf_9 : decode cX6_wordOf 9 = .ok (.invokevirtual 134, 3) := by decide +kernel
theorem dX6_wordOf_12 : decode cX6_wordOf 12 = .ok (.iconst 4, 1) := by decide +kernel
theorem dX6_wordOf_13 : decode cX6_wordOf 13 = .ok (.iadd, 1) := by decide +kernel
theorem dX6_wordOf_14 : decode cX6_wordOf 14 = .ok (.iconst 5, 1) := by decide +kernel
theorem dX6_wordOf_15 : decode cX6_wordOf 15 = .ok (.idiv, 1) := by decide +kernel
theorem dX6_wordOf_16 : decode cX6_wordOf 16 = .ok (.iadd, 1) := by decide +kernel
theorem dX6_wordOf_17 : decode cX6_wordOf 17 = .ok (.ireturn, 1) := by decide +kernel
theorem dX6_hasWord_0 : decode cX6_hasWord 0 = .ok (.aload_n 0, 1) := by decide +kernel
theorem dX6_hasWord_1 : decode cX6_hasWord 1 = .ok (.iload_n 1, 1) := by decide +kernel
theorem dX6_hasWord_2 : decode cX6_hasWord 2 = .ok (.iconst 5, 1) := by decide +kernel
theorem dX6_hasWord_3 : decode cX6_hasWord 3 = .ok (.invokevirtual 71, 3) := by decide +kernel
theorem dX6_hasWord_6 : decode cX6_hasWord 6 = .ok (.iconst 2, 1) := by decide +kernel
theorem dX6_hasWord_7 : decode cX6_hasWord 7 = .ok (.if_icmp .ne 16, 3) := by decide +kernel
theorem dX6_hasWord_10 : decode cX6_hasWord 10 = .ok (.aload_n 0, 1) := by decide +kernel
theorem dX6_hasWord_11 : decode cX6_hasWord 11 = .ok (.iload_n 1, 1) := by decide +kernel
theorem dX6_hasWord_12 : decode cX6_hasWord 12 = .ok (.iconst 3, 1) := by decide +kernel
theorem dX6_hasWord_13 : decode cX6_hasWord 13 = .ok (.invokevirtual 71, 3) := by decide +kernel
theorem dX6_hasWord_16 : decode cX6_hasWord 16 = .ok (.ifCond .le 7, 3) := by decide +kernel
theorem dX6_hasWord_19 : decode cX6_hasWord 19 = .ok (.iconst 1, 1) := by decide +kernel
theorem dX6_hasWord_20 : decode cX6_hasWord 20 = .ok (.goto 4, 3) := by decide +kernel
theorem dX6_hasWord_23 : decode cX6_hasWord 23 = .ok (.iconst 0, 1) := by decide +kernel
theorem dX6_hasWord_24 : decode cX6_hasWord 24 = .ok (.ireturn, 1) := by decide +kernel
theorem dX6_word_0 : decode cX6_word 0 = .ok (.aload_n 0, 1) := by decide +kernel
theorem dX6_word_1 : decode cX6_word 1 = .ok (.iconst 0, 1) := by decide +kernel
theorem dX6_word_2 : decode cX6_word 2 = .ok (.putfield 36, 3) := by decide +kernel
theorem dX6_word_5 : decode cX6_word 5 = .ok (.aload_n 0, 1) := by decide +kernel
theorem dX6_word_6 : decode cX6_word 6 = .ok (.iload_n 1, 1) := by decide +kernel
theorem dX6_word_7 : decode cX6_word 7 = .ok (.invokevirtual 106, 3) := by decide +kernel
theorem dX6_word_10 : decode cX6_word 10 = .ok (.ifCond .ne 9, 3) := by decide +kernel
theorem dX6_word_13 : decode cX6_word 13 = .ok (.aload_n 0, 1) := by decide +kernel
theorem dX6_word_14 : decode cX6_word 14 = .ok (.iconst 1, 1) := by decide +kernel
theorem dX6_word_15 : decode cX6_word 15 = .ok (.invokevirtual 55, 3) := by decide +kernel
theorem dX6_word_18 : decode cX6_word 18 = .ok (.ireturn, 1) := by decide +kernel
theorem dX6_word_19 : decode cX6_word 19 = .ok (.aload_n 0, 1) := by decide +kernel
theorem dX6_word_20 : decode cX6_word 20 = .ok (.iload_n 1, 1) := by decide +kernel
theorem dX6_word_21 : decode cX6_word 21 = .ok (.invokevirtual 155, 3) := by decide +kernel
theorem dX6_word_24 : decode cX6_word 24 = .ok (.ifCond .eq 11, 3) := by decide +kernel
theorem dX6_word_27 : decode cX6_word 27 = .ok (.aload_n 0, 1) := by decide +kernel
theorem dX6_word_28 : decode cX6_word 28 = .ok (.iload_n 1, 1) := by decide +kernel
theorem dX6_word_29 : decode cX6_word 29 = .ok (.invokevirtual 158, 3) := by decide +kernel
theorem dX6_word_32 : decode cX6_word 32 = .ok (.goto 8, 3) := by decide +kernel
theorem dX6_word_35 : decode cX6_word 35 = .ok (.aload_n 0, 1) := by decide +kernel
theorem dX6_word_36 : decode cX6_word 36 = .ok (.iconst 2, 1) := by decide +kernel
theorem dX6_word_37 : decode cX6_word 37 = .ok (.invokevirtual 55, 3) := by decide +kernel
theorem dX6_word_40 : decode cX6_word 40 = .ok (.ireturn, 1) := by decide +kernel
theorem dX6_sign_0 : decode cX6_sign 0 = .ok (.aload_n 0, 1) := by decide +kernel
theorem dX6_sign_1 : decode cX6_sign 1 = .ok (.iconst 0, 1) := by decide +kernel
theorem dX6_sign_2 : decode cX6_sign 2 = .ok (.putfield 36, 3) := by decide +kernel
theorem dX6_sign_5 : decode cX6_sign 5 = .ok (.aload_n 0, 1) := by decide +kernel
theorem dX6_sign_6 : decode cX6_sign 6 = .ok (.iload_n 1, 1) := by decide +kernel
theorem dX6_sign_7 : decode cX6_sign 7 = .ok (.invokevirtual 106, 3) := by decide +kernel
theorem dX6_sign_10 : decode cX6_sign 10 = .ok (.ifCond .eq 17, 3) := by decide +kernel
theorem dX6_sign_13 : decode cX6_sign 13 = .ok (.ldc 161, 2) := by decide +kernel
theorem dX6_sign_15 : decode cX6_sign 15 = .ok (.aload_n 0, 1) := by decide +kernel
theorem dX6_sign_16 : decode cX6_sign 16 = .ok (.iload_n 1, 1) := by decide +kernel
theorem dX6_sign_17 : decode cX6_sign 17 = .ok (.iconst 5, 1) := by decide +kernel
theorem dX6_sign_18 : decode cX6_sign 18 = .ok (.invokevirtual 71, 3) := by decide +kernel
theorem dX6_sign_21 : decode cX6_sign 21 = .ok (.invokevirtual 163, 3) := by decide +kernel
theorem dX6_sign_24 : decode cX6_sign 24 = .ok (.goto 9, 3) := by decide +kernel
theorem dX6_sign_27 : decode cX6_sign 27 = .ok (.aload_n 0, 1) := by decide +kernel
theorem dX6_sign_28 : decode cX6_sign 28 = .ok (.iconst 1, 1) := by decide +kernel
theorem dX6_sign_29 : decode cX6_sign 29 = .ok (.invokevirtual 55, 3) := by decide +kernel
theorem dX6_sign_32 : decode cX6_sign 32 = .ok (.i2c, 1) := by decide +kernel
theorem dX6_sign_33 : decode cX6_sign 33 = .ok (.ireturn, 1) := by decide +kernel
theorem dX6_isWithin_0 : decode cX6_isWithin 0 = .ok (.aload_n 0, 1) := by decide +kernel
theorem dX6_isWithin_1 : decode cX6_isWithin 1 = .ok (.iconst 0, 1) := by decide +kernel
theorem dX6_isWithin_2 : decode cX6_isWithin 2 = .ok (.putfield 36, 3) := by decide +kernel
theorem dX6_isWithin_5 : decode cX6_isWithin 5 = .ok (.iload_n 1, 1) := by decide +kernel
theorem dX6_isWithin_6 : decode cX6_isWithin 6 = .ok (.iconst 0, 1) := by decide +kernel
theorem dX6_isWithin_7 : decode cX6_isWithin 7 = .ok (.bipush 39, 2) := by decide +kernel
theorem dX6_isWithin_9 : decode cX6_isWithin 9 = .ok (.invokestatic 58, 3) := by decide +kernel
theorem dX6_isWithin_12 : decode cX6_isWithin 12 = .ok (.ifCond .eq 13, 3) := by decide +kernel
theorem dX6_isWithin_15 : decode cX6_isWithin 15 = .ok (.iload_n 2, 1) := by decide +kernel
theorem dX6_isWithin_16 : decode cX6_isWithin 16 = .ok (.iconst 0, 1) := by decide +kernel
theorem dX6_isWithin_17 : decode cX6_isWithin 17 = .ok (.bipush 39, 2) := by decide +kernel
theorem dX6_isWithin_19 : decode cX6_isWithin 19 = .ok (.invokestatic 58, 3) := by decide +kernel
theorem dX6_isWithin_22 : decode cX6_isWithin 22 = .ok (.ifCond .ne 17, 3) := by decide +kernel
theorem dX6_isWithin_25 : decode cX6_isWithin 25 = .ok (.aload_n 0, 1) := by decide +kernel
theorem dX6_isWithin_26 : decode cX6_isWithin 26 = .ok (.iconst 1, 1) := by decide +kernel
theorem dX6_isWithin_27 : decode cX6_isWithin 27 = .ok (.invokevirtual 55, 3) := by decide +kernel
theorem dX6_isWithin_30 : decode cX6_isWithin 30 = .ok (.ifCond .le 7, 3) := by decide +kernel
theorem dX6_isWithin_33 : decode cX6_isWithin 33 = .ok (.iconst 1, 1) := by decide +kernel
theorem dX6_isWithin_34 : decode cX6_isWithin 34 = .ok (.goto 4, 3) := by decide +kernel
theorem dX6_isWithin_37 : decode cX6_isWithin 37 = .ok (.iconst 0, 1) := by decide +kernel
theorem dX6_isWithin_38 : decode cX6_isWithin 38 = .ok (.ireturn, 1) := by decide +kernel
theorem dX6_isWithin_39 : decode cX6_isWithin 39 = .ok (.iload_n 1, 1) := by decide +kernel
theorem dX6_isWithin_40 : decode cX6_isWithin 40 = .ok (.iload_n 2, 1) := by decide +kernel
theorem dX6_isWithin_41 : decode cX6_isWithin 41 = .ok (.invokestatic 74, 3) := by decide +kernel
theorem dX6_isWithin_44 : decode cX6_isWithin 44 = .ok (.aload_n 0, 1) := by decide +kernel
theorem dX6_isWithin_45 : decode cX6_isWithin 45 = .ok (.getfield 9, 3) := by decide +kernel
theorem dX6_isWithin_48 : decode cX6_isWithin 48 = .ok (.iconst 1, 1) := by decide +kernel
theorem dX6_isWithin_49 : decode cX6_isWithin 49 = .ok (.iaload, 1) := by decide +kernel
theorem dX6_isWithin_50 : decode cX6_isWithin 50 = .ok (.if_icmp .gt 7, 3) := by decide +kernel
theorem dX6_isWithin_53 : decode cX6_isWithin 53 = .ok (.iconst 1, 1) := by decide +kernel
theorem dX6_isWithin_54 : decode cX6_isWithin 54 = .ok (.goto 4, 3) := by decide +kernel
theorem dX6_isWithin_57 : decode cX6_isWithin 57 = .ok (.iconst 0, 1) := by decide +kernel
theorem dX6_isWithin_58 : decode cX6_isWithin 58 = .ok (.ireturn, 1) := by decide +kernel
theorem dX6_fliesOut_0 : decode cX6_fliesOut 0 = .ok (.iconst 0, 1) := by decide +kernel
theorem dX6_fliesOut_1 : decode cX6_fliesOut 1 = .ok (.istore_n 2, 1) := by decide +kernel
theorem dX6_fliesOut_2 : decode cX6_fliesOut 2 = .ok (.aload_n 0, 1) := by decide +kernel
theorem dX6_fliesOut_3 : decode cX6_fliesOut 3 = .ok (.iload_n 1, 1) := by decide +kernel
theorem dX6_fliesOut_4 : decode cX6_fliesOut 4 = .ok (.iconst 5, 1) := by decide +kernel
theorem dX6_fliesOut_5 : decode cX6_fliesOut 5 = .ok (.invokevirtual 71, 3) := by decide +kernel
theorem dX6_fliesOut_8 : decode cX6_fliesOut 8 = .ok (.iconst 1, 1) := by decide +kernel
theorem dX6_fliesOut_9 : decode cX6_fliesOut 9 = .ok (.if_icmp .ne 14, 3) := by decide +kernel
theorem dX6_fliesOut_12 : decode cX6_fliesOut 12 = .ok (.aload_n 0, 1) := by decide +kernel
theorem dX6_fliesOut_13 : decode cX6_fliesOut 13 = .ok (.iload_n 1, 1) := by decide +kernel
theorem dX6_fliesOut_14 : decode cX6_fliesOut 14 = .ok (.invokevirtual 141, 3) := by decide +kernel
theorem dX6_fliesOut_17 : decode cX6_fliesOut 17 = .ok (.iinc 2 1, 3) := by decide +kernel
theorem dX6_fliesOut_20 : decode cX6_fliesOut 20 = .ok (.goto (-18), 3) := by decide +kernel
theorem dX6_fliesOut_23 : decode cX6_fliesOut 23 = .ok (.iload_n 2, 1) := by decide +kernel
theorem dX6_fliesOut_24 : decode cX6_fliesOut 24 = .ok (.ireturn, 1) := by decide +kernel
theorem dX6_endsIn_0 : decode cX6_endsIn 0 = .ok (.aload_n 0, 1) := by decide +kernel
theorem dX6_endsIn_1 : decode cX6_endsIn 1 = .ok (.iconst 0, 1) := by decide +kernel
theorem dX6_endsIn_2 : decode cX6_endsIn 2 = .ok (.putfield 36, 3) := by decide +kernel
theorem dX6_endsIn_5 : decode cX6_endsIn 5 = .ok (.aload_n 0, 1) := by decide +kernel
theorem dX6_endsIn_6 : decode cX6_endsIn 6 = .ok (.iload_n 1, 1) := by decide +kernel
theorem dX6_endsIn_7 : decode cX6_endsIn 7 = .ok (.invokevirtual 106, 3) := by decide +kernel
theorem dX6_endsIn_10 : decode cX6_endsIn 10 = .ok (.ifCond .ne 9, 3) := by decide +kernel
theorem dX6_endsIn_13 : decode cX6_endsIn 13 = .ok (.aload_n 0, 1) := by decide +kernel
theorem dX6_endsIn_14 : decode cX6_endsIn 14 = .ok (.iconst 1, 1) := by decide +kernel
theorem dX6_endsIn_15 : decode cX6_endsIn 15 = .ok (.invokevirtual 55, 3) := by decide +kernel
theorem dX6_endsIn_18 : decode cX6_endsIn 18 = .ok (.ireturn, 1) := by decide +kernel
theorem dX6_endsIn_19 : decode cX6_endsIn 19 = .ok (.aload_n 0, 1) := by decide +kernel
theorem dX6_endsIn_20 : decode cX6_endsIn 20 = .ok (.iload_n 1, 1) := by decide +kernel
theorem dX6_endsIn_21 : decode cX6_endsIn 21 = .ok (.iconst 5, 1) := by decide +kernel
theorem dX6_endsIn_22 : decode cX6_endsIn 22 = .ok (.invokevirtual 71, 3) := by decide +kernel
theorem dX6_endsIn_25 : decode cX6_endsIn 25 = .ok (.iconst 1, 1) := by decide +kernel
theorem dX6_endsIn_26 : decode cX6_endsIn 26 = .ok (.if_icmp .eq 9, 3) := by decide +kernel
theorem dX6_endsIn_29 : decode cX6_endsIn 29 = .ok (.aload_n 0, 1) := by decide +kernel
theorem dX6_endsIn_30 : decode cX6_endsIn 30 = .ok (.iconst 2, 1) := by decide +kernel
theorem dX6_endsIn_31 : decode cX6_endsIn 31 = .ok (.invokevirtual 55, 3) := by decide +kernel
theorem dX6_endsIn_34 : decode cX6_endsIn 34 = .ok (.ireturn, 1) := by decide +kernel
theorem dX6_endsIn_35 : decode cX6_endsIn 35 = .ok (.aload_n 0, 1) := by decide +kernel
theorem dX6_endsIn_36 : decode cX6_endsIn 36 = .ok (.invokevirtual 169, 3) := by decide +kernel
theorem dX6_endsIn_39 : decode cX6_endsIn 39 = .ok (.aload_n 0, 1) := by decide +kernel
theorem dX6_endsIn_40 : decode cX6_endsIn 40 = .ok (.iload_n 1, 1) := by decide +kernel
theorem dX6_endsIn_41 : decode cX6_endsIn 41 = .ok (.invokevirtual 172, 3) := by decide +kernel
theorem dX6_endsIn_44 : decode cX6_endsIn 44 = .ok (.istore_n 2, 1) := by decide +kernel
theorem dX6_endsIn_45 : decode cX6_endsIn 45 = .ok (.aload_n 0, 1) := by decide +kernel
theorem dX6_endsIn_46 : decode cX6_endsIn 46 = .ok (.invokevirtual 175, 3) := by decide +kernel
theorem dX6_endsIn_49 : decode cX6_endsIn 49 = .ok (.iload_n 2, 1) := by decide +kernel
theorem dX6_endsIn_50 : decode cX6_endsIn 50 = .ok (.ireturn, 1) := by decide +kernel
theorem dX6_ends_0 : decode cX6_ends 0 = .ok (.aload_n 0, 1) := by decide +kernel
theorem dX6_ends_1 : decode cX6_ends 1 = .ok (.iconst 0, 1) := by decide +kernel
theorem dX6_ends_2 : decode cX6_ends 2 = .ok (.putfield 36, 3) := by decide +kernel
theorem dX6_ends_5 : decode cX6_ends 5 = .ok (.aload_n 0, 1) := by decide +kernel
theorem dX6_ends_6 : decode cX6_ends 6 = .ok (.iload_n 1, 1) := by decide +kernel
theorem dX6_ends_7 : decode cX6_ends 7 = .ok (.invokevirtual 106, 3) := by decide +kernel
theorem dX6_ends_10 : decode cX6_ends 10 = .ok (.ifCond .ne 9, 3) := by decide +kernel
theorem dX6_ends_13 : decode cX6_ends 13 = .ok (.aload_n 0, 1) := by decide +kernel
theorem dX6_ends_14 : decode cX6_ends 14 = .ok (.iconst 1, 1) := by decide +kernel
theorem dX6_ends_15 : decode cX6_ends 15 = .ok (.invokevirtual 55, 3) := by decide +kernel
theorem dX6_ends_18 : decode cX6_ends 18 = .ok (.ireturn, 1) := by decide +kernel
theorem dX6_ends_19 : decode cX6_ends 19 = .ok (.iload_n 2, 1) := by decide +kernel
theorem dX6_ends_20 : decode cX6_ends 20 = .ok (.iconst 0, 1) := by decide +kernel
theorem dX6_ends_21 : decode cX6_ends 21 = .ok (.iconst 2, 1) := by decide +kernel
theorem dX6_ends_22 : decode cX6_ends 22 = .ok (.invokestatic 58, 3) := by decide +kernel
theorem dX6_ends_25 : decode cX6_ends 25 = .ok (.ifCond .ne 9, 3) := by decide +kernel
theorem dX6_ends_28 : decode cX6_ends 28 = .ok (.aload_n 0, 1) := by decide +kernel
theorem dX6_ends_29 : decode cX6_ends 29 = .ok (.iconst 2, 1) := by decide +kernel
theorem dX6_ends_30 : decode cX6_ends 30 = .ok (.invokevirtual 55, 3) := by decide +kernel
theorem dX6_ends_33 : decode cX6_ends 33 = .ok (.ireturn, 1) := by decide +kernel
theorem dX6_ends_34 : decode cX6_ends 34 = .ok (.aload_n 0, 1) := by decide +kernel
theorem dX6_ends_35 : decode cX6_ends 35 = .ok (.iload_n 1, 1) := by decide +kernel
theorem dX6_ends_36 : decode cX6_ends 36 = .ok (.iconst 5, 1) := by decide +kernel
theorem dX6_ends_37 : decode cX6_ends 37 = .ok (.invokevirtual 71, 3) := by decide +kernel
theorem dX6_ends_40 : decode cX6_ends 40 = .ok (.iconst 1, 1) := by decide +kernel
theorem dX6_ends_41 : decode cX6_ends 41 = .ok (.if_icmp .eq 9, 3) := by decide +kernel
theorem dX6_ends_44 : decode cX6_ends 44 = .ok (.aload_n 0, 1) := by decide +kernel
theorem dX6_ends_45 : decode cX6_ends 45 = .ok (.iconst 3, 1) := by decide +kernel
theorem dX6_ends_46 : decode cX6_ends 46 = .ok (.invokevirtual 55, 3) := by decide +kernel
theorem dX6_ends_49 : decode cX6_ends 49 = .ok (.ireturn, 1) := by decide +kernel
theorem dX6_ends_50 : decode cX6_ends 50 = .ok (.aload_n 0, 1) := by decide +kernel
theorem dX6_ends_51 : decode cX6_ends 51 = .ok (.invokevirtual 169, 3) := by decide +kernel
theorem dX6_ends_54 : decode cX6_ends 54 = .ok (.aload_n 0, 1) := by decide +kernel
theorem dX6_ends_55 : decode cX6_ends 55 = .ok (.iload_n 1, 1) := by decide +kernel
theorem dX6_ends_56 : decode cX6_ends 56 = .ok (.invokevirtual 172, 3) := by decide +kernel
theorem dX6_ends_59 : decode cX6_ends 59 = .ok (.istore_n 3, 1) := by decide +kernel
theorem dX6_ends_60 : decode cX6_ends 60 = .ok (.iload_n 2, 1) := by decide +kernel
theorem dX6_ends_61 : decode cX6_ends 61 = .ok (.ifCond .ne 13, 3) := by decide +kernel
theorem dX6_ends_64 : decode cX6_ends 64 = .ok (.aload_n 0, 1) := by decide +kernel
theorem dX6_ends_65 : decode cX6_ends 65 = .ok (.iload_n 1, 1) := by decide +kernel
theorem dX6_ends_66 : decode cX6_ends 66 = .ok (.bipush 6, 2) := by decide +kernel
theorem dX6_ends_68 : decode cX6_ends 68 = .ok (.invokevirtual 71, 3) := by decide +kernel
theorem dX6_ends_71 : decode cX6_ends 71 = .ok (.goto 24, 3) := by decide +kernel
theorem dX6_ends_74 : decode cX6_ends 74 = .ok (.iload_n 2, 1) := by decide +kernel
theorem dX6_ends_75 : decode cX6_ends 75 = .ok (.iconst 1, 1) := by decide +kernel
theorem dX6_ends_76 : decode cX6_ends 76 = .ok (.if_icmp .ne 13, 3) := by decide +kernel
theorem dX6_ends_79 : decode cX6_ends 79 = .ok (.aload_n 0, 1) := by decide +kernel
theorem dX6_ends_80 : decode cX6_ends 80 = .ok (.iload_n 1, 1) := by decide +kernel
theorem dX6_ends_81 : decode cX6_ends 81 = .ok (.bipush 7, 2) := by decide +kernel
theorem dX6_ends_83 : decode cX6_ends 83 = .ok (.invokevirtual 71, 3) := by decide +kernel
theorem dX6_ends_86 : decode cX6_ends 86 = .ok (.goto 9, 3) := by decide +kernel
theorem dX6_ends_89 : decode cX6_ends 89 = .ok (.aload_n 0, 1) := by decide +kernel
theorem dX6_ends_90 : decode cX6_ends 90 = .ok (.iload_n 1, 1) := by decide +kernel
theorem dX6_ends_91 : decode cX6_ends 91 = .ok (.iconst 5, 1) := by decide +kernel
theorem dX6_ends_92 : decode cX6_ends 92 = .ok (.invokevirtual 71, 3) := by decide +kernel
theorem dX6_ends_95 : decode cX6_ends 95 = .ok (.istore 4, 2) := by decide +kernel
theorem dX6_ends_97 : decode cX6_ends 97 = .ok (.aload_n 0, 1) := by decide +kernel
theorem dX6_ends_98 : decode cX6_ends 98 = .ok (.invokevirtual 175, 3) := by decide +kernel
theorem dX6_ends_101 : decode cX6_ends 101 = .ok (.iload 4, 2) := by decide +kernel
theorem dX6_ends_103 : decode cX6_ends 103 = .ok (.ireturn, 1) := by decide +kernel
theorem dX6_bestDrop_0 : decode cX6_bestDrop 0 = .ok (.aload_n 0, 1) := by decide +kernel
theorem dX6_bestDrop_1 : decode cX6_bestDrop 1 = .ok (.iconst 0, 1) := by decide +kernel
theorem dX6_bestDrop_2 : decode cX6_bestDrop 2 = .ok (.putfield 36, 3) := by decide +kernel
theorem dX6_bestDrop_5 : decode cX6_bestDrop 5 = .ok (.aload_n 0, 1) := by decide +kernel
theorem dX6_bestDrop_6 : decode cX6_bestDrop 6 = .ok (.iload_n 1, 1) := by decide +kernel
theorem dX6_bestDrop_7 : decode cX6_bestDrop 7 = .ok (.invokevirtual 106, 3) := by decide +kernel
theorem dX6_bestDrop_10 : decode cX6_bestDrop 10 = .ok (.ifCond .ne 9, 3) := by decide +kernel
theorem dX6_bestDrop_13 : decode cX6_bestDrop 13 = .ok (.aload_n 0, 1) := by decide +kernel
theorem dX6_bestDrop_14 : decode cX6_bestDrop 14 = .ok (.iconst 1, 1) := by decide +kernel
theorem dX6_bestDrop_15 : decode cX6_bestDrop 15 = .ok (.invokevirtual 55, 3) := by decide +kernel
theorem dX6_bestDrop_18 : decode cX6_bestDrop 18 = .ok (.ireturn, 1) := by decide +kernel
theorem dX6_bestDrop_19 : decode cX6_bestDrop 19 = .ok (.aload_n 0, 1) := by decide +kernel
theorem dX6_bestDrop_20 : decode cX6_bestDrop 20 = .ok (.iload_n 1, 1) := by decide +kernel
theorem dX6_bestDrop_21 : decode cX6_bestDrop 21 = .ok (.iconst 5, 1) := by decide +kernel
theorem dX6_bestDrop_22 : decode cX6_bestDrop 22 = .ok (.invokevirtual 71, 3) := by decide +kernel
theorem dX6_bestDrop_25 : decode cX6_bestDrop 25 = .ok (.iconst 1, 1) := by decide +kernel
theorem dX6_bestDrop_26 : decode cX6_bestDrop 26 = .ok (.if_icmp .eq 9, 3) := by decide +kernel
theorem dX6_bestDrop_29 : decode cX6_bestDrop 29 = .ok (.aload_n 0, 1) := by decide +kernel
theorem dX6_bestDrop_30 : decode cX6_bestDrop 30 = .ok (.iconst 2, 1) := by decide +kernel
theorem dX6_bestDrop_31 : decode cX6_bestDrop 31 = .ok (.invokevirtual 55, 3) := by decide +kernel
theorem dX6_bestDrop_34 : decode cX6_bestDrop 34 = .ok (.ireturn, 1) := by decide +kernel
theorem dX6_bestDrop_35 : decode cX6_bestDrop 35 = .ok (.iconst (-1), 1) := by decide +kernel
theorem dX6_bestDrop_36 : decode cX6_bestDrop 36 = .ok (.istore_n 2, 1) := by decide +kernel
theorem dX6_bestDrop_37 : decode cX6_bestDrop 37 = .ok (.iconst (-1), 1) := by decide +kernel
theorem dX6_bestDrop_38 : decode cX6_bestDrop 38 = .ok (.istore_n 3, 1) := by decide +kernel
theorem dX6_bestDrop_39 : decode cX6_bestDrop 39 = .ok (.aload_n 0, 1) := by decide +kernel
theorem dX6_bestDrop_40 : decode cX6_bestDrop 40 = .ok (.invokevirtual 169, 3) := by decide +kernel
theorem dX6_bestDrop_43 : decode cX6_bestDrop 43 = .ok (.iconst 0, 1) := by decide +kernel
theorem dX6_bestDrop_44 : decode cX6_bestDrop 44 = .ok (.istore 4, 2) := by decide +kernel
theorem dX6_bestDrop_46 : decode cX6_bestDrop 46 = .ok (.iload 4, 2) := by decide +kernel
theorem dX6_bestDrop_48 : decode cX6_bestDrop 48 = .ok (.aload_n 0, 1) := by decide +kernel
theorem dX6_bestDrop_49 : decode cX6_bestDrop 49 = .ok (.getfield 16, 3) := by decide +kernel
theorem dX6_bestDrop_52 : decode cX6_bestDrop 52 = .ok (.bipush 22, 2) := by decide +kernel
theorem dX6_bestDrop_54 : decode cX6_bestDrop 54 = .ok (.bipush 11, 2) := by decide +kernel
theorem dX6_bestDrop_56 : decode cX6_bestDrop 56 = .ok (.iload_n 1, 1) := by decide +kernel
theorem dX6_bestDrop_57 : decode cX6_bestDrop 57 = .ok (.imul, 1) := by decide +kernel
theorem dX6_bestDrop_58 : decode cX6_bestDrop 58 = .ok (.iadd, 1) := by decide +kernel
theorem dX6_bestDrop_59 : decode cX6_bestDrop 59 = .ok (.iconst 2, 1) := by decide +kernel
theorem dX6_bestDrop_60 : decode cX6_bestDrop 60 = .ok (.iadd, 1) := by decide +kernel
theorem dX6_bestDrop_61 : decode cX6_bestDrop 61 = .ok (.iaload, 1) := by decide +kernel
theorem dX6_bestDrop_62 : decode cX6_bestDrop 62 = .ok (.if_icmp .gt 63, 3) := by decide +kernel
theorem dX6_bestDrop_65 : decode cX6_bestDrop 65 = .ok (.aload_n 0, 1) := by decide +kernel
theorem dX6_bestDrop_66 : decode cX6_bestDrop 66 = .ok (.iload_n 1, 1) := by decide +kernel
theorem dX6_bestDrop_67 : decode cX6_bestDrop 67 = .ok (.iconst 2, 1) := by decide +kernel
theorem dX6_bestDrop_68 : decode cX6_bestDrop 68 = .ok (.aload_n 0, 1) := by decide +kernel
theorem dX6_bestDrop_69 : decode cX6_bestDrop 69 = .ok (.iload_n 1, 1) := by decide +kernel
theorem dX6_bestDrop_70 : decode cX6_bestDrop 70 = .ok (.iconst 2, 1) := by decide +kernel
theorem dX6_bestDrop_71 : decode cX6_bestDrop 71 = .ok (.invokevirtual 71, 3) := by decide +kernel
theorem dX6_bestDrop_74 : decode cX6_bestDrop 74 = .ok (.iload 4, 2) := by decide +kernel
theorem dX6_bestDrop_76 : decode cX6_bestDrop 76 = .ok (.isub, 1) := by decide +kernel
theorem dX6_bestDrop_77 : decode cX6_bestDrop 77 = .ok (.invokevirtual 102, 3) := by decide +kernel
theorem dX6_bestDrop_80 : decode cX6_bestDrop 80 = .ok (.aload_n 0, 1) := by decide +kernel
theorem dX6_bestDrop_81 : decode cX6_bestDrop 81 = .ok (.iload_n 1, 1) := by decide +kernel
theorem dX6_bestDrop_82 : decode cX6_bestDrop 82 = .ok (.invokevirtual 172, 3) := by decide +kernel
theorem dX6_bestDrop_85 : decode cX6_bestDrop 85 = .ok (.istore 5, 2) := by decide +kernel
theorem dX6_bestDrop_87 : decode cX6_bestDrop 87 = .ok (.aload_n 0, 1) := by decide +kernel
theorem dX6_bestDrop_88 : decode cX6_bestDrop 88 = .ok (.iload_n 1, 1) := by decide +kernel
theorem dX6_bestDrop_89 : decode cX6_bestDrop 89 = .ok (.iconst 5, 1) := by decide +kernel
theorem dX6_bestDrop_90 : decode cX6_bestDrop 90 = .ok (.invokevirtual 71, 3) := by decide +kernel
theorem dX6_bestDrop_93 : decode cX6_bestDrop 93 = .ok (.iconst 2, 1) := by decide +kernel
theorem dX6_bestDrop_94 : decode cX6_bestDrop 94 = .ok (.if_icmp .ne 21, 3) := by decide +kernel
theorem dX6_bestDrop_97 : decode cX6_bestDrop 97 = .ok (.aload_n 0, 1) := by decide +kernel
theorem dX6_bestDrop_98 : decode cX6_bestDrop 98 = .ok (.iload_n 1, 1) := by decide +kernel
theorem dX6_bestDrop_99 : decode cX6_bestDrop 99 = .ok (.invokevirtual 134, 3) := by decide +kernel
theorem dX6_bestDrop_102 : decode cX6_bestDrop 102 = .ok (.iload_n 3, 1) := by decide +kernel
theorem dX6_bestDrop_103 : decode cX6_bestDrop 103 = .ok (.if_icmp .le 12, 3) := by decide +kernel
theorem dX6_bestDrop_106 : decode cX6_bestDrop 106 = .ok (.aload_n 0, 1) := by decide +kernel
theorem dX6_bestDrop_107 : decode cX6_bestDrop 107 = .ok (.iload_n 1, 1) := by decide +kernel
theorem dX6_bestDrop_108 : decode cX6_bestDrop 108 = .ok (.invokevirtual 134, 3) := by decide +kernel
theorem dX6_bestDrop_111 : decode cX6_bestDrop 111 = .ok (.istore_n 3, 1) := by decide +kernel
theorem dX6_bestDrop_112 : decode cX6_bestDrop 112 = .ok (.iload 4, 2) := by decide +kernel
theorem dX6_bestDrop_114 : decode cX6_bestDrop 114 = .ok (.istore_n 2, 1) := by decide +kernel
theorem dX6_bestDrop_115 : decode cX6_bestDrop 115 = .ok (.aload_n 0, 1) := by decide +kernel
theorem dX6_bestDrop_116 : decode cX6_bestDrop 116 = .ok (.invokevirtual 175, 3) := by decide +kernel
theorem dX6_bestDrop_119 : decode cX6_bestDrop 119 = .ok (.iinc 4 1, 3) := by decide +kernel
theorem dX6_bestDrop_122 : decode cX6_bestDrop 122 = .ok (.goto (-76), 3) := by decide +kernel
theorem dX6_bestDrop_125 : decode cX6_bestDrop 125 = .ok (.iload_n 2, 1) := by decide +kernel
theorem dX6_bestDrop_126 : decode cX6_bestDrop 126 = .ok (.ifCond .ge 11, 3) := by decide +kernel
theorem dX6_bestDrop_129 : decode cX6_bestDrop 129 = .ok (.aload_n 0, 1) := by decide +kernel
theorem dX6_bestDrop_130 : decode cX6_bestDrop 130 = .ok (.iconst 2, 1) := by decide +kernel
theorem dX6_bestDrop_131 : decode cX6_bestDrop 131 = .ok (.invokevirtual 55, 3) := by decide +kernel
theorem dX6_bestDrop_134 : decode cX6_bestDrop 134 = .ok (.goto 4, 3) := by decide +kernel
theorem dX6_bestDrop_137 : decode cX6_bestDrop 137 = .ok (.iload_n 2, 1) := by decide +kernel
theorem dX6_bestDrop_138 : decode cX6_bestDrop 138 = .ok (.ireturn, 1) := by decide +kernel
theorem dX6_append_0 : decode cX6_append 0 = .ok (.aload_n 0, 1) := by decide +kernel
theorem dX6_append_1 : decode cX6_append 1 = .ok (.iconst 0, 1) := by decide +kernel
theorem dX6_append_2 : decode cX6_append 2 = .ok (.putfield 36, 3) := by decide +kernel
theorem dX6_append_5 : decode cX6_append 5 = .ok (.aload_n 0, 1) := by decide +kernel
theorem dX6_append_6 : decode cX6_append 6 = .ok (.getfield 178, 3) := by decide +kernel
theorem dX6_append_9 : decode cX6_append 9 = .ok (.bipush 60, 2) := by decide +kernel
theorem dX6_append_11 : decode cX6_append 11 = .ok (.if_icmp .ne 9, 3) := by decide +kernel
theorem dX6_append_14 : decode cX6_append 14 = .ok (.aload_n 0, 1) := by decide +kernel
theorem dX6_append_15 : decode cX6_append 15 = .ok (.iconst 1, 1) := by decide +kernel
theorem dX6_append_16 : decode cX6_append 16 = .ok (.invokevirtual 55, 3) := by decide +kernel
theorem dX6_append_19 : decode cX6_append 19 = .ok (.ireturn, 1) := by decide +kernel
theorem dX6_append_20 : decode cX6_append 20 = .ok (.aload_n 0, 1) := by decide +kernel
theorem dX6_append_21 : decode cX6_append 21 = .ok (.getfield 25, 3) := by decide +kernel
theorem dX6_append_24 : decode cX6_append 24 = .ok (.aload_n 0, 1) := by decide +kernel
theorem dX6_append_25 : decode cX6_append 25 = .ok (.dup, 1) := by decide +kernel
theorem dX6_append_26 : decode cX6_append 26 = .ok (.getfield 178, 3) := by decide +kernel
theorem dX6_append_29 : decode cX6_append 29 = .ok (.dup_x1, 1) := by decide +kernel
theorem dX6_append_30 : decode cX6_append 30 = .ok (.iconst 1, 1) := by decide +kernel
theorem dX6_append_31 : decode cX6_append 31 = .ok (.iadd, 1) := by decide +kernel
theorem dX6_append_32 : decode cX6_append 32 = .ok (.putfield 178, 3) := by decide +kernel
theorem dX6_append_35 : decode cX6_append 35 = .ok (.iload_n 1, 1) := by decide +kernel
theorem dX6_append_36 : decode cX6_append 36 = .ok (.castore, 1) := by decide +kernel
theorem dX6_append_37 : decode cX6_append 37 = .ok (.aload_n 0, 1) := by decide +kernel
theorem dX6_append_38 : decode cX6_append 38 = .ok (.getfield 178, 3) := by decide +kernel
theorem dX6_append_41 : decode cX6_append 41 = .ok (.ireturn, 1) := by decide +kernel
theorem dX6_sign__0 : decode cX6_sign_ 0 = .ok (.aload_n 0, 1) := by decide +kernel
theorem dX6_sign__1 : decode cX6_sign_ 1 = .ok (.getfield 181, 3) := by decide +kernel
theorem dX6_sign__4 : decode cX6_sign_ 4 = .ok (.aload_n 0, 1) := by decide +kernel
theorem dX6_sign__5 : decode cX6_sign_ 5 = .ok (.getfield 178, 3) := by decide +kernel
theorem dX6_sign__8 : decode cX6_sign_ 8 = .ok (.if_icmp .eq 16, 3) := by decide +kernel
theorem dX6_sign__11 : decode cX6_sign_ 11 = .ok (.aload_n 0, 1) := by decide +kernel
theorem dX6_sign__12 : decode cX6_sign_ 12 = .ok (.getfield 25, 3) := by decide +kernel
theorem dX6_sign__15 : decode cX6_sign_ 15 = .ok (.aload_n 0, 1) := by decide +kernel
theorem dX6_sign__16 : decode cX6_sign_ 16 = .ok (.getfield 181, 3) := by decide +kernel
theorem dX6_sign__19 : decode cX6_sign_ 19 = .ok (.caload, 1) := by decide +kernel
theorem dX6_sign__20 : decode cX6_sign_ 20 = .ok (.iload_n 1, 1) := by decide +kernel
theorem dX6_sign__21 : decode cX6_sign_ 21 = .ok (.if_icmp .eq 13, 3) := by decide +kernel
theorem dX6_sign__24 : decode cX6_sign_ 24 = .ok (.iload_n 2, 1) := by decide +kernel
theorem dX6_sign__25 : decode cX6_sign_ 25 = .ok (.ifCond .ne 7, 3) := by decide +kernel
theorem dX6_sign__28 : decode cX6_sign_ 28 = .ok (.iconst 1, 1) := by decide +kernel
theorem dX6_sign__29 : decode cX6_sign_ 29 = .ok (.goto 4, 3) := by decide +kernel
theorem dX6_sign__32 : decode cX6_sign_ 32 = .ok (.iconst 0, 1) := by decide +kernel
theorem dX6_sign__33 : decode cX6_sign_ 33 = .ok (.ireturn, 1) := by decide +kernel
theorem dX6_sign__34 : decode cX6_sign_ 34 = .ok (.aload_n 0, 1) := by decide +kernel
theorem dX6_sign__35 : decode cX6_sign_ 35 = .ok (.dup, 1) := by decide +kernel
theorem dX6_sign__36 : decode cX6_sign_ 36 = .ok (.getfield 181, 3) := by decide +kernel
theorem dX6_sign__39 : decode cX6_sign_ 39 = .ok (.iconst 1, 1) := by decide +kernel
theorem dX6_sign__40 : decode cX6_sign_ 40 = .ok (.iadd, 1) := by decide +kernel
theorem dX6_sign__41 : decode cX6_sign_ 41 = .ok (.putfield 181, 3) := by decide +kernel
theorem dX6_sign__44 : decode cX6_sign_ 44 = .ok (.iconst 1, 1) := by decide +kernel
theorem dX6_sign__45 : decode cX6_sign_ 45 = .ok (.ireturn, 1) := by decide +kernel
theorem dX6_digits_0 : decode cX6_digits 0 = .ok (.iconst 0, 1) := by decide +kernel
theorem dX6_digits_1 : decode cX6_digits 1 = .ok (.istore_n 3, 1) := by decide +kernel
theorem dX6_digits_2 : decode cX6_digits 2 = .ok (.aload_n 0, 1) := by decide +kernel
theorem dX6_digits_3 : decode cX6_digits 3 = .ok (.getfield 29, 3) := by decide +kernel
theorem dX6_digits_6 : decode cX6_digits 6 = .ok (.iload_n 1, 1) := by decide +kernel
theorem dX6_digits_7 : decode cX6_digits 7 = .ok (.iconst 0, 1) := by decide +kernel
theorem dX6_digits_8 : decode cX6_digits 8 = .ok (.iastore, 1) := by decide +kernel
theorem dX6_digits_9 : decode cX6_digits 9 = .ok (.iload_n 3, 1) := by decide +kernel
theorem dX6_digits_10 : decode cX6_digits 10 = .ok (.iload_n 2, 1) := by decide +kernel
theorem dX6_digits_11 : decode cX6_digits 11 = .ok (.if_icmp .ge 74, 3) := by decide +kernel
theorem dX6_digits_14 : decode cX6_digits 14 = .ok (.aload_n 0, 1) := by decide +kernel
theorem dX6_digits_15 : decode cX6_digits 15 = .ok (.getfield 181, 3) := by decide +kernel
theorem dX6_digits_18 : decode cX6_digits 18 = .ok (.aload_n 0, 1) := by decide +kernel
theorem dX6_digits_19 : decode cX6_digits 19 = .ok (.getfield 178, 3) := by decide +kernel
theorem dX6_digits_22 : decode cX6_digits 22 = .ok (.if_icmp .ge 63, 3) := by decide +kernel
theorem dX6_digits_25 : decode cX6_digits 25 = .ok (.aload_n 0, 1) := by decide +kernel
theorem dX6_digits_26 : decode cX6_digits 26 = .ok (.getfield 25, 3) := by decide +kernel
theorem dX6_digits_29 : decode cX6_digits 29 = .ok (.aload_n 0, 1) := by decide +kernel
theorem dX6_digits_30 : decode cX6_digits 30 = .ok (.getfield 181, 3) := by decide +kernel
theorem dX6_digits_33 : decode cX6_digits 33 = .ok (.caload, 1) := by decide +kernel
theorem dX6_digits_34 : decode cX6_digits 34 = .ok (.bipush 48, 2) := by decide +kernel
theorem dX6_digits_36 : decode cX6_digits 36 = .ok (.bipush 57, 2) := by decide +kernel
theorem dX6_digits_38 : decode cX6_digits 38 = .ok (.invokestatic 58, 3) := by decide +kernel
theorem dX6_digits_41 : decode cX6_digits 41 = .ok (.ifCond .eq 44, 3) := by decide +kernel
theorem dX6_digits_44 : decode cX6_digits 44 = .ok (.aload_n 0, 1) := by decide +kernel
theorem dX6_digits_45 : decode cX6_digits 45 = .ok (.getfield 29, 3) := by decide +kernel
theorem dX6_digits_48 : decode cX6_digits 48 = .ok (.iload_n 1, 1) := by decide +kernel
theorem dX6_digits_49 : decode cX6_digits 49 = .ok (.bipush 10, 2) := by decide +kernel
theorem dX6_digits_51 : decode cX6_digits 51 = .ok (.aload_n 0, 1) := by decide +kernel
theorem dX6_digits_52 : decode cX6_digits 52 = .ok (.getfield 29, 3) := by decide +kernel
theorem dX6_digits_55 : decode cX6_digits 55 = .ok (.iload_n 1, 1) := by decide +kernel
theorem dX6_digits_56 : decode cX6_digits 56 = .ok (.iaload, 1) := by decide +kernel
theorem dX6_digits_57 : decode cX6_digits 57 = .ok (.imul, 1) := by decide +kernel
theorem dX6_digits_58 : decode cX6_digits 58 = .ok (.aload_n 0, 1) := by decide +kernel
theorem dX6_digits_59 : decode cX6_digits 59 = .ok (.getfield 25, 3) := by decide +kernel
theorem dX6_digits_62 : decode cX6_digits 62 = .ok (.aload_n 0, 1) := by decide +kernel
theorem dX6_digits_63 : decode cX6_digits 63 = .ok (.dup, 1) := by decide +kernel
theorem dX6_digits_64 : decode cX6_digits 64 = .ok (.getfield 181, 3) := by decide +kernel
theorem dX6_digits_67 : decode cX6_digits 67 = .ok (.dup_x1, 1) := by decide +kernel
theorem dX6_digits_68 : decode cX6_digits 68 = .ok (.iconst 1, 1) := by decide +kernel
theorem dX6_digits_69 : decode cX6_digits 69 = .ok (.iadd, 1) := by decide +kernel
theorem dX6_digits_70 : decode cX6_digits 70 = .ok (.putfield 181, 3) := by decide +kernel
theorem dX6_digits_73 : decode cX6_digits 73 = .ok (.caload, 1) := by decide +kernel
theorem dX6_digits_74 : decode cX6_digits 74 = .ok (.iadd, 1) := by decide +kernel
theorem dX6_digits_75 : decode cX6_digits 75 = .ok (.bipush 48, 2) := by decide +kernel
theorem dX6_digits_77 : decode cX6_digits 77 = .ok (.isub, 1) := by decide +kernel
theorem dX6_digits_78 : decode cX6_digits 78 = .ok (.iastore, 1) := by decide +kernel
theorem dX6_digits_79 : decode cX6_digits 79 = .ok (.iinc 3 1, 3) := by decide +kernel
theorem dX6_digits_82 : decode cX6_digits 82 = .ok (.goto (-73), 3) := by decide +kernel
theorem dX6_digits_85 : decode cX6_digits 85 = .ok (.iload_n 3, 1) := by decide +kernel
theorem dX6_digits_86 : decode cX6_digits 86 = .ok (.ifCond .le 7, 3) := by decide +kernel
theorem dX6_digits_89 : decode cX6_digits 89 = .ok (.iconst 1, 1) := by decide +kernel
theorem dX6_digits_90 : decode cX6_digits 90 = .ok (.goto 4, 3) := by decide +kernel
theorem dX6_digits_93 : decode cX6_digits 93 = .ok (.iconst 0, 1) := by decide +kernel
theorem dX6_digits_94 : decode cX6_digits 94 = .ok (.ireturn, 1) := by decide +kernel
theorem dX6_wind__0 : decode cX6_wind_ 0 = .ok (.aload_n 0, 1) := by decide +kernel
theorem dX6_wind__1 : decode cX6_wind_ 1 = .ok (.getfield 181, 3) := by decide +kernel
theorem dX6_wind__4 : decode cX6_wind_ 4 = .ok (.istore_n 2, 1) := by decide +kernel
theorem dX6_wind__5 : decode cX6_wind_ 5 = .ok (.aload_n 0, 1) := by decide +kernel
theorem dX6_wind__6 : decode cX6_wind_ 6 = .ok (.bipush 45, 2) := by decide +kernel
theorem dX6_wind__8 : decode cX6_wind_ 8 = .ok (.iconst 0, 1) := by decide +kernel
theorem dX6_wind__9 : decode cX6_wind_ 9 = .ok (.invokevirtual 184, 3) := by decide +kernel
theorem dX6_wind__12 : decode cX6_wind_ 12 = .ok (.ifCond .eq 16, 3) := by decide +kernel
theorem dX6_wind__15 : decode cX6_wind_ 15 = .ok (.aload_n 0, 1) := by decide +kernel
theorem dX6_wind__16 : decode cX6_wind_ 16 = .ok (.iload_n 1, 1) := by decide +kernel
theorem dX6_wind__17 : decode cX6_wind_ 17 = .ok (.iconst 1, 1) := by decide +kernel
theorem dX6_wind__18 : decode cX6_wind_ 18 = .ok (.invokevirtual 188, 3) := by decide +kernel
theorem dX6_wind__21 : decode cX6_wind_ 21 = .ok (.ifCond .eq 7, 3) := by decide +kernel
theorem dX6_wind__24 : decode cX6_wind_ 24 = .ok (.iconst 1, 1) := by decide +kernel
theorem dX6_wind__25 : decode cX6_wind_ 25 = .ok (.goto 4, 3) := by decide +kernel
theorem dX6_wind__28 : decode cX6_wind_ 28 = .ok (.iconst 0, 1) := by decide +kernel
theorem dX6_wind__29 : decode cX6_wind_ 29 = .ok (.istore_n 3, 1) := by decide +kernel
theorem dX6_wind__30 : decode cX6_wind_ 30 = .ok (.iload_n 3, 1) := by decide +kernel
theorem dX6_wind__31 : decode cX6_wind_ 31 = .ok (.ifCond .eq 26, 3) := by decide +kernel
theorem dX6_wind__34 : decode cX6_wind_ 34 = .ok (.aload_n 0, 1) := by decide +kernel
theorem dX6_wind__35 : decode cX6_wind_ 35 = .ok (.getfield 181, 3) := by decide +kernel
theorem dX6_wind__38 : decode cX6_wind_ 38 = .ok (.iload_n 2, 1) := by decide +kernel
theorem dX6_wind__39 : decode cX6_wind_ 39 = .ok (.isub, 1) := by decide +kernel
theorem dX6_wind__40 : decode cX6_wind_ 40 = .ok (.iconst 2, 1) := by decide +kernel
theorem dX6_wind__41 : decode cX6_wind_ 41 = .ok (.if_icmp .ne 16, 3) := by decide +kernel
theorem dX6_wind__44 : decode cX6_wind_ 44 = .ok (.aload_n 0, 1) := by decide +kernel
theorem dX6_wind__45 : decode cX6_wind_ 45 = .ok (.getfield 29, 3) := by decide +kernel
theorem dX6_wind__48 : decode cX6_wind_ 48 = .ok (.iload_n 1, 1) := by decide +kernel
theorem dX6_wind__49 : decode cX6_wind_ 49 = .ok (.aload_n 0, 1) := by decide +kernel
theorem dX6_wind__50 : decode cX6_wind_ 50 = .ok (.getfield 29, 3) := by decide +kernel
theorem dX6_wind__53 : decode cX6_wind_ 53 = .ok (.iload_n 1, 1) := by decide +kernel
theorem dX6_wind__54 : decode cX6_wind_ 54 = .ok (.iaload, 1) := by decide +kernel
theorem dX6_wind__55 : decode cX6_wind_ 55 = .ok (.ineg, 1) := by decide +kernel
theorem dX6_wind__56 : decode cX6_wind_ 56 = .ok (.iastore, 1) := by decide +kernel
theorem dX6_wind__57 : decode cX6_wind_ 57 = .ok (.iload_n 3, 1) := by decide +kernel
