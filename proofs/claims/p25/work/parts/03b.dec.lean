theorem dX5_wipe_12 : decode cX5_wipe 12 = .ok (.iconst 0, 1) := by decide +kernel
theorem dX5_wipe_13 : decode cX5_wipe 13 = .ok (.invokestatic 25, 3) := by decide +kernel
theorem dX5_wipe_16 : decode cX5_wipe 16 = .ok (.aload_n 0, 1) := by decide +kernel
theorem dX5_wipe_17 : decode cX5_wipe 17 = .ok (.sipush 10000, 3) := by decide +kernel
theorem dX5_wipe_20 : decode cX5_wipe 20 = .ok (.putfield 18, 3) := by decide +kernel
theorem dX5_wipe_23 : decode cX5_wipe 23 = .ok (.aload_n 0, 1) := by decide +kernel
theorem dX5_wipe_24 : decode cX5_wipe 24 = .ok (.iconst 0, 1) := by decide +kernel
theorem dX5_wipe_25 : decode cX5_wipe 25 = .ok (.putfield 22, 3) := by decide +kernel
theorem dX5_wipe_28 : decode cX5_wipe 28 = .ok (.return_, 1) := by decide +kernel
theorem dX5_addQuiet_0 : decode cX5_addQuiet 0 = .ok (.iconst 0, 1) := by decide +kernel
theorem dX5_addQuiet_1 : decode cX5_addQuiet 1 = .ok (.istore 4, 2) := by decide +kernel
theorem dX5_addQuiet_3 : decode cX5_addQuiet 3 = .ok (.iload 4, 2) := by decide +kernel
theorem dX5_addQuiet_5 : decode cX5_addQuiet 5 = .ok (.bipush 24, 2) := by decide +kernel
theorem dX5_addQuiet_7 : decode cX5_addQuiet 7 = .ok (.if_icmp .ge 76, 3) := by decide +kernel
theorem dX5_addQuiet_10 : decode cX5_addQuiet 10 = .ok (.iload 4, 2) := by decide +kernel
theorem dX5_addQuiet_12 : decode cX5_addQuiet 12 = .ok (.iload_n 2, 1) := by decide +kernel
theorem dX5_addQuiet_13 : decode cX5_addQuiet 13 = .ok (.if_icmp .lt 7, 3) := by decide +kernel
theorem dX5_addQuiet_16 : decode cX5_addQuiet 16 = .ok (.iconst 1, 1) := by decide +kernel
theorem dX5_addQuiet_17 : decode cX5_addQuiet 17 = .ok (.goto 4, 3) := by decide +kernel
theorem dX5_addQuiet_20 : decode cX5_addQuiet 20 = .ok (.iconst 0, 1) := by decide +kernel
theorem dX5_addQuiet_21 : decode cX5_addQuiet 21 = .ok (.istore 5, 2) := by decide +kernel
theorem dX5_addQuiet_23 : decode cX5_addQuiet 23 = .ok (.iload 4, 2) := by decide +kernel
theorem dX5_addQuiet_25 : decode cX5_addQuiet 25 = .ok (.iload_n 3, 1) := by decide +kernel
theorem dX5_addQuiet_26 : decode cX5_addQuiet 26 = .ok (.if_icmp .gt 7, 3) := by decide +kernel
theorem dX5_addQuiet_29 : decode cX5_addQuiet 29 = .ok (.iconst 1, 1) := by decide +kernel
theorem dX5_addQuiet_30 : decode cX5_addQuiet 30 = .ok (.goto 4, 3) := by decide +kernel
theorem dX5_addQuiet_33 : decode cX5_addQuiet 33 = .ok (.iconst 0, 1) := by decide +kernel
theorem dX5_addQuiet_34 : decode cX5_addQuiet 34 = .ok (.istore 6, 2) := by decide +kernel
theorem dX5_addQuiet_36 : decode cX5_addQuiet 36 = .ok (.iload_n 2, 1) := by decide +kernel
theorem dX5_addQuiet_37 : decode cX5_addQuiet 37 = .ok (.iload_n 3, 1) := by decide +kernel
theorem dX5_addQuiet_38 : decode cX5_addQuiet 38 = .ok (.if_icmp .gt 16, 3) := by decide +kernel
theorem dX5_addQuiet_41 : decode cX5_addQuiet 41 = .ok (.iload 5, 2) := by decide +kernel
theorem dX5_addQuiet_43 : decode cX5_addQuiet 43 = .ok (.ifCond .eq 34, 3) := by decide +kernel
theorem dX5_addQuiet_46 : decode cX5_addQuiet 46 = .ok (.iload 6, 2) := by decide +kernel
theorem dX5_addQuiet_48 : decode cX5_addQuiet 48 = .ok (.ifCond .eq 29, 3) := by decide +kernel
theorem dX5_addQuiet_51 : decode cX5_addQuiet 51 = .ok (.goto 13, 3) := by decide +kernel
theorem dX5_addQuiet_54 : decode cX5_addQuiet 54 = .ok (.iload 5, 2) := by decide +kernel
theorem dX5_addQuiet_56 : decode cX5_addQuiet 56 = .ok (.ifCond .ne 8, 3) := by decide +kernel
theorem dX5_addQuiet_59 : decode cX5_addQuiet 59 = .ok (.iload 6, 2) := by decide +kernel
theorem dX5_addQuiet_61 : decode cX5_addQuiet 61 = .ok (.ifCond .eq 16, 3) := by decide +kernel
theorem dX5_addQuiet_64 : decode cX5_addQuiet 64 = .ok (.aload_n 0, 1) := by decide +kernel
theorem dX5_addQuiet_65 : decode cX5_addQuiet 65 = .ok (.getfield 9, 3) := by decide +kernel
theorem dX5_addQuiet_68 : decode cX5_addQuiet 68 = .ok (.iload_n 1, 1) := by decide +kernel
theorem dX5_addQuiet_69 : decode cX5_addQuiet 69 = .ok (.dup2, 1) := by decide +kernel
theorem dX5_addQuiet_70 : decode cX5_addQuiet 70 = .ok (.iaload, 1) := by decide +kernel
theorem dX5_addQuiet_71 : decode cX5_addQuiet 71 = .ok (.iconst 1, 1) := by decide +kernel
theorem dX5_addQuiet_72 : decode cX5_addQuiet 72 = .ok (.iload 4, 2) := by decide +kernel
theorem dX5_addQuiet_74 : decode cX5_addQuiet 74 = .ok (.ishl, 1) := by decide +kernel
theorem dX5_addQuiet_75 : decode cX5_addQuiet 75 = .ok (.ior, 1) := by decide +kernel
theorem dX5_addQuiet_76 : decode cX5_addQuiet 76 = .ok (.iastore, 1) := by decide +kernel
theorem dX5_addQuiet_77 : decode cX5_addQuiet 77 = .ok (.iinc 4 1, 3) := by decide +kernel
theorem dX5_addQuiet_80 : decode cX5_addQuiet 80 = .ok (.goto (-77), 3) := by decide +kernel
theorem dX5_addQuiet_83 : decode cX5_addQuiet 83 = .ok (.return_, 1) := by decide +kernel
theorem dX5_isQuiet_0 : decode cX5_isQuiet 0 = .ok (.aload_n 0, 1) := by decide +kernel
theorem dX5_isQuiet_1 : decode cX5_isQuiet 1 = .ok (.getfield 9, 3) := by decide +kernel
theorem dX5_isQuiet_4 : decode cX5_isQuiet 4 = .ok (.iload_n 1, 1) := by decide +kernel
theorem dX5_isQuiet_5 : decode cX5_isQuiet 5 = .ok (.iaload, 1) := by decide +kernel
theorem dX5_isQuiet_6 : decode cX5_isQuiet 6 = .ok (.iload_n 2, 1) := by decide +kernel
theorem dX5_isQuiet_7 : decode cX5_isQuiet 7 = .ok (.ishr, 1) := by decide +kernel
theorem dX5_isQuiet_8 : decode cX5_isQuiet 8 = .ok (.iconst 1, 1) := by decide +kernel
theorem dX5_isQuiet_9 : decode cX5_isQuiet 9 = .ok (.iand, 1) := by decide +kernel
theorem dX5_isQuiet_10 : decode cX5_isQuiet 10 = .ok (.ifCond .eq 7, 3) := by decide +kernel
theorem dX5_isQuiet_13 : decode cX5_isQuiet 13 = .ok (.iconst 1, 1) := by decide +kernel
theorem dX5_isQuiet_14 : decode cX5_isQuiet 14 = .ok (.goto 4, 3) := by decide +kernel
theorem dX5_isQuiet_17 : decode cX5_isQuiet 17 = .ok (.iconst 0, 1) := by decide +kernel
theorem dX5_isQuiet_18 : decode cX5_isQuiet 18 = .ok (.ireturn, 1) := by decide +kernel
theorem dX5_isBefore_0 : decode cX5_isBefore 0 = .ok (.aload_n 0, 1) := by decide +kernel
theorem dX5_isBefore_1 : decode cX5_isBefore 1 = .ok (.getfield 15, 3) := by decide +kernel
theorem dX5_isBefore_4 : decode cX5_isBefore 4 = .ok (.iload_n 1, 1) := by decide +kernel
theorem dX5_isBefore_5 : decode cX5_isBefore 5 = .ok (.iaload, 1) := by decide +kernel
theorem dX5_isBefore_6 : decode cX5_isBefore 6 = .ok (.iload_n 2, 1) := by decide +kernel
theorem dX5_isBefore_7 : decode cX5_isBefore 7 = .ok (.ishr, 1) := by decide +kernel
theorem dX5_isBefore_8 : decode cX5_isBefore 8 = .ok (.iconst 1, 1) := by decide +kernel
theorem dX5_isBefore_9 : decode cX5_isBefore 9 = .ok (.iand, 1) := by decide +kernel
theorem dX5_isBefore_10 : decode cX5_isBefore 10 = .ok (.ifCond .eq 7, 3) := by decide +kernel
theorem dX5_isBefore_13 : decode cX5_isBefore 13 = .ok (.iconst 1, 1) := by decide +kernel
theorem dX5_isBefore_14 : decode cX5_isBefore 14 = .ok (.goto 4, 3) := by decide +kernel
theorem dX5_isBefore_17 : decode cX5_isBefore 17 = .ok (.iconst 0, 1) := by decide +kernel
theorem dX5_isBefore_18 : decode cX5_isBefore 18 = .ok (.ireturn, 1) := by decide +kernel
theorem dX6_init_0 : decode cX6_init 0 = .ok (.aload_n 0, 1) := by decide +kernel
theorem dX6_init_1 : decode cX6_init 1 = .ok (.invokespecial 3, 3) := by decide +kernel
theorem dX6_init_4 : decode cX6_init 4 = .ok (.aload_n 0, 1) := by decide +kernel
theorem dX6_init_5 : decode cX6_init 5 = .ok (.iconst 5, 1) := by decide +kernel
theorem dX6_init_6 : decode cX6_init 6 = .ok (.newarray .int, 2) := by decide +kernel
theorem dX6_init_8 : decode cX6_init 8 = .ok (.putfield 9, 3) := by decide +kernel
theorem dX6_init_11 : decode cX6_init 11 = .ok (.aload_n 0, 1) := by decide +kernel
theorem dX6_init_12 : decode cX6_init 12 = .ok (.iconst 5, 1) := by decide +kernel
theorem dX6_init_13 : decode cX6_init 13 = .ok (.newarray .int, 2) := by decide +kernel
theorem dX6_init_15 : decode cX6_init 15 = .ok (.putfield 15, 3) := by decide +kernel
theorem dX6_init_18 : decode cX6_init 18 = .ok (.aload_n 0, 1) := by decide +kernel
theorem dX6_init_19 : decode cX6_init 19 = .ok (.iconst 5, 1) := by decide +kernel
theorem dX6_init_20 : decode cX6_init 20 = .ok (.newarray .int, 2) := by decide +kernel
theorem dX6_init_22 : decode cX6_init 22 = .ok (.putfield 18, 3) := by decide +kernel
theorem dX6_init_25 : decode cX6_init 25 = .ok (.aload_n 0, 1) := by decide +kernel
theorem dX6_init_26 : decode cX6_init 26 = .ok (.bipush 120, 2) := by decide +kernel
theorem dX6_init_28 : decode cX6_init 28 = .ok (.newarray .int, 2) := by decide +kernel
theorem dX6_init_30 : decode cX6_init 30 = .ok (.putfield 21, 3) := by decide +kernel
theorem dX6_init_33 : decode cX6_init 33 = .ok (.aload_n 0, 1) := by decide +kernel
theorem dX6_init_34 : decode cX6_init 34 = .ok (.bipush 120, 2) := by decide +kernel
theorem dX6_init_36 : decode cX6_init 36 = .ok (.newarray .int, 2) := by decide +kernel
theorem dX6_init_38 : decode cX6_init 38 = .ok (.putfield 24, 3) := by decide +kernel
theorem dX6_init_41 : decode cX6_init 41 = .ok (.aload_n 0, 1) := by decide +kernel
theorem dX6_init_42 : decode cX6_init 42 = .ok (.bipush 120, 2) := by decide +kernel
theorem dX6_init_44 : decode cX6_init 44 = .ok (.newarray .long, 2) := by decide +kernel
theorem dX6_init_46 : decode cX6_init 46 = .ok (.putfield 27, 3) := by decide +kernel
theorem dX6_init_49 : decode cX6_init 49 = .ok (.aload_n 0, 1) := by decide +kernel
theorem dX6_init_50 : decode cX6_init 50 = .ok (.sipush 600, 3) := by decide +kernel
theorem dX6_init_53 : decode cX6_init 53 = .ok (.newarray .int, 2) := by decide +kernel
theorem dX6_init_55 : decode cX6_init 55 = .ok (.putfield 31, 3) := by decide +kernel
theorem dX6_init_58 : decode cX6_init 58 = .ok (.aload_n 0, 1) := by decide +kernel
theorem dX6_init_59 : decode cX6_init 59 = .ok (.bipush 30, 2) := by decide +kernel
theorem dX6_init_61 : decode cX6_init 61 = .ok (.newarray .int, 2) := by decide +kernel
theorem dX6_init_63 : decode cX6_init 63 = .ok (.putfield 34, 3) := by decide +kernel
theorem dX6_init_66 : decode cX6_init 66 = .ok (.aload_n 0, 1) := by decide +kernel
theorem dX6_init_67 : decode cX6_init 67 = .ok (.bipush 6, 2) := by decide +kernel
theorem dX6_init_69 : decode cX6_init 69 = .ok (.newarray .long, 2) := by decide +kernel
theorem dX6_init_71 : decode cX6_init 71 = .ok (.putfield 37, 3) := by decide +kernel
theorem dX6_init_74 : decode cX6_init 74 = .ok (.aload_n 0, 1) := by decide +kernel
theorem dX6_init_75 : decode cX6_init 75 = .ok (.iconst 5, 1) := by decide +kernel
theorem dX6_init_76 : decode cX6_init 76 = .ok (.newarray .int, 2) := by decide +kernel
theorem dX6_init_78 : decode cX6_init 78 = .ok (.putfield 40, 3) := by decide +kernel
theorem dX6_init_81 : decode cX6_init 81 = .ok (.aload_n 0, 1) := by decide +kernel
theorem dX6_init_82 : decode cX6_init 82 = .ok (.iconst 5, 1) := by decide +kernel
theorem dX6_init_83 : decode cX6_init 83 = .ok (.newarray .int, 2) := by decide +kernel
theorem dX6_init_85 : decode cX6_init 85 = .ok (.putfield 43, 3) := by decide +kernel
theorem dX6_init_88 : decode cX6_init 88 = .ok (.aload_n 0, 1) := by decide +kernel
theorem dX6_init_89 : decode cX6_init 89 = .ok (.aload_n 1, 1) := by decide +kernel
theorem dX6_init_90 : decode cX6_init 90 = .ok (.putfield 46, 3) := by decide +kernel
theorem dX6_init_93 : decode cX6_init 93 = .ok (.aload_n 0, 1) := by decide +kernel
theorem dX6_init_94 : decode cX6_init 94 = .ok (.aload_n 2, 1) := by decide +kernel
theorem dX6_init_95 : decode cX6_init 95 = .ok (.putfield 50, 3) := by decide +kernel
theorem dX6_init_98 : decode cX6_init 98 = .ok (.aload_n 0, 1) := by decide +kernel
theorem dX6_init_99 : decode cX6_init 99 = .ok (.iconst 0, 1) := by decide +kernel
theorem dX6_init_100 : decode cX6_init 100 = .ok (.putfield 54, 3) := by decide +kernel
theorem dX6_init_103 : decode cX6_init 103 = .ok (.aload_n 0, 1) := by decide +kernel
theorem dX6_init_104 : decode cX6_init 104 = .ok (.lconst 0, 1) := by decide +kernel
theorem dX6_init_105 : decode cX6_init 105 = .ok (.putfield 58, 3) := by decide +kernel
theorem dX6_init_108 : decode cX6_init 108 = .ok (.aload_n 0, 1) := by decide +kernel
theorem dX6_init_109 : decode cX6_init 109 = .ok (.ldc2_w 62, 3) := by decide +kernel
theorem dX6_init_112 : decode cX6_init 112 = .ok (.putfield 64, 3) := by decide +kernel
theorem dX6_init_115 : decode cX6_init 115 = .ok (.aload_n 0, 1) := by decide +kernel
theorem dX6_init_116 : decode cX6_init 116 = .ok (.iconst 0, 1) := by decide +kernel
theorem dX6_init_117 : decode cX6_init 117 = .ok (.putfield 67, 3) := by decide +kernel
theorem dX6_init_120 : decode cX6_init 120 = .ok (.return_, 1) := by decide +kernel
theorem dX6_clear_0 : decode cX6_clear 0 = .ok (.aload_n 0, 1) := by decide +kernel
theorem dX6_clear_1 : decode cX6_clear 1 = .ok (.iconst 0, 1) := by decide +kernel
theorem dX6_clear_2 : decode cX6_clear 2 = .ok (.putfield 54, 3) := by decide +kernel
theorem dX6_clear_5 : decode cX6_clear 5 = .ok (.aload_n 0, 1) := by decide +kernel
theorem dX6_clear_6 : decode cX6_clear 6 = .ok (.getfield 18, 3) := by decide +kernel
theorem dX6_clear_9 : decode cX6_clear 9 = .ok (.iconst 0, 1) := by decide +kernel
theorem dX6_clear_10 : decode cX6_clear 10 = .ok (.invokestatic 71, 3) := by decide +kernel
theorem dX6_clear_13 : decode cX6_clear 13 = .ok (.aload_n 0, 1) := by decide +kernel
theorem dX6_clear_14 : decode cX6_clear 14 = .ok (.getfield 34, 3) := by decide +kernel
theorem dX6_clear_17 : decode cX6_clear 17 = .ok (.iconst 0, 1) := by decide +kernel
theorem dX6_clear_18 : decode cX6_clear 18 = .ok (.invokestatic 71, 3) := by decide +kernel
theorem dX6_clear_21 : decode cX6_clear 21 = .ok (.aload_n 0, 1) := by decide +kernel
theorem dX6_clear_22 : decode cX6_clear 22 = .ok (.getfield 31, 3) := by decide +kernel
theorem dX6_clear_25 : decode cX6_clear 25 = .ok (.iconst 0, 1) := by decide +kernel
theorem dX6_clear_26 : decode cX6_clear 26 = .ok (.invokestatic 71, 3) := by decide +kernel
theorem dX6_clear_29 : decode cX6_clear 29 = .ok (.return_, 1) := by decide +kernel
theorem dX6_addJob_0 : decode cX6_addJob 0 = .ok (.aload_n 0, 1) := by decide +kernel
theorem dX6_addJob_1 : decode cX6_addJob 1 = .ok (.getfield 54, 3) := by decide +kernel
theorem dX6_addJob_4 : decode cX6_addJob 4 = .ok (.iconst 5, 1) := by decide +kernel
theorem dX6_addJob_5 : decode cX6_addJob 5 = .ok (.if_icmp .ge 33, 3) := by decide +kernel
theorem dX6_addJob_8 : decode cX6_addJob 8 = .ok (.aload_n 0, 1) := by decide +kernel
theorem dX6_addJob_9 : decode cX6_addJob 9 = .ok (.getfield 9, 3) := by decide +kernel
theorem dX6_addJob_12 : decode cX6_addJob 12 = .ok (.aload_n 0, 1) := by decide +kernel
theorem dX6_addJob_13 : decode cX6_addJob 13 = .ok (.getfield 54, 3) := by decide +kernel
theorem dX6_addJob_16 : decode cX6_addJob 16 = .ok (.iload_n 1, 1) := by decide +kernel
theorem dX6_addJob_17 : decode cX6_addJob 17 = .ok (.iastore, 1) := by decide +kernel
theorem dX6_addJob_18 : decode cX6_addJob 18 = .ok (.aload_n 0, 1) := by decide +kernel
theorem dX6_addJob_19 : decode cX6_addJob 19 = .ok (.getfield 15, 3) := by decide +kernel
theorem dX6_addJob_22 : decode cX6_addJob 22 = .ok (.aload_n 0, 1) := by decide +kernel
theorem dX6_addJob_23 : decode cX6_addJob 23 = .ok (.getfield 54, 3) := by decide +kernel
theorem dX6_addJob_26 : decode cX6_addJob 26 = .ok (.iload_n 2, 1) := by decide +kernel
theorem dX6_addJob_27 : decode cX6_addJob 27 = .ok (.iastore, 1) := by decide +kernel
theorem dX6_addJob_28 : decode cX6_addJob 28 = .ok (.aload_n 0, 1) := by decide +kernel
theorem dX6_addJob_29 : decode cX6_addJob 29 = .ok (.dup, 1) := by decide +kernel
theorem dX6_addJob_30 : decode cX6_addJob 30 = .ok (.getfield 54, 3) := by decide +kernel
theorem dX6_addJob_33 : decode cX6_addJob 33 = .ok (.iconst 1, 1) := by decide +kernel
theorem dX6_addJob_34 : decode cX6_addJob 34 = .ok (.iadd, 1) := by decide +kernel
theorem dX6_addJob_35 : decode cX6_addJob 35 = .ok (.putfield 54, 3) := by decide +kernel
theorem dX6_addJob_38 : decode cX6_addJob 38 = .ok (.return_, 1) := by decide +kernel
theorem dX6_offer_0 : decode cX6_offer 0 = .ok (.iload_n 1, 1) := by decide +kernel
theorem dX6_offer_1 : decode cX6_offer 1 = .ok (.bipush 24, 2) := by decide +kernel
theorem dX6_offer_3 : decode cX6_offer 3 = .ok (.imul, 1) := by decide +kernel
theorem dX6_offer_4 : decode cX6_offer 4 = .ok (.istore 5, 2) := by decide +kernel
theorem dX6_offer_6 : decode cX6_offer 6 = .ok (.aload_n 0, 1) := by decide +kernel
theorem dX6_offer_7 : decode cX6_offer 7 = .ok (.getfield 27, 3) := by decide +kernel
theorem dX6_offer_10 : decode cX6_offer 10 = .ok (.iload 5, 2) := by decide +kernel
theorem dX6_offer_12 : decode cX6_offer 12 = .ok (.iload_n 2, 1) := by decide +kernel
theorem dX6_offer_13 : decode cX6_offer 13 = .ok (.iadd, 1) := by decide +kernel
theorem dX6_offer_14 : decode cX6_offer 14 = .ok (.lload_n 3, 1) := by decide +kernel
theorem dX6_offer_15 : decode cX6_offer 15 = .ok (.lastore, 1) := by decide +kernel
theorem dX6_offer_16 : decode cX6_offer 16 = .ok (.aload_n 0, 1) := by decide +kernel
theorem dX6_offer_17 : decode cX6_offer 17 = .ok (.getfield 34, 3) := by decide +kernel
theorem dX6_offer_20 : decode cX6_offer 20 = .ok (.iload_n 1, 1) := by decide +kernel
theorem dX6_offer_21 : decode cX6_offer 21 = .ok (.dup2, 1) := by decide +kernel
theorem dX6_offer_22 : decode cX6_offer 22 = .ok (.iaload, 1) := by decide +kernel
theorem dX6_offer_23 : decode cX6_offer 23 = .ok (.iconst 1, 1) := by decide +kernel
theorem dX6_offer_24 : decode cX6_offer 24 = .ok (.iload_n 2, 1) := by decide +kernel
theorem dX6_offer_25 : decode cX6_offer 25 = .ok (.ishl, 1) := by decide +kernel
theorem dX6_offer_26 : decode cX6_offer 26 = .ok (.ior, 1) := by decide +kernel
theorem dX6_offer_27 : decode cX6_offer 27 = .ok (.iastore, 1) := by decide +kernel
theorem dX6_offer_28 : decode cX6_offer 28 = .ok (.aload_n 0, 1) := by decide +kernel
theorem dX6_offer_29 : decode cX6_offer 29 = .ok (.getfield 21, 3) := by decide +kernel
theorem dX6_offer_32 : decode cX6_offer 32 = .ok (.iload 5, 2) := by decide +kernel
theorem dX6_offer_34 : decode cX6_offer 34 = .ok (.aload_n 0, 1) := by decide +kernel
theorem dX6_offer_35 : decode cX6_offer 35 = .ok (.getfield 18, 3) := by decide +kernel
theorem dX6_offer_38 : decode cX6_offer 38 = .ok (.iload_n 1, 1) := by decide +kernel
theorem dX6_offer_39 : decode cX6_offer 39 = .ok (.iaload, 1) := by decide +kernel
theorem dX6_offer_40 : decode cX6_offer 40 = .ok (.iadd, 1) := by decide +kernel
theorem dX6_offer_41 : decode cX6_offer 41 = .ok (.iload_n 2, 1) := by decide +kernel
theorem dX6_offer_42 : decode cX6_offer 42 = .ok (.iastore, 1) := by decide +kernel
theorem dX6_offer_43 : decode cX6_offer 43 = .ok (.aload_n 0, 1) := by decide +kernel
theorem dX6_offer_44 : decode cX6_offer 44 = .ok (.getfield 18, 3) := by decide +kernel
theorem dX6_offer_47 : decode cX6_offer 47 = .ok (.iload_n 1, 1) := by decide +kernel
theorem dX6_offer_48 : decode cX6_offer 48 = .ok (.iaload, 1) := by decide +kernel
theorem dX6_offer_49 : decode cX6_offer 49 = .ok (.istore 6, 2) := by decide +kernel
theorem dX6_offer_51 : decode cX6_offer 51 = .ok (.iload 6, 2) := by decide +kernel
theorem dX6_offer_53 : decode cX6_offer 53 = .ok (.ifCond .le 56, 3) := by decide +kernel
theorem dX6_offer_56 : decode cX6_offer 56 = .ok (.aload_n 0, 1) := by decide +kernel
theorem dX6_offer_57 : decode cX6_offer 57 = .ok (.getfield 27, 3) := by decide +kernel
theorem dX6_offer_60 : decode cX6_offer 60 = .ok (.iload 5, 2) := by decide +kernel
theorem dX6_offer_62 : decode cX6_offer 62 = .ok (.aload_n 0, 1) := by decide +kernel
theorem dX6_offer_63 : decode cX6_offer 63 = .ok (.getfield 24, 3) := by decide +kernel
theorem dX6_offer_66 : decode cX6_offer 66 = .ok (.iload 5, 2) := by decide +kernel
theorem dX6_offer_68 : decode cX6_offer 68 = .ok (.iload 6, 2) := by decide +kernel
theorem dX6_offer_70 : decode cX6_offer 70 = .ok (.iadd, 1) := by decide +kernel
theorem dX6_offer_71 : decode cX6_offer 71 = .ok (.iconst 1, 1) := by decide +kernel
theorem dX6_offer_72 : decode cX6_offer 72 = .ok (.isub, 1) := by decide +kernel
theorem dX6_offer_73 : decode cX6_offer 73 = .ok (.iaload, 1) := by decide +kernel
theorem dX6_offer_74 : decode cX6_offer 74 = .ok (.iadd, 1) := by decide +kernel
theorem dX6_offer_75 : decode cX6_offer 75 = .ok (.laload, 1) := by decide +kernel
theorem dX6_offer_76 : decode cX6_offer 76 = .ok (.lload_n 3, 1) := by decide +kernel
theorem dX6_offer_77 : decode cX6_offer 77 = .ok (.lcmp, 1) := by decide +kernel
theorem dX6_offer_78 : decode cX6_offer 78 = .ok (.ifCond .le 31, 3) := by decide +kernel
theorem dX6_offer_81 : decode cX6_offer 81 = .ok (.aload_n 0, 1) := by decide +kernel
theorem dX6_offer_82 : decode cX6_offer 82 = .ok (.getfield 24, 3) := by decide +kernel
theorem dX6_offer_85 : decode cX6_offer 85 = .ok (.iload 5, 2) := by decide +kernel
theorem dX6_offer_87 : decode cX6_offer 87 = .ok (.iload 6, 2) := by decide +kernel
theorem dX6_offer_89 : decode cX6_offer 89 = .ok (.iadd, 1) := by decide +kernel
theorem dX6_offer_90 : decode cX6_offer 90 = .ok (.aload_n 0, 1) := by decide +kernel
theorem dX6_offer_91 : decode cX6_offer 91 = .ok (.getfield 24, 3) := by decide +kernel
theorem dX6_offer_94 : decode cX6_offer 94 = .ok (.iload 5, 2) := by decide +kernel
theorem dX6_offer_96 : decode cX6_offer 96 = .ok (.iload 6, 2) := by decide +kernel
theorem dX6_offer_98 : decode cX6_offer 98 = .ok (.iadd, 1) := by decide +kernel
theorem dX6_offer_99 : decode cX6_offer 99 = .ok (.iconst 1, 1) := by decide +kernel
theorem dX6_offer_100 : decode cX6_offer 100 = .ok (.isub, 1) := by decide +kernel
theorem dX6_offer_101 : decode cX6_offer 101 = .ok (.iaload, 1) := by decide +kernel
theorem dX6_offer_102 : decode cX6_offer 102 = .ok (.iastore, 1) := by decide +kernel
theorem dX6_offer_103 : decode cX6_offer 103 = .ok (.iinc 6 (-1), 3) := by decide +kernel
theorem dX6_offer_106 : decode cX6_offer 106 = .ok (.goto (-55), 3) := by decide +kernel
theorem dX6_offer_109 : decode cX6_offer 109 = .ok (.aload_n 0, 1) := by decide +kernel
theorem dX6_offer_110 : decode cX6_offer 110 = .ok (.getfield 24, 3) := by decide +kernel
theorem dX6_offer_113 : decode cX6_offer 113 = .ok (.iload 5, 2) := by decide +kernel
theorem dX6_offer_115 : decode cX6_offer 115 = .ok (.iload 6, 2) := by decide +kernel
theorem dX6_offer_117 : decode cX6_offer 117 = .ok (.iadd, 1) := by decide +kernel
theorem dX6_offer_118 : decode cX6_offer 118 = .ok (.iload_n 2, 1) := by decide +kernel
theorem dX6_offer_119 : decode cX6_offer 119 = .ok (.iastore, 1) := by decide +kernel
theorem dX6_offer_120 : decode cX6_offer 120 = .ok (.aload_n 0, 1) := by decide +kernel
theorem dX6_offer_121 : decode cX6_offer 121 = .ok (.getfield 18, 3) := by decide +kernel
theorem dX6_offer_124 : decode cX6_offer 124 = .ok (.iload_n 1, 1) := by decide +kernel
theorem dX6_offer_125 : decode cX6_offer 125 = .ok (.dup2, 1) := by decide +kernel
theorem dX6_offer_126 : decode cX6_offer 126 = .ok (.iaload, 1) := by decide +kernel
theorem dX6_offer_127 : decode cX6_offer 127 = .ok (.iconst 1, 1) := by decide +kernel
theorem dX6_offer_128 : decode cX6_offer 128 = .ok (.iadd, 1) := by decide +kernel
theorem dX6_offer_129 : decode cX6_offer 129 = .ok (.iastore, 1) := by decide +kernel
theorem dX6_offer_130 : decode cX6_offer 130 = .ok (.return_, 1) := by decide +kernel
theorem dX6_prepare_0 : decode cX6_prepare 0 = .ok (.iconst 0, 1) := by decide +kernel
theorem dX6_prepare_1 : decode cX6_prepare 1 = .ok (.istore_n 2, 1) := by decide +kernel
theorem dX6_prepare_2 : decode cX6_prepare 2 = .ok (.iload_n 2, 1) := by decide +kernel
theorem dX6_prepare_3 : decode cX6_prepare 3 = .ok (.aload_n 0, 1) := by decide +kernel
theorem dX6_prepare_4 : decode cX6_prepare 4 = .ok (.getfield 54, 3) := by decide +kernel
theorem dX6_prepare_7 : decode cX6_prepare 7 = .ok (.if_icmp .ge 34, 3) := by decide +kernel
theorem dX6_prepare_10 : decode cX6_prepare 10 = .ok (.iload_n 2, 1) := by decide +kernel
theorem dX6_prepare_11 : decode cX6_prepare 11 = .ok (.iconst 1, 1) := by decide +kernel
theorem dX6_prepare_12 : decode cX6_prepare 12 = .ok (.iadd, 1) := by decide +kernel
theorem dX6_prepare_13 : decode cX6_prepare 13 = .ok (.istore_n 3, 1) := by decide +kernel
theorem dX6_prepare_14 : decode cX6_prepare 14 = .ok (.iload_n 3, 1) := by decide +kernel
theorem dX6_prepare_15 : decode cX6_prepare 15 = .ok (.aload_n 0, 1) := by decide +kernel
theorem dX6_prepare_16 : decode cX6_prepare 16 = .ok (.getfield 54, 3) := by decide +kernel
theorem dX6_prepare_19 : decode cX6_prepare 19 = .ok (.if_icmp .ge 16, 3) := by decide +kernel
theorem dX6_prepare_22 : decode cX6_prepare 22 = .ok (.aload_n 0, 1) := by decide +kernel
theorem dX6_prepare_23 : decode cX6_prepare 23 = .ok (.iload_n 2, 1) := by decide +kernel
theorem dX6_prepare_24 : decode cX6_prepare 24 = .ok (.iload_n 3, 1) := by decide +kernel
theorem dX6_prepare_25 : decode cX6_prepare 25 = .ok (.aload_n 1, 1) := by decide +kernel
theorem dX6_prepare_26 : decode cX6_prepare 26 = .ok (.invokevirtual 77, 3) := by decide +kernel
theorem dX6_prepare_29 : decode cX6_prepare 29 = .ok (.iinc 3 1, 3) := by decide +kernel
theorem dX6_prepare_32 : decode cX6_prepare 32 = .ok (.goto (-18), 3) := by decide +kernel
theorem dX6_prepare_35 : decode cX6_prepare 35 = .ok (.iinc 2 1, 3) := by decide +kernel
theorem dX6_prepare_38 : decode cX6_prepare 38 = .ok (.goto (-36), 3) := by decide +kernel
theorem dX6_prepare_41 : decode cX6_prepare 41 = .ok (.iconst 1, 1) := by decide +kernel
theorem dX6_prepare_42 : decode cX6_prepare 42 = .ok (.istore_n 2, 1) := by decide +kernel
theorem dX6_prepare_43 : decode cX6_prepare 43 = .ok (.iconst 0, 1) := by decide +kernel
theorem dX6_prepare_44 : decode cX6_prepare 44 = .ok (.istore_n 3, 1) := by decide +kernel
theorem dX6_prepare_45 : decode cX6_prepare 45 = .ok (.iload_n 2, 1) := by decide +kernel
theorem dX6_prepare_46 : decode cX6_prepare 46 = .ok (.ifCond .eq 20, 3) := by decide +kernel
theorem dX6_prepare_49 : decode cX6_prepare 49 = .ok (.iload_n 3, 1) := by decide +kernel
theorem dX6_prepare_50 : decode cX6_prepare 50 = .ok (.bipush 120, 2) := by decide +kernel
theorem dX6_prepare_52 : decode cX6_prepare 52 = .ok (.if_icmp .ge 14, 3) := by decide +kernel
theorem dX6_prepare_55 : decode cX6_prepare 55 = .ok (.aload_n 0, 1) := by decide +kernel
theorem dX6_prepare_56 : decode cX6_prepare 56 = .ok (.invokevirtual 81, 3) := by decide +kernel
theorem dX6_prepare_59 : decode cX6_prepare 59 = .ok (.istore_n 2, 1) := by decide +kernel
theorem dX6_prepare_60 : decode cX6_prepare 60 = .ok (.iinc 3 1, 3) := by decide +kernel
theorem dX6_prepare_63 : decode cX6_prepare 63 = .ok (.goto (-18), 3) := by decide +kernel
theorem dX6_prepare_66 : decode cX6_prepare 66 = .ok (.aload_n 0, 1) := by decide +kernel
theorem dX6_prepare_67 : decode cX6_prepare 67 = .ok (.getfield 37, 3) := by decide +kernel
theorem dX6_prepare_70 : decode cX6_prepare 70 = .ok (.iconst 0, 1) := by decide +kernel
theorem dX6_prepare_71 : decode cX6_prepare 71 = .ok (.lconst 0, 1) := by decide +kernel
theorem dX6_prepare_72 : decode cX6_prepare 72 = .ok (.lastore, 1) := by decide +kernel
theorem dX6_prepare_73 : decode cX6_prepare 73 = .ok (.iconst 0, 1) := by decide +kernel
theorem dX6_prepare_74 : decode cX6_prepare 74 = .ok (.istore_n 3, 1) := by decide +kernel
theorem dX6_prepare_75 : decode cX6_prepare 75 = .ok (.iload_n 3, 1) := by decide +kernel
theorem dX6_prepare_76 : decode cX6_prepare 76 = .ok (.aload_n 0, 1) := by decide +kernel
theorem dX6_prepare_77 : decode cX6_prepare 77 = .ok (.getfield 54, 3) := by decide +kernel
theorem dX6_prepare_80 : decode cX6_prepare 80 = .ok (.if_icmp .ge 40, 3) := by decide +kernel
theorem dX6_prepare_83 : decode cX6_prepare 83 = .ok (.aload_n 0, 1) := by decide +kernel
theorem dX6_prepare_84 : decode cX6_prepare 84 = .ok (.getfield 34, 3) := by decide +kernel
theorem dX6_prepare_87 : decode cX6_prepare 87 = .ok (.iload_n 3, 1) := by decide +kernel
theorem dX6_prepare_88 : decode cX6_prepare 88 = .ok (.iaload, 1) := by decide +kernel
theorem dX6_prepare_89 : decode cX6_prepare 89 = .ok (.ifCond .ne 5, 3) := by decide +kernel
theorem dX6_prepare_92 : decode cX6_prepare 92 = .ok (.iconst 0, 1) := by decide +kernel
theorem dX6_prepare_93 : decode cX6_prepare 93 = .ok (.ireturn, 1) := by decide +kernel
theorem dX6_prepare_94 : decode cX6_prepare 94 = .ok (.aload_n 0, 1) := by decide +kernel
theorem dX6_prepare_95 : decode cX6_prepare 95 = .ok (.getfield 37, 3) := by decide +kernel
theorem dX6_prepare_98 : decode cX6_prepare 98 = .ok (.iconst 0, 1) := by decide +kernel
theorem dX6_prepare_99 : decode cX6_prepare 99 = .ok (.dup2, 1) := by decide +kernel
theorem dX6_prepare_100 : decode cX6_prepare 100 = .ok (.laload, 1) := by decide +kernel
theorem dX6_prepare_101 : decode cX6_prepare 101 = .ok (.aload_n 0, 1) := by decide +kernel
theorem dX6_prepare_102 : decode cX6_prepare 102 = .ok (.iload_n 3, 1) := by decide +kernel
theorem dX6_prepare_103 : decode cX6_prepare 103 = .ok (.aload_n 0, 1) := by decide +kernel
theorem dX6_prepare_104 : decode cX6_prepare 104 = .ok (.getfield 34, 3) := by decide +kernel
theorem dX6_prepare_107 : decode cX6_prepare 107 = .ok (.iload_n 3, 1) := by decide +kernel
theorem dX6_prepare_108 : decode cX6_prepare 108 = .ok (.iaload, 1) := by decide +kernel
theorem dX6_prepare_109 : decode cX6_prepare 109 = .ok (.invokevirtual 85, 3) := by decide +kernel
theorem dX6_prepare_112 : decode cX6_prepare 112 = .ok (.ladd, 1) := by decide +kernel
theorem dX6_prepare_113 : decode cX6_prepare 113 = .ok (.lastore, 1) := by decide +kernel
theorem dX6_prepare_114 : decode cX6_prepare 114 = .ok (.iinc 3 1, 3) := by decide +kernel
theorem dX6_prepare_117 : decode cX6_prepare 117 = .ok (.goto (-42), 3) := by decide +kernel
theorem dX6_prepare_120 : decode cX6_prepare 120 = .ok (.iconst 1, 1) := by decide +kernel
theorem dX6_prepare_121 : decode cX6_prepare 121 = .ok (.ireturn, 1) := by decide +kernel
theorem dX6_walkTwice_0 : decode cX6_walkTwice 0 = .ok (.aload_n 0, 1) := by decide +kernel
theorem dX6_walkTwice_1 : decode cX6_walkTwice 1 = .ok (.ldc2_w 62, 3) := by decide +kernel
theorem dX6_walkTwice_4 : decode cX6_walkTwice 4 = .ok (.putfield 58, 3) := by decide +kernel
theorem dX6_walkTwice_7 : decode cX6_walkTwice 7 = .ok (.aload_n 0, 1) := by decide +kernel
theorem dX6_walkTwice_8 : decode cX6_walkTwice 8 = .ok (.ldc2_w 62, 3) := by decide +kernel
theorem dX6_walkTwice_11 : decode cX6_walkTwice 11 = .ok (.putfield 64, 3) := by decide +kernel
theorem dX6_walkTwice_14 : decode cX6_walkTwice 14 = .ok (.aload_n 0, 1) := by decide +kernel
theorem dX6_walkTwice_15 : decode cX6_walkTwice 15 = .ok (.iconst 0, 1) := by decide +kernel
theorem dX6_walkTwice_16 : decode cX6_walkTwice 16 = .ok (.putfield 67, 3) := by decide +kernel
theorem dX6_walkTwice_19 : decode cX6_walkTwice 19 = .ok (.aload_n 0, 1) := by decide +kernel
theorem dX6_walkTwice_20 : decode cX6_walkTwice 20 = .ok (.iconst 0, 1) := by decide +kernel
theorem dX6_walkTwice_21 : decode cX6_walkTwice 21 = .ok (.lconst 0, 1) := by decide +kernel
theorem dX6_walkTwice_22 : decode cX6_walkTwice 22 = .ok (.invokevirtual 89, 3) := by decide +kernel
theorem dX6_walkTwice_25 : decode cX6_walkTwice 25 = .ok (.aload_n 0, 1) := by decide +kernel
theorem dX6_walkTwice_26 : decode cX6_walkTwice 26 = .ok (.getfield 58, 3) := by decide +kernel
theorem dX6_walkTwice_29 : decode cX6_walkTwice 29 = .ok (.ldc2_w 62, 3) := by decide +kernel
theorem dX6_walkTwice_32 : decode cX6_walkTwice 32 = .ok (.lcmp, 1) := by decide +kernel
theorem dX6_walkTwice_33 : decode cX6_walkTwice 33 = .ok (.ifCond .ne 5, 3) := by decide +kernel
theorem dX6_walkTwice_36 : decode cX6_walkTwice 36 = .ok (.iconst 0, 1) := by decide +kernel
theorem dX6_walkTwice_37 : decode cX6_walkTwice 37 = .ok (.ireturn, 1) := by decide +kernel
theorem dX6_walkTwice_38 : decode cX6_walkTwice 38 = .ok (.aload_n 0, 1) := by decide +kernel
theorem dX6_walkTwice_39 : decode cX6_walkTwice 39 = .ok (.aload_n 0, 1) := by decide +kernel
theorem dX6_walkTwice_40 : decode cX6_walkTwice 40 = .ok (.getfield 58, 3) := by decide +kernel
theorem dX6_walkTwice_43 : decode cX6_walkTwice 43 = .ok (.lconst 1, 1) := by decide +kernel
theorem dX6_walkTwice_44 : decode cX6_walkTwice 44 = .ok (.ladd, 1) := by decide +kernel
theorem dX6_walkTwice_45 : decode cX6_walkTwice 45 = .ok (.putfield 64, 3) := by decide +kernel
theorem dX6_walkTwice_48 : decode cX6_walkTwice 48 = .ok (.aload_n 0, 1) := by decide +kernel
theorem dX6_walkTwice_49 : decode cX6_walkTwice 49 = .ok (.iconst 1, 1) := by decide +kernel
theorem dX6_walkTwice_50 : decode cX6_walkTwice 50 = .ok (.putfield 67, 3) := by decide +kernel
theorem dX6_walkTwice_53 : decode cX6_walkTwice 53 = .ok (.aload_n 0, 1) := by decide +kernel
theorem dX6_walkTwice_54 : decode cX6_walkTwice 54 = .ok (.iconst 0, 1) := by decide +kernel
theorem dX6_walkTwice_55 : decode cX6_walkTwice 55 = .ok (.lconst 0, 1) := by decide +kernel
theorem dX6_walkTwice_56 : decode cX6_walkTwice 56 = .ok (.invokevirtual 89, 3) := by decide +kernel
theorem dX6_walkTwice_59 : decode cX6_walkTwice 59 = .ok (.iconst 1, 1) := by decide +kernel
theorem dX6_walkTwice_60 : decode cX6_walkTwice 60 = .ok (.ireturn, 1) := by decide +kernel
theorem dX6_matchPair_0 : decode cX6_matchPair 0 = .ok (.aload_n 3, 1) := by decide +kernel
theorem dX6_matchPair_1 : decode cX6_matchPair 1 = .ok (.aload_n 0, 1) := by decide +kernel
theorem dX6_matchPair_2 : decode cX6_matchPair 2 = .ok (.getfield 9, 3) := by decide +kernel
theorem dX6_matchPair_5 : decode cX6_matchPair 5 = .ok (.iload_n 1, 1) := by decide +kernel
theorem dX6_matchPair_6 : decode cX6_matchPair 6 = .ok (.iaload, 1) := by decide +kernel
theorem dX6_matchPair_7 : decode cX6_matchPair 7 = .ok (.aload_n 0, 1) := by decide +kernel
theorem dX6_matchPair_8 : decode cX6_matchPair 8 = .ok (.getfield 9, 3) := by decide +kernel
theorem dX6_matchPair_11 : decode cX6_matchPair 11 = .ok (.iload_n 2, 1) := by decide +kernel
theorem dX6_matchPair_12 : decode cX6_matchPair 12 = .ok (.iaload, 1) := by decide +kernel
theorem dX6_matchPair_13 : decode cX6_matchPair 13 = .ok (.invokevirtual 93, 3) := by decide +kernel
theorem dX6_matchPair_16 : decode cX6_matchPair 16 = .ok (.istore 4, 2) := by decide +kernel
theorem dX6_matchPair_18 : decode cX6_matchPair 18 = .ok (.aload_n 3, 1) := by decide +kernel
theorem dX6_matchPair_19 : decode cX6_matchPair 19 = .ok (.aload_n 0, 1) := by decide +kernel
theorem dX6_matchPair_20 : decode cX6_matchPair 20 = .ok (.getfield 9, 3) := by decide +kernel
theorem dX6_matchPair_23 : decode cX6_matchPair 23 = .ok (.iload_n 2, 1) := by decide +kernel
theorem dX6_matchPair_24 : decode cX6_matchPair 24 = .ok (.iaload, 1) := by decide +kernel
theorem dX6_matchPair_25 : decode cX6_matchPair 25 = .ok (.aload_n 0, 1) := by decide +kernel
theorem dX6_matchPair_26 : decode cX6_matchPair 26 = .ok (.getfield 9, 3) := by decide +kernel
theorem dX6_matchPair_29 : decode cX6_matchPair 29 = .ok (.iload_n 1, 1) := by decide +kernel
theorem dX6_matchPair_30 : decode cX6_matchPair 30 = .ok (.iaload, 1) := by decide +kernel
theorem dX6_matchPair_31 : decode cX6_matchPair 31 = .ok (.invokevirtual 93, 3) := by decide +kernel
theorem dX6_matchPair_34 : decode cX6_matchPair 34 = .ok (.istore 5, 2) := by decide +kernel
theorem dX6_matchPair_36 : decode cX6_matchPair 36 = .ok (.iconst 0, 1) := by decide +kernel
theorem dX6_matchPair_37 : decode cX6_matchPair 37 = .ok (.istore 6, 2) := by decide +kernel
theorem dX6_matchPair_39 : decode cX6_matchPair 39 = .ok (.iload 6, 2) := by decide +kernel
theorem dX6_matchPair_41 : decode cX6_matchPair 41 = .ok (.aload_n 0, 1) := by decide +kernel
theorem dX6_matchPair_42 : decode cX6_matchPair 42 = .ok (.getfield 18, 3) := by decide +kernel
theorem dX6_matchPair_45 : decode cX6_matchPair 45 = .ok (.iload_n 1, 1) := by decide +kernel
theorem dX6_matchPair_46 : decode cX6_matchPair 46 = .ok (.iaload, 1) := by decide +kernel
theorem dX6_matchPair_47 : decode cX6_matchPair 47 = .ok (.if_icmp .ge 243, 3) := by decide +kernel
theorem dX6_matchPair_50 : decode cX6_matchPair 50 = .ok (.aload_n 0, 1) := by decide +kernel
theorem dX6_matchPair_51 : decode cX6_matchPair 51 = .ok (.getfield 21, 3) := by decide +kernel
theorem dX6_matchPair_54 : decode cX6_matchPair 54 = .ok (.iload_n 1, 1) := by decide +kernel
theorem dX6_matchPair_55 : decode cX6_matchPair 55 = .ok (.bipush 24, 2) := by decide +kernel
theorem dX6_matchPair_57 : decode cX6_matchPair 57 = .ok (.imul, 1) := by decide +kernel
theorem dX6_matchPair_58 : decode cX6_matchPair 58 = .ok (.iload 6, 2) := by decide +kernel
theorem dX6_matchPair_60 : decode cX6_matchPair 60 = .ok (.iadd, 1) := by decide +kernel
theorem dX6_matchPair_61 : decode cX6_matchPair 61 = .ok (.iaload, 1) := by decide +kernel
theorem dX6_matchPair_62 : decode cX6_matchPair 62 = .ok (.istore 7, 2) := by decide +kernel
theorem dX6_matchPair_64 : decode cX6_matchPair 64 = .ok (.aload_n 0, 1) := by decide +kernel
theorem dX6_matchPair_65 : decode cX6_matchPair 65 = .ok (.getfield 50, 3) := by decide +kernel
theorem dX6_matchPair_68 : decode cX6_matchPair 68 = .ok (.getfield 99, 3) := by decide +kernel
theorem dX6_matchPair_71 : decode cX6_matchPair 71 = .ok (.aload_n 0, 1) := by decide +kernel
theorem dX6_matchPair_72 : decode cX6_matchPair 72 = .ok (.getfield 9, 3) := by decide +kernel
theorem dX6_matchPair_75 : decode cX6_matchPair 75 = .ok (.iload_n 1, 1) := by decide +kernel
theorem dX6_matchPair_76 : decode cX6_matchPair 76 = .ok (.iaload, 1) := by decide +kernel
theorem dX6_matchPair_77 : decode cX6_matchPair 77 = .ok (.iaload, 1) := by decide +kernel
theorem dX6_matchPair_78 : decode cX6_matchPair 78 = .ok (.iload 7, 2) := by decide +kernel
theorem dX6_matchPair_80 : decode cX6_matchPair 80 = .ok (.iadd, 1) := by decide +kernel
theorem dX6_matchPair_81 : decode cX6_matchPair 81 = .ok (.istore 8, 2) := by decide +kernel
theorem dX6_matchPair_83 : decode cX6_matchPair 83 = .ok (.iload 8, 2) := by decide +kernel
theorem dX6_matchPair_85 : decode cX6_matchPair 85 = .ok (.aload_n 0, 1) := by decide +kernel
theorem dX6_matchPair_86 : decode cX6_matchPair 86 = .ok (.getfield 50, 3) := by decide +kernel
theorem dX6_matchPair_89 : decode cX6_matchPair 89 = .ok (.getfield 104, 3) := by decide +kernel
theorem dX6_matchPair_92 : decode cX6_matchPair 92 = .ok (.aload_n 0, 1) := by decide +kernel
theorem dX6_matchPair_93 : decode cX6_matchPair 93 = .ok (.getfield 9, 3) := by decide +kernel
theorem dX6_matchPair_96 : decode cX6_matchPair 96 = .ok (.iload_n 1, 1) := by decide +kernel
theorem dX6_matchPair_97 : decode cX6_matchPair 97 = .ok (.iaload, 1) := by decide +kernel
theorem dX6_matchPair_98 : decode cX6_matchPair 98 = .ok (.iaload, 1) := by decide +kernel
theorem dX6_matchPair_99 : decode cX6_matchPair 99 = .ok (.iadd, 1) := by decide +kernel
theorem dX6_matchPair_100 : decode cX6_matchPair 100 = .ok (.istore 9, 2) := by decide +kernel
theorem dX6_matchPair_102 : decode cX6_matchPair 102 = .ok (.iconst 0, 1) := by decide +kernel
theorem dX6_matchPair_103 : decode cX6_matchPair 103 = .ok (.istore 10, 2) := by decide +kernel
theorem dX6_matchPair_105 : decode cX6_matchPair 105 = .ok (.iload 10, 2) := by decide +kernel
theorem dX6_matchPair_107 : decode cX6_matchPair 107 = .ok (.aload_n 0, 1) := by decide +kernel
theorem dX6_matchPair_108 : decode cX6_matchPair 108 = .ok (.getfield 18, 3) := by decide +kernel
theorem dX6_matchPair_111 : decode cX6_matchPair 111 = .ok (.iload_n 2, 1) := by decide +kernel
theorem dX6_matchPair_112 : decode cX6_matchPair 112 = .ok (.iaload, 1) := by decide +kernel
theorem dX6_matchPair_113 : decode cX6_matchPair 113 = .ok (.if_icmp .ge 171, 3) := by decide +kernel
theorem dX6_matchPair_116 : decode cX6_matchPair 116 = .ok (.aload_n 0, 1) := by decide +kernel
theorem dX6_matchPair_117 : decode cX6_matchPair 117 = .ok (.getfield 21, 3) := by decide +kernel
theorem dX6_matchPair_120 : decode cX6_matchPair 120 = .ok (.iload_n 2, 1) := by decide +kernel
theorem dX6_matchPair_121 : decode cX6_matchPair 121 = .ok (.bipush 24, 2) := by decide +kernel
theorem dX6_matchPair_123 : decode cX6_matchPair 123 = .ok (.imul, 1) := by decide +kernel
theorem dX6_matchPair_124 : decode cX6_matchPair 124 = .ok (.iload 10, 2) := by decide +kernel
theorem dX6_matchPair_126 : decode cX6_matchPair 126 = .ok (.iadd, 1) := by decide +kernel
theorem dX6_matchPair_127 : decode cX6_matchPair 127 = .ok (.iaload, 1) := by decide +kernel
theorem dX6_matchPair_128 : decode cX6_matchPair 128 = .ok (.istore 11, 2) := by decide +kernel
theorem dX6_matchPair_130 : decode cX6_matchPair 130 = .ok (.aload_n 0, 1) := by decide +kernel
theorem dX6_matchPair_131 : decode cX6_matchPair 131 = .ok (.getfield 50, 3) := by decide +kernel
theorem dX6_matchPair_134 : decode cX6_matchPair 134 = .ok (.getfield 99, 3) := by decide +kernel
theorem dX6_matchPair_137 : decode cX6_matchPair 137 = .ok (.aload_n 0, 1) := by decide +kernel
theorem dX6_matchPair_138 : decode cX6_matchPair 138 = .ok (.getfield 9, 3) := by decide +kernel
theorem dX6_matchPair_141 : decode cX6_matchPair 141 = .ok (.iload_n 2, 1) := by decide +kernel
theorem dX6_matchPair_142 : decode cX6_matchPair 142 = .ok (.iaload, 1) := by decide +kernel
theorem dX6_matchPair_143 : decode cX6_matchPair 143 = .ok (.iaload, 1) := by decide +kernel
theorem dX6_matchPair_144 : decode cX6_matchPair 144 = .ok (.iload 11, 2) := by decide +kernel
theorem dX6_matchPair_146 : decode cX6_matchPair 146 = .ok (.iadd, 1) := by decide +kernel
theorem dX6_matchPair_147 : decode cX6_matchPair 147 = .ok (.istore 12, 2) := by decide +kernel
theorem dX6_matchPair_149 : decode cX6_matchPair 149 = .ok (.iload 12, 2) := by decide +kernel
theorem dX6_matchPair_151 : decode cX6_matchPair 151 = .ok (.aload_n 0, 1) := by decide +kernel
theorem dX6_matchPair_152 : decode cX6_matchPair 152 = .ok (.getfield 50, 3) := by decide +kernel
theorem dX6_matchPair_155 : decode cX6_matchPair 155 = .ok (.getfield 104, 3) := by decide +kernel
theorem dX6_matchPair_158 : decode cX6_matchPair 158 = .ok (.aload_n 0, 1) := by decide +kernel
theorem dX6_matchPair_159 : decode cX6_matchPair 159 = .ok (.getfield 9, 3) := by decide +kernel
theorem dX6_matchPair_162 : decode cX6_matchPair 162 = .ok (.iload_n 2, 1) := by decide +kernel
theorem dX6_matchPair_163 : decode cX6_matchPair 163 = .ok (.iaload, 1) := by decide +kernel
theorem dX6_matchPair_164 : decode cX6_matchPair 164 = .ok (.iaload, 1) := by decide +kernel
theorem dX6_matchPair_165 : decode cX6_matchPair 165 = .ok (.iadd, 1) := by decide +kernel
theorem dX6_matchPair_166 : decode cX6_matchPair 166 = .ok (.istore 13, 2) := by decide +kernel
theorem dX6_matchPair_168 : decode cX6_matchPair 168 = .ok (.iload 4, 2) := by decide +kernel
theorem dX6_matchPair_170 : decode cX6_matchPair 170 = .ok (.ifCond .eq 10, 3) := by decide +kernel
theorem dX6_matchPair_173 : decode cX6_matchPair 173 = .ok (.iload 12, 2) := by decide +kernel
theorem dX6_matchPair_175 : decode cX6_matchPair 175 = .ok (.iload 9, 2) := by decide +kernel
theorem dX6_matchPair_177 : decode cX6_matchPair 177 = .ok (.if_icmp .lt 101, 3) := by decide +kernel
theorem dX6_matchPair_180 : decode cX6_matchPair 180 = .ok (.iload 5, 2) := by decide +kernel
theorem dX6_matchPair_182 : decode cX6_matchPair 182 = .ok (.ifCond .eq 13, 3) := by decide +kernel
theorem dX6_matchPair_185 : decode cX6_matchPair 185 = .ok (.iload 8, 2) := by decide +kernel
theorem dX6_matchPair_187 : decode cX6_matchPair 187 = .ok (.iload 13, 2) := by decide +kernel
theorem dX6_matchPair_189 : decode cX6_matchPair 189 = .ok (.if_icmp .ge 6, 3) := by decide +kernel
theorem dX6_matchPair_192 : decode cX6_matchPair 192 = .ok (.goto 86, 3) := by decide +kernel
theorem dX6_matchPair_195 : decode cX6_matchPair 195 = .ok (.iload 12, 2) := by decide +kernel
theorem dX6_matchPair_197 : decode cX6_matchPair 197 = .ok (.iload 9, 2) := by decide +kernel
theorem dX6_matchPair_199 : decode cX6_matchPair 199 = .ok (.if_icmp .ge 33, 3) := by decide +kernel
theorem dX6_matchPair_202 : decode cX6_matchPair 202 = .ok (.iload 8, 2) := by decide +kernel
theorem dX6_matchPair_204 : decode cX6_matchPair 204 = .ok (.iload 13, 2) := by decide +kernel
theorem dX6_matchPair_206 : decode cX6_matchPair 206 = .ok (.if_icmp .ge 26, 3) := by decide +kernel
theorem dX6_matchPair_209 : decode cX6_matchPair 209 = .ok (.aload_n 0, 1) := by decide +kernel
theorem dX6_matchPair_210 : decode cX6_matchPair 210 = .ok (.aload_n 0, 1) := by decide +kernel
theorem dX6_matchPair_211 : decode cX6_matchPair 211 = .ok (.getfield 9, 3) := by decide +kernel
theorem dX6_matchPair_214 : decode cX6_matchPair 214 = .ok (.iload_n 1, 1) := by decide +kernel
theorem dX6_matchPair_215 : decode cX6_matchPair 215 = .ok (.iaload, 1) := by decide +kernel
theorem dX6_matchPair_216 : decode cX6_matchPair 216 = .ok (.iload 8, 2) := by decide +kernel
theorem dX6_matchPair_218 : decode cX6_matchPair 218 = .ok (.aload_n 0, 1) := by decide +kernel
theorem dX6_matchPair_219 : decode cX6_matchPair 219 = .ok (.getfield 9, 3) := by decide +kernel
theorem dX6_matchPair_222 : decode cX6_matchPair 222 = .ok (.iload_n 2, 1) := by decide +kernel
theorem dX6_matchPair_223 : decode cX6_matchPair 223 = .ok (.iaload, 1) := by decide +kernel
theorem dX6_matchPair_224 : decode cX6_matchPair 224 = .ok (.iload 12, 2) := by decide +kernel
theorem dX6_matchPair_226 : decode cX6_matchPair 226 = .ok (.invokevirtual 107, 3) := by decide +kernel
theorem dX6_matchPair_229 : decode cX6_matchPair 229 = .ok (.ifCond .eq 49, 3) := by decide +kernel
theorem dX6_matchPair_232 : decode cX6_matchPair 232 = .ok (.aload_n 0, 1) := by decide +kernel
theorem dX6_matchPair_233 : decode cX6_matchPair 233 = .ok (.getfield 31, 3) := by decide +kernel
theorem dX6_matchPair_236 : decode cX6_matchPair 236 = .ok (.iload_n 1, 1) := by decide +kernel
theorem dX6_matchPair_237 : decode cX6_matchPair 237 = .ok (.bipush 24, 2) := by decide +kernel
theorem dX6_matchPair_239 : decode cX6_matchPair 239 = .ok (.imul, 1) := by decide +kernel
theorem dX6_matchPair_240 : decode cX6_matchPair 240 = .ok (.iload 7, 2) := by decide +kernel
theorem dX6_matchPair_242 : decode cX6_matchPair 242 = .ok (.iadd, 1) := by decide +kernel
theorem dX6_matchPair_243 : decode cX6_matchPair 243 = .ok (.iconst 5, 1) := by decide +kernel
theorem dX6_matchPair_244 : decode cX6_matchPair 244 = .ok (.imul, 1) := by decide +kernel
theorem dX6_matchPair_245 : decode cX6_matchPair 245 = .ok (.iload_n 2, 1) := by decide +kernel
theorem dX6_matchPair_246 : decode cX6_matchPair 246 = .ok (.iadd, 1) := by decide +kernel
theorem dX6_matchPair_247 : decode cX6_matchPair 247 = .ok (.dup2, 1) := by decide +kernel
theorem dX6_matchPair_248 : decode cX6_matchPair 248 = .ok (.iaload, 1) := by decide +kernel
theorem dX6_matchPair_249 : decode cX6_matchPair 249 = .ok (.iconst 1, 1) := by decide +kernel
theorem dX6_matchPair_250 : decode cX6_matchPair 250 = .ok (.iload 11, 2) := by decide +kernel
theorem dX6_matchPair_252 : decode cX6_matchPair 252 = .ok (.ishl, 1) := by decide +kernel
theorem dX6_matchPair_253 : decode cX6_matchPair 253 = .ok (.ior, 1) := by decide +kernel
theorem dX6_matchPair_254 : decode cX6_matchPair 254 = .ok (.iastore, 1) := by decide +kernel
theorem dX6_matchPair_255 : decode cX6_matchPair 255 = .ok (.aload_n 0, 1) := by decide +kernel
theorem dX6_matchPair_256 : decode cX6_matchPair 256 = .ok (.getfield 31, 3) := by decide +kernel
theorem dX6_matchPair_259 : decode cX6_matchPair 259 = .ok (.iload_n 2, 1) := by decide +kernel
theorem dX6_matchPair_260 : decode cX6_matchPair 260 = .ok (.bipush 24, 2) := by decide +kernel
theorem dX6_matchPair_262 : decode cX6_matchPair 262 = .ok (.imul, 1) := by decide +kernel
theorem dX6_matchPair_263 : decode cX6_matchPair 263 = .ok (.iload 11, 2) := by decide +kernel
theorem dX6_matchPair_265 : decode cX6_matchPair 265 = .ok (.iadd, 1) := by decide +kernel
theorem dX6_matchPair_266 : decode cX6_matchPair 266 = .ok (.iconst 5, 1) := by decide +kernel
theorem dX6_matchPair_267 : decode cX6_matchPair 267 = .ok (.imul, 1) := by decide +kernel
theorem dX6_matchPair_268 : decode cX6_matchPair 268 = .ok (.iload_n 1, 1) := by decide +kernel
theorem dX6_matchPair_269 : decode cX6_matchPair 269 = .ok (.iadd, 1) := by decide +kernel
theorem dX6_matchPair_270 : decode cX6_matchPair 270 = .ok (.dup2, 1) := by decide +kernel
theorem dX6_matchPair_271 : decode cX6_matchPair 271 = .ok (.iaload, 1) := by decide +kernel
theorem dX6_matchPair_272 : decode cX6_matchPair 272 = .ok (.iconst 1, 1) := by decide +kernel
theorem dX6_matchPair_273 : decode cX6_matchPair 273 = .ok (.iload 7, 2) := by decide +kernel
theorem dX6_matchPair_275 : decode cX6_matchPair 275 = .ok (.ishl, 1) := by decide +kernel
theorem dX6_matchPair_276 : decode cX6_matchPair 276 = .ok (.ior, 1) := by decide +kernel
theorem dX6_matchPair_277 : decode cX6_matchPair 277 = .ok (.iastore, 1) := by decide +kernel
theorem dX6_matchPair_278 : decode cX6_matchPair 278 = .ok (.iinc 10 1, 3) := by decide +kernel
theorem dX6_matchPair_281 : decode cX6_matchPair 281 = .ok (.goto (-176), 3) := by decide +kernel
theorem dX6_matchPair_284 : decode cX6_matchPair 284 = .ok (.iinc 6 1, 3) := by decide +kernel
theorem dX6_matchPair_287 : decode cX6_matchPair 287 = .ok (.goto (-248), 3) := by decide +kernel
theorem dX6_matchPair_290 : decode cX6_matchPair 290 = .ok (.return_, 1) := by decide +kernel
theorem dX6_areBorne_0 : decode cX6_areBorne 0 = .ok (.iload_n 2, 1) := by decide +kernel
theorem dX6_areBorne_1 : decode cX6_areBorne 1 = .ok (.iload 4, 2) := by decide +kernel
theorem dX6_areBorne_3 : decode cX6_areBorne 3 = .ok (.invokestatic 111, 3) := by decide +kernel
theorem dX6_areBorne_6 : decode cX6_areBorne 6 = .ok (.istore 5, 2) := by decide +kernel
theorem dX6_areBorne_8 : decode cX6_areBorne 8 = .ok (.iload_n 2, 1) := by decide +kernel
theorem dX6_areBorne_9 : decode cX6_areBorne 9 = .ok (.aload_n 0, 1) := by decide +kernel
theorem dX6_areBorne_10 : decode cX6_areBorne 10 = .ok (.getfield 50, 3) := by decide +kernel
theorem dX6_areBorne_13 : decode cX6_areBorne 13 = .ok (.getfield 104, 3) := by decide +kernel
theorem dX6_areBorne_16 : decode cX6_areBorne 16 = .ok (.iload_n 1, 1) := by decide +kernel
theorem dX6_areBorne_17 : decode cX6_areBorne 17 = .ok (.iaload, 1) := by decide +kernel
theorem dX6_areBorne_18 : decode cX6_areBorne 18 = .ok (.iadd, 1) := by decide +kernel
theorem dX6_areBorne_19 : decode cX6_areBorne 19 = .ok (.iload 4, 2) := by decide +kernel
theorem dX6_areBorne_21 : decode cX6_areBorne 21 = .ok (.aload_n 0, 1) := by decide +kernel
theorem dX6_areBorne_22 : decode cX6_areBorne 22 = .ok (.getfield 50, 3) := by decide +kernel
theorem dX6_areBorne_25 : decode cX6_areBorne 25 = .ok (.getfield 104, 3) := by decide +kernel
theorem dX6_areBorne_28 : decode cX6_areBorne 28 = .ok (.iload_n 3, 1) := by decide +kernel
theorem dX6_areBorne_29 : decode cX6_areBorne 29 = .ok (.iaload, 1) := by decide +kernel
theorem dX6_areBorne_30 : decode cX6_areBorne 30 = .ok (.iadd, 1) := by decide +kernel
theorem dX6_areBorne_31 : decode cX6_areBorne 31 = .ok (.invokestatic 117, 3) := by decide +kernel
theorem dX6_areBorne_34 : decode cX6_areBorne 34 = .ok (.istore 6, 2) := by decide +kernel
theorem dX6_areBorne_36 : decode cX6_areBorne 36 = .ok (.aload_n 0, 1) := by decide +kernel
theorem dX6_areBorne_37 : decode cX6_areBorne 37 = .ok (.getfield 50, 3) := by decide +kernel
theorem dX6_areBorne_40 : decode cX6_areBorne 40 = .ok (.getfield 120, 3) := by decide +kernel
theorem dX6_areBorne_43 : decode cX6_areBorne 43 = .ok (.iload_n 1, 1) := by decide +kernel
theorem dX6_areBorne_44 : decode cX6_areBorne 44 = .ok (.iaload, 1) := by decide +kernel
theorem dX6_areBorne_45 : decode cX6_areBorne 45 = .ok (.istore 7, 2) := by decide +kernel
theorem dX6_areBorne_47 : decode cX6_areBorne 47 = .ok (.iload 5, 2) := by decide +kernel
theorem dX6_areBorne_49 : decode cX6_areBorne 49 = .ok (.istore 8, 2) := by decide +kernel
theorem dX6_areBorne_51 : decode cX6_areBorne 51 = .ok (.iload 8, 2) := by decide +kernel
theorem dX6_areBorne_53 : decode cX6_areBorne 53 = .ok (.iload 6, 2) := by decide +kernel
theorem dX6_areBorne_55 : decode cX6_areBorne 55 = .ok (.if_icmp .ge 112, 3) := by decide +kernel
theorem dX6_areBorne_58 : decode cX6_areBorne 58 = .ok (.aload_n 0, 1) := by decide +kernel
theorem dX6_areBorne_59 : decode cX6_areBorne 59 = .ok (.getfield 50, 3) := by decide +kernel
theorem dX6_areBorne_62 : decode cX6_areBorne 62 = .ok (.getfield 123, 3) := by decide +kernel
theorem dX6_areBorne_65 : decode cX6_areBorne 65 = .ok (.iload_n 1, 1) := by decide +kernel
theorem dX6_areBorne_66 : decode cX6_areBorne 66 = .ok (.iconst 4, 1) := by decide +kernel
theorem dX6_areBorne_67 : decode cX6_areBorne 67 = .ok (.imul, 1) := by decide +kernel
theorem dX6_areBorne_68 : decode cX6_areBorne 68 = .ok (.iload 8, 2) := by decide +kernel
theorem dX6_areBorne_70 : decode cX6_areBorne 70 = .ok (.iadd, 1) := by decide +kernel
theorem dX6_areBorne_71 : decode cX6_areBorne 71 = .ok (.iload_n 2, 1) := by decide +kernel
theorem dX6_areBorne_72 : decode cX6_areBorne 72 = .ok (.isub, 1) := by decide +kernel
theorem dX6_areBorne_73 : decode cX6_areBorne 73 = .ok (.iaload, 1) := by decide +kernel
theorem dX6_areBorne_74 : decode cX6_areBorne 74 = .ok (.aload_n 0, 1) := by decide +kernel
theorem dX6_areBorne_75 : decode cX6_areBorne 75 = .ok (.getfield 50, 3) := by decide +kernel
theorem dX6_areBorne_78 : decode cX6_areBorne 78 = .ok (.getfield 123, 3) := by decide +kernel
theorem dX6_areBorne_81 : decode cX6_areBorne 81 = .ok (.iload_n 3, 1) := by decide +kernel
theorem dX6_areBorne_82 : decode cX6_areBorne 82 = .ok (.iconst 4, 1) := by decide +kernel
theorem dX6_areBorne_83 : decode cX6_areBorne 83 = .ok (.imul, 1) := by decide +kernel
theorem dX6_areBorne_84 : decode cX6_areBorne 84 = .ok (.iload 8, 2) := by decide +kernel
theorem dX6_areBorne_86 : decode cX6_areBorne 86 = .ok (.iadd, 1) := by decide +kernel
theorem dX6_areBorne_87 : decode cX6_areBorne 87 = .ok (.iload 4, 2) := by decide +kernel
theorem dX6_areBorne_89 : decode cX6_areBorne 89 = .ok (.isub, 1) := by decide +kernel
theorem dX6_areBorne_90 : decode cX6_areBorne 90 = .ok (.iaload, 1) := by decide +kernel
theorem dX6_areBorne_91 : decode cX6_areBorne 91 = .ok (.iadd, 1) := by decide +kernel
theorem dX6_areBorne_92 : decode cX6_areBorne 92 = .ok (.istore 9, 2) := by decide +kernel
theorem dX6_areBorne_94 : decode cX6_areBorne 94 = .ok (.aload_n 0, 1) := by decide +kernel
theorem dX6_areBorne_95 : decode cX6_areBorne 95 = .ok (.getfield 46, 3) := by decide +kernel
theorem dX6_areBorne_98 : decode cX6_areBorne 98 = .ok (.iload 8, 2) := by decide +kernel
theorem dX6_areBorne_100 : decode cX6_areBorne 100 = .ok (.invokevirtual 126, 3) := by decide +kernel
theorem dX6_areBorne_103 : decode cX6_areBorne 103 = .ok (.iload 9, 2) := by decide +kernel
theorem dX6_areBorne_105 : decode cX6_areBorne 105 = .ok (.iadd, 1) := by decide +kernel
theorem dX6_areBorne_106 : decode cX6_areBorne 106 = .ok (.aload_n 0, 1) := by decide +kernel
theorem dX6_areBorne_107 : decode cX6_areBorne 107 = .ok (.getfield 46, 3) := by decide +kernel
theorem dX6_areBorne_110 : decode cX6_areBorne 110 = .ok (.getfield 132, 3) := by decide +kernel
theorem dX6_areBorne_113 : decode cX6_areBorne 113 = .ok (.if_icmp .le 5, 3) := by decide +kernel
theorem dX6_areBorne_116 : decode cX6_areBorne 116 = .ok (.iconst 0, 1) := by decide +kernel
theorem dX6_areBorne_117 : decode cX6_areBorne 117 = .ok (.ireturn, 1) := by decide +kernel
theorem dX6_areBorne_118 : decode cX6_areBorne 118 = .ok (.iload 7, 2) := by decide +kernel
theorem dX6_areBorne_120 : decode cX6_areBorne 120 = .ok (.aload_n 0, 1) := by decide +kernel
theorem dX6_areBorne_121 : decode cX6_areBorne 121 = .ok (.getfield 50, 3) := by decide +kernel
theorem dX6_areBorne_124 : decode cX6_areBorne 124 = .ok (.getfield 120, 3) := by decide +kernel
theorem dX6_areBorne_127 : decode cX6_areBorne 127 = .ok (.iload_n 3, 1) := by decide +kernel
theorem dX6_areBorne_128 : decode cX6_areBorne 128 = .ok (.iaload, 1) := by decide +kernel
theorem dX6_areBorne_129 : decode cX6_areBorne 129 = .ok (.if_icmp .ne 32, 3) := by decide +kernel
theorem dX6_areBorne_132 : decode cX6_areBorne 132 = .ok (.aload_n 0, 1) := by decide +kernel
theorem dX6_areBorne_133 : decode cX6_areBorne 133 = .ok (.getfield 46, 3) := by decide +kernel
theorem dX6_areBorne_136 : decode cX6_areBorne 136 = .ok (.iload 7, 2) := by decide +kernel
theorem dX6_areBorne_138 : decode cX6_areBorne 138 = .ok (.iload 8, 2) := by decide +kernel
theorem dX6_areBorne_140 : decode cX6_areBorne 140 = .ok (.invokevirtual 135, 3) := by decide +kernel
theorem dX6_areBorne_143 : decode cX6_areBorne 143 = .ok (.iload 9, 2) := by decide +kernel
theorem dX6_areBorne_145 : decode cX6_areBorne 145 = .ok (.iadd, 1) := by decide +kernel
theorem dX6_areBorne_146 : decode cX6_areBorne 146 = .ok (.aload_n 0, 1) := by decide +kernel
theorem dX6_areBorne_147 : decode cX6_areBorne 147 = .ok (.getfield 46, 3) := by decide +kernel
theorem dX6_areBorne_150 : decode cX6_areBorne 150 = .ok (.getfield 138, 3) := by decide +kernel
theorem dX6_areBorne_153 : decode cX6_areBorne 153 = .ok (.iload 7, 2) := by decide +kernel
theorem dX6_areBorne_155 : decode cX6_areBorne 155 = .ok (.iaload, 1) := by decide +kernel
theorem dX6_areBorne_156 : decode cX6_areBorne 156 = .ok (.if_icmp .le 5, 3) := by decide +kernel
theorem dX6_areBorne_159 : decode cX6_areBorne 159 = .ok (.iconst 0, 1) := by decide +kernel
theorem dX6_areBorne_160 : decode cX6_areBorne 160 = .ok (.ireturn, 1) := by decide +kernel
theorem dX6_areBorne_161 : decode cX6_areBorne 161 = .ok (.iinc 8 1, 3) := by decide +kernel
theorem dX6_areBorne_164 : decode cX6_areBorne 164 = .ok (.goto (-113), 3) := by decide +kernel
theorem dX6_areBorne_167 : decode cX6_areBorne 167 = .ok (.iconst 1, 1) := by decide +kernel
theorem dX6_areBorne_168 : decode cX6_areBorne 168 = .ok (.ireturn, 1) := by decide +kernel
theorem dX6_thinOut_0 : decode cX6_thinOut 0 = .ok (.iconst 0, 1) := by decide +kernel
theorem dX6_thinOut_1 : decode cX6_thinOut 1 = .ok (.istore_n 1, 1) := by decide +kernel
theorem dX6_thinOut_2 : decode cX6_thinOut 2 = .ok (.iconst 0, 1) := by decide +kernel
theorem dX6_thinOut_3 : decode cX6_thinOut 3 = .ok (.istore_n 2, 1) := by decide +kernel
theorem dX6_thinOut_4 : decode cX6_thinOut 4 = .ok (.iload_n 2, 1) := by decide +kernel
theorem dX6_thinOut_5 : decode cX6_thinOut 5 = .ok (.aload_n 0, 1) := by decide +kernel
theorem dX6_thinOut_6 : decode cX6_thinOut 6 = .ok (.getfield 54, 3) := by decide +kernel
theorem dX6_thinOut_9 : decode cX6_thinOut 9 = .ok (.if_icmp .ge 81, 3) := by decide +kernel
theorem dX6_thinOut_12 : decode cX6_thinOut 12 = .ok (.iconst 0, 1) := by decide +kernel
theorem dX6_thinOut_13 : decode cX6_thinOut 13 = .ok (.istore_n 3, 1) := by decide +kernel
theorem dX6_thinOut_14 : decode cX6_thinOut 14 = .ok (.iload_n 3, 1) := by decide +kernel
theorem dX6_thinOut_15 : decode cX6_thinOut 15 = .ok (.aload_n 0, 1) := by decide +kernel
theorem dX6_thinOut_16 : decode cX6_thinOut 16 = .ok (.getfield 18, 3) := by decide +kernel
theorem dX6_thinOut_19 : decode cX6_thinOut 19 = .ok (.iload_n 2, 1) := by decide +kernel
theorem dX6_thinOut_20 : decode cX6_thinOut 20 = .ok (.iaload, 1) := by decide +kernel
theorem dX6_thinOut_21 : decode cX6_thinOut 21 = .ok (.if_icmp .ge 63, 3) := by decide +kernel
theorem dX6_thinOut_24 : decode cX6_thinOut 24 = .ok (.aload_n 0, 1) := by decide +kernel
theorem dX6_thinOut_25 : decode cX6_thinOut 25 = .ok (.getfield 21, 3) := by decide +kernel
theorem dX6_thinOut_28 : decode cX6_thinOut 28 = .ok (.iload_n 2, 1) := by decide +kernel
theorem dX6_thinOut_29 : decode cX6_thinOut 29 = .ok (.bipush 24, 2) := by decide +kernel
theorem dX6_thinOut_31 : decode cX6_thinOut 31 = .ok (.imul, 1) := by decide +kernel
theorem dX6_thinOut_32 : decode cX6_thinOut 32 = .ok (.iload_n 3, 1) := by decide +kernel
theorem dX6_thinOut_33 : decode cX6_thinOut 33 = .ok (.iadd, 1) := by decide +kernel
theorem dX6_thinOut_34 : decode cX6_thinOut 34 = .ok (.iaload, 1) := by decide +kernel
theorem dX6_thinOut_35 : decode cX6_thinOut 35 = .ok (.istore 4, 2) := by decide +kernel
theorem dX6_thinOut_37 : decode cX6_thinOut 37 = .ok (.aload_n 0, 1) := by decide +kernel
theorem dX6_thinOut_38 : decode cX6_thinOut 38 = .ok (.getfield 34, 3) := by decide +kernel
theorem dX6_thinOut_41 : decode cX6_thinOut 41 = .ok (.iload_n 2, 1) := by decide +kernel
theorem dX6_thinOut_42 : decode cX6_thinOut 42 = .ok (.iaload, 1) := by decide +kernel
theorem dX6_thinOut_43 : decode cX6_thinOut 43 = .ok (.iload 4, 2) := by decide +kernel
theorem dX6_thinOut_45 : decode cX6_thinOut 45 = .ok (.ishr, 1) := by decide +kernel
theorem dX6_thinOut_46 : decode cX6_thinOut 46 = .ok (.iconst 1, 1) := by decide +kernel
theorem dX6_thinOut_47 : decode cX6_thinOut 47 = .ok (.iand, 1) := by decide +kernel
theorem dX6_thinOut_48 : decode cX6_thinOut 48 = .ok (.ifCond .eq 30, 3) := by decide +kernel
theorem dX6_thinOut_51 : decode cX6_thinOut 51 = .ok (.aload_n 0, 1) := by decide +kernel
theorem dX6_thinOut_52 : decode cX6_thinOut 52 = .ok (.iload_n 2, 1) := by decide +kernel
theorem dX6_thinOut_53 : decode cX6_thinOut 53 = .ok (.iload 4, 2) := by decide +kernel
theorem dX6_thinOut_55 : decode cX6_thinOut 55 = .ok (.invokevirtual 141, 3) := by decide +kernel
theorem dX6_thinOut_58 : decode cX6_thinOut 58 = .ok (.ifCond .ne 20, 3) := by decide +kernel
theorem dX6_thinOut_61 : decode cX6_thinOut 61 = .ok (.aload_n 0, 1) := by decide +kernel
theorem dX6_thinOut_62 : decode cX6_thinOut 62 = .ok (.getfield 34, 3) := by decide +kernel
theorem dX6_thinOut_65 : decode cX6_thinOut 65 = .ok (.iload_n 2, 1) := by decide +kernel
theorem dX6_thinOut_66 : decode cX6_thinOut 66 = .ok (.dup2, 1) := by decide +kernel
theorem dX6_thinOut_67 : decode cX6_thinOut 67 = .ok (.iaload, 1) := by decide +kernel
theorem dX6_thinOut_68 : decode cX6_thinOut 68 = .ok (.iconst 1, 1) := by decide +kernel
theorem dX6_thinOut_69 : decode cX6_thinOut 69 = .ok (.iload 4, 2) := by decide +kernel
theorem dX6_thinOut_71 : decode cX6_thinOut 71 = .ok (.ishl, 1) := by decide +kernel
theorem dX6_thinOut_72 : decode cX6_thinOut 72 = .ok (.iconst (-1), 1) := by decide +kernel
theorem dX6_thinOut_73 : decode cX6_thinOut 73 = .ok (.ixor, 1) := by decide +kernel
theorem dX6_thinOut_74 : decode cX6_thinOut 74 = .ok (.iand, 1) := by decide +kernel
theorem dX6_thinOut_75 : decode cX6_thinOut 75 = .ok (.iastore, 1) := by decide +kernel
theorem dX6_thinOut_76 : decode cX6_thinOut 76 = .ok (.iconst 1, 1) := by decide +kernel
theorem dX6_thinOut_77 : decode cX6_thinOut 77 = .ok (.istore_n 1, 1) := by decide +kernel
theorem dX6_thinOut_78 : decode cX6_thinOut 78 = .ok (.iinc 3 1, 3) := by decide +kernel
theorem dX6_thinOut_81 : decode cX6_thinOut 81 = .ok (.goto (-67), 3) := by decide +kernel
theorem dX6_thinOut_84 : decode cX6_thinOut 84 = .ok (.iinc 2 1, 3) := by decide +kernel
theorem dX6_thinOut_87 : decode cX6_thinOut 87 = .ok (.goto (-83), 3) := by decide +kernel
theorem dX6_thinOut_90 : decode cX6_thinOut 90 = .ok (.iload_n 1, 1) := by decide +kernel
theorem dX6_thinOut_91 : decode cX6_thinOut 91 = .ok (.ireturn, 1) := by decide +kernel
theorem dX6_hasPartners_0 : decode cX6_hasPartners 0 = .ok (.iconst 0, 1) := by decide +kernel
theorem dX6_hasPartners_1 : decode cX6_hasPartners 1 = .ok (.istore_n 3, 1) := by decide +kernel
theorem dX6_hasPartners_2 : decode cX6_hasPartners 2 = .ok (.iload_n 3, 1) := by decide +kernel
theorem dX6_hasPartners_3 : decode cX6_hasPartners 3 = .ok (.aload_n 0, 1) := by decide +kernel
theorem dX6_hasPartners_4 : decode cX6_hasPartners 4 = .ok (.getfield 54, 3) := by decide +kernel
theorem dX6_hasPartners_7 : decode cX6_hasPartners 7 = .ok (.if_icmp .ge 41, 3) := by decide +kernel
theorem dX6_hasPartners_10 : decode cX6_hasPartners 10 = .ok (.iload_n 3, 1) := by decide +kernel
theorem dX6_hasPartners_11 : decode cX6_hasPartners 11 = .ok (.iload_n 1, 1) := by decide +kernel
theorem dX6_hasPartners_12 : decode cX6_hasPartners 12 = .ok (.if_icmp .eq 30, 3) := by decide +kernel
theorem dX6_hasPartners_15 : decode cX6_hasPartners 15 = .ok (.aload_n 0, 1) := by decide +kernel
theorem dX6_hasPartners_16 : decode cX6_hasPartners 16 = .ok (.getfield 31, 3) := by decide +kernel
theorem dX6_hasPartners_19 : decode cX6_hasPartners 19 = .ok (.iload_n 1, 1) := by decide +kernel
theorem dX6_hasPartners_20 : decode cX6_hasPartners 20 = .ok (.bipush 24, 2) := by decide +kernel
theorem dX6_hasPartners_22 : decode cX6_hasPartners 22 = .ok (.imul, 1) := by decide +kernel
theorem dX6_hasPartners_23 : decode cX6_hasPartners 23 = .ok (.iload_n 2, 1) := by decide +kernel
theorem dX6_hasPartners_24 : decode cX6_hasPartners 24 = .ok (.iadd, 1) := by decide +kernel
theorem dX6_hasPartners_25 : decode cX6_hasPartners 25 = .ok (.iconst 5, 1) := by decide +kernel
theorem dX6_hasPartners_26 : decode cX6_hasPartners 26 = .ok (.imul, 1) := by decide +kernel
theorem dX6_hasPartners_27 : decode cX6_hasPartners 27 = .ok (.iload_n 3, 1) := by decide +kernel
theorem dX6_hasPartners_28 : decode cX6_hasPartners 28 = .ok (.iadd, 1) := by decide +kernel
theorem dX6_hasPartners_29 : decode cX6_hasPartners 29 = .ok (.iaload, 1) := by decide +kernel
theorem dX6_hasPartners_30 : decode cX6_hasPartners 30 = .ok (.aload_n 0, 1) := by decide +kernel
theorem dX6_hasPartners_31 : decode cX6_hasPartners 31 = .ok (.getfield 34, 3) := by decide +kernel
theorem dX6_hasPartners_34 : decode cX6_hasPartners 34 = .ok (.iload_n 3, 1) := by decide +kernel
theorem dX6_hasPartners_35 : decode cX6_hasPartners 35 = .ok (.iaload, 1) := by decide +kernel
theorem dX6_hasPartners_36 : decode cX6_hasPartners 36 = .ok (.iand, 1) := by decide +kernel
theorem dX6_hasPartners_37 : decode cX6_hasPartners 37 = .ok (.ifCond .ne 5, 3) := by decide +kernel
theorem dX6_hasPartners_40 : decode cX6_hasPartners 40 = .ok (.iconst 0, 1) := by decide +kernel
theorem dX6_hasPartners_41 : decode cX6_hasPartners 41 = .ok (.ireturn, 1) := by decide +kernel
theorem dX6_hasPartners_42 : decode cX6_hasPartners 42 = .ok (.iinc 3 1, 3) := by decide +kernel
theorem dX6_hasPartners_45 : decode cX6_hasPartners 45 = .ok (.goto (-43), 3) := by decide +kernel
theorem dX6_hasPartners_48 : decode cX6_hasPartners 48 = .ok (.iconst 1, 1) := by decide +kernel
theorem dX6_hasPartners_49 : decode cX6_hasPartners 49 = .ok (.ireturn, 1) := by decide +kernel
theorem dX6_leastOf_0 : decode cX6_leastOf 0 = .ok (.iconst 0, 1) := by decide +kernel
theorem dX6_leastOf_1 : decode cX6_leastOf 1 = .ok (.istore_n 3, 1) := by decide +kernel
theorem dX6_leastOf_2 : decode cX6_leastOf 2 = .ok (.iload_n 3, 1) := by decide +kernel
theorem dX6_leastOf_3 : decode cX6_leastOf 3 = .ok (.aload_n 0, 1) := by decide +kernel
theorem dX6_leastOf_4 : decode cX6_leastOf 4 = .ok (.getfield 18, 3) := by decide +kernel
theorem dX6_leastOf_7 : decode cX6_leastOf 7 = .ok (.iload_n 1, 1) := by decide +kernel
theorem dX6_leastOf_8 : decode cX6_leastOf 8 = .ok (.iaload, 1) := by decide +kernel
theorem dX6_leastOf_9 : decode cX6_leastOf 9 = .ok (.if_icmp .ge 44, 3) := by decide +kernel
theorem dX6_leastOf_12 : decode cX6_leastOf 12 = .ok (.aload_n 0, 1) := by decide +kernel
theorem dX6_leastOf_13 : decode cX6_leastOf 13 = .ok (.getfield 24, 3) := by decide +kernel
theorem dX6_leastOf_16 : decode cX6_leastOf 16 = .ok (.iload_n 1, 1) := by decide +kernel
theorem dX6_leastOf_17 : decode cX6_leastOf 17 = .ok (.bipush 24, 2) := by decide +kernel
theorem dX6_leastOf_19 : decode cX6_leastOf 19 = .ok (.imul, 1) := by decide +kernel
theorem dX6_leastOf_20 : decode cX6_leastOf 20 = .ok (.iload_n 3, 1) := by decide +kernel
theorem dX6_leastOf_21 : decode cX6_leastOf 21 = .ok (.iadd, 1) := by decide +kernel
theorem dX6_leastOf_22 : decode cX6_leastOf 22 = .ok (.iaload, 1) := by decide +kernel
theorem dX6_leastOf_23 : decode cX6_leastOf 23 = .ok (.istore 4, 2) := by decide +kernel
theorem dX6_leastOf_25 : decode cX6_leastOf 25 = .ok (.iload_n 2, 1) := by decide +kernel
theorem dX6_leastOf_26 : decode cX6_leastOf 26 = .ok (.iload 4, 2) := by decide +kernel
theorem dX6_leastOf_28 : decode cX6_leastOf 28 = .ok (.ishr, 1) := by decide +kernel
theorem dX6_leastOf_29 : decode cX6_leastOf 29 = .ok (.iconst 1, 1) := by decide +kernel
theorem dX6_leastOf_30 : decode cX6_leastOf 30 = .ok (.iand, 1) := by decide +kernel
theorem dX6_leastOf_31 : decode cX6_leastOf 31 = .ok (.ifCond .eq 16, 3) := by decide +kernel
theorem dX6_leastOf_34 : decode cX6_leastOf 34 = .ok (.aload_n 0, 1) := by decide +kernel
theorem dX6_leastOf_35 : decode cX6_leastOf 35 = .ok (.getfield 27, 3) := by decide +kernel
theorem dX6_leastOf_38 : decode cX6_leastOf 38 = .ok (.iload_n 1, 1) := by decide +kernel
theorem dX6_leastOf_39 : decode cX6_leastOf 39 = .ok (.bipush 24, 2) := by decide +kernel
theorem dX6_leastOf_41 : decode cX6_leastOf 41 = .ok (.imul, 1) := by decide +kernel
theorem dX6_leastOf_42 : decode cX6_leastOf 42 = .ok (.iload 4, 2) := by decide +kernel
theorem dX6_leastOf_44 : decode cX6_leastOf 44 = .ok (.iadd, 1) := by decide +kernel
theorem dX6_leastOf_45 : decode cX6_leastOf 45 = .ok (.laload, 1) := by decide +kernel
theorem dX6_leastOf_46 : decode cX6_leastOf 46 = .ok (.lreturn, 1) := by decide +kernel
theorem dX6_leastOf_47 : decode cX6_leastOf 47 = .ok (.iinc 3 1, 3) := by decide +kernel
theorem dX6_leastOf_50 : decode cX6_leastOf 50 = .ok (.goto (-48), 3) := by decide +kernel
theorem dX6_leastOf_53 : decode cX6_leastOf 53 = .ok (.ldc2_w 62, 3) := by decide +kernel
theorem dX6_leastOf_56 : decode cX6_leastOf 56 = .ok (.lreturn, 1) := by decide +kernel
theorem dX6_walk_0 : decode cX6_walk 0 = .ok (.iload_n 1, 1) := by decide +kernel
theorem dX6_walk_1 : decode cX6_walk 1 = .ok (.aload_n 0, 1) := by decide +kernel
theorem dX6_walk_2 : decode cX6_walk 2 = .ok (.getfield 54, 3) := by decide +kernel
theorem dX6_walk_5 : decode cX6_walk 5 = .ok (.if_icmp .ge 8, 3) := by decide +kernel
theorem dX6_walk_8 : decode cX6_walk 8 = .ok (.iload_n 1, 1) := by decide +kernel
theorem dX6_walk_9 : decode cX6_walk 9 = .ok (.iconst 5, 1) := by decide +kernel
theorem dX6_walk_10 : decode cX6_walk 10 = .ok (.if_icmp .lt 9, 3) := by decide +kernel
theorem dX6_walk_13 : decode cX6_walk 13 = .ok (.aload_n 0, 1) := by decide +kernel
theorem dX6_walk_14 : decode cX6_walk 14 = .ok (.lload_n 2, 1) := by decide +kernel
theorem dX6_walk_15 : decode cX6_walk 15 = .ok (.invokevirtual 144, 3) := by decide +kernel
theorem dX6_walk_18 : decode cX6_walk 18 = .ok (.return_, 1) := by decide +kernel
theorem dX6_walk_19 : decode cX6_walk 19 = .ok (.aload_n 0, 1) := by decide +kernel
theorem dX6_walk_20 : decode cX6_walk 20 = .ok (.getfield 34, 3) := by decide +kernel
theorem dX6_walk_23 : decode cX6_walk 23 = .ok (.iload_n 1, 1) := by decide +kernel
theorem dX6_walk_24 : decode cX6_walk 24 = .ok (.iconst 5, 1) := by decide +kernel
theorem dX6_walk_25 : decode cX6_walk 25 = .ok (.imul, 1) := by decide +kernel
theorem dX6_walk_26 : decode cX6_walk 26 = .ok (.iload_n 1, 1) := by decide +kernel
theorem dX6_walk_27 : decode cX6_walk 27 = .ok (.iadd, 1) := by decide +kernel
theorem dX6_walk_28 : decode cX6_walk 28 = .ok (.iaload, 1) := by decide +kernel
theorem dX6_walk_29 : decode cX6_walk 29 = .ok (.istore 4, 2) := by decide +kernel
theorem dX6_walk_31 : decode cX6_walk 31 = .ok (.aload_n 0, 1) := by decide +kernel
theorem dX6_walk_32 : decode cX6_walk 32 = .ok (.getfield 37, 3) := by decide +kernel
theorem dX6_walk_35 : decode cX6_walk 35 = .ok (.iload_n 1, 1) := by decide +kernel
theorem dX6_walk_36 : decode cX6_walk 36 = .ok (.laload, 1) := by decide +kernel
theorem dX6_walk_37 : decode cX6_walk 37 = .ok (.aload_n 0, 1) := by decide +kernel
theorem dX6_walk_38 : decode cX6_walk 38 = .ok (.iload_n 1, 1) := by decide +kernel
theorem dX6_walk_39 : decode cX6_walk 39 = .ok (.iload 4, 2) := by decide +kernel
theorem dX6_walk_41 : decode cX6_walk 41 = .ok (.invokevirtual 85, 3) := by decide +kernel
theorem dX6_walk_44 : decode cX6_walk 44 = .ok (.lsub, 1) := by decide +kernel
theorem dX6_walk_45 : decode cX6_walk 45 = .ok (.lstore 5, 2) := by decide +kernel
theorem dX6_walk_47 : decode cX6_walk 47 = .ok (.iconst 0, 1) := by decide +kernel
theorem dX6_walk_48 : decode cX6_walk 48 = .ok (.istore 7, 2) := by decide +kernel
theorem dX6_walk_50 : decode cX6_walk 50 = .ok (.iload 7, 2) := by decide +kernel
theorem dX6_walk_52 : decode cX6_walk 52 = .ok (.aload_n 0, 1) := by decide +kernel
theorem dX6_walk_53 : decode cX6_walk 53 = .ok (.getfield 18, 3) := by decide +kernel
theorem dX6_walk_56 : decode cX6_walk 56 = .ok (.iload_n 1, 1) := by decide +kernel
theorem dX6_walk_57 : decode cX6_walk 57 = .ok (.iaload, 1) := by decide +kernel
theorem dX6_walk_58 : decode cX6_walk 58 = .ok (.if_icmp .ge 125, 3) := by decide +kernel
theorem dX6_walk_61 : decode cX6_walk 61 = .ok (.aload_n 0, 1) := by decide +kernel
theorem dX6_walk_62 : decode cX6_walk 62 = .ok (.getfield 67, 3) := by decide +kernel
theorem dX6_walk_65 : decode cX6_walk 65 = .ok (.ifCond .eq 18, 3) := by decide +kernel
theorem dX6_walk_68 : decode cX6_walk 68 = .ok (.aload_n 0, 1) := by decide +kernel
theorem dX6_walk_69 : decode cX6_walk 69 = .ok (.getfield 21, 3) := by decide +kernel
theorem dX6_walk_72 : decode cX6_walk 72 = .ok (.iload_n 1, 1) := by decide +kernel
theorem dX6_walk_73 : decode cX6_walk 73 = .ok (.bipush 24, 2) := by decide +kernel
theorem dX6_walk_75 : decode cX6_walk 75 = .ok (.imul, 1) := by decide +kernel
theorem dX6_walk_76 : decode cX6_walk 76 = .ok (.iload 7, 2) := by decide +kernel
theorem dX6_walk_78 : decode cX6_walk 78 = .ok (.iadd, 1) := by decide +kernel
theorem dX6_walk_79 : decode cX6_walk 79 = .ok (.iaload, 1) := by decide +kernel
theorem dX6_walk_80 : decode cX6_walk 80 = .ok (.goto 15, 3) := by decide +kernel
theorem dX6_walk_83 : decode cX6_walk 83 = .ok (.aload_n 0, 1) := by decide +kernel
theorem dX6_walk_84 : decode cX6_walk 84 = .ok (.getfield 24, 3) := by decide +kernel
theorem dX6_walk_87 : decode cX6_walk 87 = .ok (.iload_n 1, 1) := by decide +kernel
theorem dX6_walk_88 : decode cX6_walk 88 = .ok (.bipush 24, 2) := by decide +kernel
theorem dX6_walk_90 : decode cX6_walk 90 = .ok (.imul, 1) := by decide +kernel
theorem dX6_walk_91 : decode cX6_walk 91 = .ok (.iload 7, 2) := by decide +kernel
theorem dX6_walk_93 : decode cX6_walk 93 = .ok (.iadd, 1) := by decide +kernel
theorem dX6_walk_94 : decode cX6_walk 94 = .ok (.iaload, 1) := by decide +kernel
theorem dX6_walk_95 : decode cX6_walk 95 = .ok (.istore 8, 2) := by decide +kernel
theorem dX6_walk_97 : decode cX6_walk 97 = .ok (.lload_n 2, 1) := by decide +kernel
theorem dX6_walk_98 : decode cX6_walk 98 = .ok (.aload_n 0, 1) := by decide +kernel
theorem dX6_walk_99 : decode cX6_walk 99 = .ok (.getfield 27, 3) := by decide +kernel
theorem dX6_walk_102 : decode cX6_walk 102 = .ok (.iload_n 1, 1) := by decide +kernel
theorem dX6_walk_103 : decode cX6_walk 103 = .ok (.bipush 24, 2) := by decide +kernel
theorem dX6_walk_105 : decode cX6_walk 105 = .ok (.imul, 1) := by decide +kernel
theorem dX6_walk_106 : decode cX6_walk 106 = .ok (.iload 8, 2) := by decide +kernel
theorem dX6_walk_108 : decode cX6_walk 108 = .ok (.iadd, 1) := by decide +kernel
theorem dX6_walk_109 : decode cX6_walk 109 = .ok (.laload, 1) := by decide +kernel
theorem dX6_walk_110 : decode cX6_walk 110 = .ok (.ladd, 1) := by decide +kernel
theorem dX6_walk_111 : decode cX6_walk 111 = .ok (.lstore 9, 2) := by decide +kernel
theorem dX6_walk_113 : decode cX6_walk 113 = .ok (.iload 4, 2) := by decide +kernel
theorem dX6_walk_115 : decode cX6_walk 115 = .ok (.iload 8, 2) := by decide +kernel
theorem dX6_walk_117 : decode cX6_walk 117 = .ok (.ishr, 1) := by decide +kernel
theorem dX6_walk_118 : decode cX6_walk 118 = .ok (.iconst 1, 1) := by decide +kernel
theorem dX6_walk_119 : decode cX6_walk 119 = .ok (.iand, 1) := by decide +kernel
theorem dX6_walk_120 : decode cX6_walk 120 = .ok (.ifCond .eq 57, 3) := by decide +kernel
theorem dX6_walk_123 : decode cX6_walk 123 = .ok (.lload 9, 2) := by decide +kernel
theorem dX6_walk_125 : decode cX6_walk 125 = .ok (.lload 5, 2) := by decide +kernel
theorem dX6_walk_127 : decode cX6_walk 127 = .ok (.ladd, 1) := by decide +kernel
theorem dX6_walk_128 : decode cX6_walk 128 = .ok (.aload_n 0, 1) := by decide +kernel
theorem dX6_walk_129 : decode cX6_walk 129 = .ok (.getfield 64, 3) := by decide +kernel
theorem dX6_walk_132 : decode cX6_walk 132 = .ok (.lcmp, 1) := by decide +kernel
theorem dX6_walk_133 : decode cX6_walk 133 = .ok (.ifCond .ge 44, 3) := by decide +kernel
theorem dX6_walk_136 : decode cX6_walk 136 = .ok (.aload_n 0, 1) := by decide +kernel
theorem dX6_walk_137 : decode cX6_walk 137 = .ok (.iload_n 1, 1) := by decide +kernel
theorem dX6_walk_138 : decode cX6_walk 138 = .ok (.iload 8, 2) := by decide +kernel
theorem dX6_walk_140 : decode cX6_walk 140 = .ok (.invokevirtual 148, 3) := by decide +kernel
theorem dX6_walk_143 : decode cX6_walk 143 = .ok (.ifCond .ne 6, 3) := by decide +kernel
theorem dX6_walk_146 : decode cX6_walk 146 = .ok (.goto 31, 3) := by decide +kernel
theorem dX6_walk_149 : decode cX6_walk 149 = .ok (.lload 9, 2) := by decide +kernel
theorem dX6_walk_151 : decode cX6_walk 151 = .ok (.aload_n 0, 1) := by decide +kernel
theorem dX6_walk_152 : decode cX6_walk 152 = .ok (.getfield 37, 3) := by decide +kernel
theorem dX6_walk_155 : decode cX6_walk 155 = .ok (.iload_n 1, 1) := by decide +kernel
theorem dX6_walk_156 : decode cX6_walk 156 = .ok (.iconst 1, 1) := by decide +kernel
theorem dX6_walk_157 : decode cX6_walk 157 = .ok (.iadd, 1) := by decide +kernel
theorem dX6_walk_158 : decode cX6_walk 158 = .ok (.laload, 1) := by decide +kernel
theorem dX6_walk_159 : decode cX6_walk 159 = .ok (.ladd, 1) := by decide +kernel
theorem dX6_walk_160 : decode cX6_walk 160 = .ok (.aload_n 0, 1) := by decide +kernel
theorem dX6_walk_161 : decode cX6_walk 161 = .ok (.getfield 64, 3) := by decide +kernel
theorem dX6_walk_164 : decode cX6_walk 164 = .ok (.lcmp, 1) := by decide +kernel
theorem dX6_walk_165 : decode cX6_walk 165 = .ok (.ifCond .ge 12, 3) := by decide +kernel
theorem dX6_walk_168 : decode cX6_walk 168 = .ok (.aload_n 0, 1) := by decide +kernel
theorem dX6_walk_169 : decode cX6_walk 169 = .ok (.iload_n 1, 1) := by decide +kernel
theorem dX6_walk_170 : decode cX6_walk 170 = .ok (.iload 8, 2) := by decide +kernel
theorem dX6_walk_172 : decode cX6_walk 172 = .ok (.lload 9, 2) := by decide +kernel
theorem dX6_walk_174 : decode cX6_walk 174 = .ok (.invokevirtual 151, 3) := by decide +kernel
theorem dX6_walk_177 : decode cX6_walk 177 = .ok (.iinc 7 1, 3) := by decide +kernel
theorem dX6_walk_180 : decode cX6_walk 180 = .ok (.goto (-130), 3) := by decide +kernel
theorem dX6_walk_183 : decode cX6_walk 183 = .ok (.return_, 1) := by decide +kernel
theorem dX6_step_0 : decode cX6_step 0 = .ok (.aload_n 0, 1) := by decide +kernel
theorem dX6_step_1 : decode cX6_step 1 = .ok (.getfield 50, 3) := by decide +kernel
theorem dX6_step_4 : decode cX6_step 4 = .ok (.getfield 99, 3) := by decide +kernel
theorem dX6_step_7 : decode cX6_step 7 = .ok (.aload_n 0, 1) := by decide +kernel
theorem dX6_step_8 : decode cX6_step 8 = .ok (.getfield 9, 3) := by decide +kernel
theorem dX6_step_11 : decode cX6_step 11 = .ok (.iload_n 1, 1) := by decide +kernel
theorem dX6_step_12 : decode cX6_step 12 = .ok (.iaload, 1) := by decide +kernel
theorem dX6_step_13 : decode cX6_step 13 = .ok (.iaload, 1) := by decide +kernel
theorem dX6_step_14 : decode cX6_step 14 = .ok (.iload_n 2, 1) := by decide +kernel
theorem dX6_step_15 : decode cX6_step 15 = .ok (.iadd, 1) := by decide +kernel
theorem dX6_step_16 : decode cX6_step 16 = .ok (.istore 5, 2) := by decide +kernel
theorem dX6_step_18 : decode cX6_step 18 = .ok (.aload_n 0, 1) := by decide +kernel
theorem dX6_step_19 : decode cX6_step 19 = .ok (.getfield 50, 3) := by decide +kernel
theorem dX6_step_22 : decode cX6_step 22 = .ok (.aload_n 0, 1) := by decide +kernel
theorem dX6_step_23 : decode cX6_step 23 = .ok (.getfield 9, 3) := by decide +kernel
theorem dX6_step_26 : decode cX6_step 26 = .ok (.iload_n 1, 1) := by decide +kernel
theorem dX6_step_27 : decode cX6_step 27 = .ok (.iaload, 1) := by decide +kernel
theorem dX6_step_28 : decode cX6_step 28 = .ok (.iload 5, 2) := by decide +kernel
theorem dX6_step_30 : decode cX6_step 30 = .ok (.invokevirtual 155, 3) := by decide +kernel
theorem dX6_step_33 : decode cX6_step 33 = .ok (.ifCond .ne 4, 3) := by decide +kernel
theorem dX6_step_36 : decode cX6_step 36 = .ok (.return_, 1) := by decide +kernel
theorem dX6_step_37 : decode cX6_step 37 = .ok (.aload_n 0, 1) := by decide +kernel
theorem dX6_step_38 : decode cX6_step 38 = .ok (.getfield 40, 3) := by decide +kernel
theorem dX6_step_41 : decode cX6_step 41 = .ok (.iload_n 1, 1) := by decide +kernel
theorem dX6_step_42 : decode cX6_step 42 = .ok (.iload_n 2, 1) := by decide +kernel
theorem dX6_step_43 : decode cX6_step 43 = .ok (.iastore, 1) := by decide +kernel
theorem dX6_step_44 : decode cX6_step 44 = .ok (.aload_n 0, 1) := by decide +kernel
theorem dX6_step_45 : decode cX6_step 45 = .ok (.getfield 50, 3) := by decide +kernel
theorem dX6_step_48 : decode cX6_step 48 = .ok (.aload_n 0, 1) := by decide +kernel
theorem dX6_step_49 : decode cX6_step 49 = .ok (.getfield 9, 3) := by decide +kernel
theorem dX6_step_52 : decode cX6_step 52 = .ok (.iload_n 1, 1) := by decide +kernel
theorem dX6_step_53 : decode cX6_step 53 = .ok (.iaload, 1) := by decide +kernel
theorem dX6_step_54 : decode cX6_step 54 = .ok (.iload 5, 2) := by decide +kernel
theorem dX6_step_56 : decode cX6_step 56 = .ok (.iconst 1, 1) := by decide +kernel
theorem dX6_step_57 : decode cX6_step 57 = .ok (.invokevirtual 158, 3) := by decide +kernel
theorem dX6_step_60 : decode cX6_step 60 = .ok (.aload_n 0, 1) := by decide +kernel
theorem dX6_step_61 : decode cX6_step 61 = .ok (.iload_n 1, 1) := by decide +kernel
theorem dX6_step_62 : decode cX6_step 62 = .ok (.iconst 1, 1) := by decide +kernel
theorem dX6_step_63 : decode cX6_step 63 = .ok (.iadd, 1) := by decide +kernel
theorem dX6_step_64 : decode cX6_step 64 = .ok (.lload_n 3, 1) := by decide +kernel
theorem dX6_step_65 : decode cX6_step 65 = .ok (.invokevirtual 89, 3) := by decide +kernel
theorem dX6_step_68 : decode cX6_step 68 = .ok (.aload_n 0, 1) := by decide +kernel
theorem dX6_step_69 : decode cX6_step 69 = .ok (.getfield 50, 3) := by decide +kernel
theorem dX6_step_72 : decode cX6_step 72 = .ok (.aload_n 0, 1) := by decide +kernel
theorem dX6_step_73 : decode cX6_step 73 = .ok (.getfield 9, 3) := by decide +kernel
theorem dX6_step_76 : decode cX6_step 76 = .ok (.iload_n 1, 1) := by decide +kernel
theorem dX6_step_77 : decode cX6_step 77 = .ok (.iaload, 1) := by decide +kernel
theorem dX6_step_78 : decode cX6_step 78 = .ok (.iload 5, 2) := by decide +kernel
theorem dX6_step_80 : decode cX6_step 80 = .ok (.iconst (-1), 1) := by decide +kernel
theorem dX6_step_81 : decode cX6_step 81 = .ok (.invokevirtual 158, 3) := by decide +kernel
theorem dX6_step_84 : decode cX6_step 84 = .ok (.return_, 1) := by decide +kernel
theorem dX6_narrow_0 : decode cX6_narrow 0 = .ok (.lconst 0, 1) := by decide +kernel
theorem dX6_narrow_1 : decode cX6_narrow 1 = .ok (.lstore_n 3, 1) := by decide +kernel
theorem dX6_narrow_2 : decode cX6_narrow 2 = .ok (.iload_n 1, 1) := by decide +kernel
theorem dX6_narrow_3 : decode cX6_narrow 3 = .ok (.iconst 1, 1) := by decide +kernel
theorem dX6_narrow_4 : decode cX6_narrow 4 = .ok (.iadd, 1) := by decide +kernel
theorem dX6_narrow_5 : decode cX6_narrow 5 = .ok (.istore 5, 2) := by decide +kernel
theorem dX6_narrow_7 : decode cX6_narrow 7 = .ok (.iload 5, 2) := by decide +kernel
theorem dX6_narrow_9 : decode cX6_narrow 9 = .ok (.aload_n 0, 1) := by decide +kernel
theorem dX6_narrow_10 : decode cX6_narrow 10 = .ok (.getfield 54, 3) := by decide +kernel
theorem dX6_narrow_13 : decode cX6_narrow 13 = .ok (.if_icmp .ge 72, 3) := by decide +kernel
theorem dX6_narrow_16 : decode cX6_narrow 16 = .ok (.aload_n 0, 1) := by decide +kernel
theorem dX6_narrow_17 : decode cX6_narrow 17 = .ok (.getfield 34, 3) := by decide +kernel
theorem dX6_narrow_20 : decode cX6_narrow 20 = .ok (.iload_n 1, 1) := by decide +kernel
theorem dX6_narrow_21 : decode cX6_narrow 21 = .ok (.iconst 5, 1) := by decide +kernel
theorem dX6_narrow_22 : decode cX6_narrow 22 = .ok (.imul, 1) := by decide +kernel
theorem dX6_narrow_23 : decode cX6_narrow 23 = .ok (.iload 5, 2) := by decide +kernel
theorem dX6_narrow_25 : decode cX6_narrow 25 = .ok (.iadd, 1) := by decide +kernel
theorem dX6_narrow_26 : decode cX6_narrow 26 = .ok (.iaload, 1) := by decide +kernel
theorem dX6_narrow_27 : decode cX6_narrow 27 = .ok (.aload_n 0, 1) := by decide +kernel
theorem dX6_narrow_28 : decode cX6_narrow 28 = .ok (.getfield 31, 3) := by decide +kernel
theorem dX6_narrow_31 : decode cX6_narrow 31 = .ok (.iload_n 1, 1) := by decide +kernel
theorem dX6_narrow_32 : decode cX6_narrow 32 = .ok (.bipush 24, 2) := by decide +kernel
theorem dX6_narrow_34 : decode cX6_narrow 34 = .ok (.imul, 1) := by decide +kernel
theorem dX6_narrow_35 : decode cX6_narrow 35 = .ok (.iload_n 2, 1) := by decide +kernel
theorem dX6_narrow_36 : decode cX6_narrow 36 = .ok (.iadd, 1) := by decide +kernel
theorem dX6_narrow_37 : decode cX6_narrow 37 = .ok (.iconst 5, 1) := by decide +kernel
theorem dX6_narrow_38 : decode cX6_narrow 38 = .ok (.imul, 1) := by decide +kernel
theorem dX6_narrow_39 : decode cX6_narrow 39 = .ok (.iload 5, 2) := by decide +kernel
theorem dX6_narrow_41 : decode cX6_narrow 41 = .ok (.iadd, 1) := by decide +kernel
theorem dX6_narrow_42 : decode cX6_narrow 42 = .ok (.iaload, 1) := by decide +kernel
theorem dX6_narrow_43 : decode cX6_narrow 43 = .ok (.iand, 1) := by decide +kernel
theorem dX6_narrow_44 : decode cX6_narrow 44 = .ok (.istore 6, 2) := by decide +kernel
theorem dX6_narrow_46 : decode cX6_narrow 46 = .ok (.iload 6, 2) := by decide +kernel
theorem dX6_narrow_48 : decode cX6_narrow 48 = .ok (.ifCond .ne 5, 3) := by decide +kernel
theorem dX6_narrow_51 : decode cX6_narrow 51 = .ok (.iconst 0, 1) := by decide +kernel
theorem dX6_narrow_52 : decode cX6_narrow 52 = .ok (.ireturn, 1) := by decide +kernel
theorem dX6_narrow_53 : decode cX6_narrow 53 = .ok (.aload_n 0, 1) := by decide +kernel
theorem dX6_narrow_54 : decode cX6_narrow 54 = .ok (.getfield 34, 3) := by decide +kernel
theorem dX6_narrow_57 : decode cX6_narrow 57 = .ok (.iload_n 1, 1) := by decide +kernel
theorem dX6_narrow_58 : decode cX6_narrow 58 = .ok (.iconst 1, 1) := by decide +kernel
theorem dX6_narrow_59 : decode cX6_narrow 59 = .ok (.iadd, 1) := by decide +kernel
theorem dX6_narrow_60 : decode cX6_narrow 60 = .ok (.iconst 5, 1) := by decide +kernel
theorem dX6_narrow_61 : decode cX6_narrow 61 = .ok (.imul, 1) := by decide +kernel
theorem dX6_narrow_62 : decode cX6_narrow 62 = .ok (.iload 5, 2) := by decide +kernel
theorem dX6_narrow_64 : decode cX6_narrow 64 = .ok (.iadd, 1) := by decide +kernel
theorem dX6_narrow_65 : decode cX6_narrow 65 = .ok (.iload 6, 2) := by decide +kernel
theorem dX6_narrow_67 : decode cX6_narrow 67 = .ok (.iastore, 1) := by decide +kernel
theorem dX6_narrow_68 : decode cX6_narrow 68 = .ok (.lload_n 3, 1) := by decide +kernel
theorem dX6_narrow_69 : decode cX6_narrow 69 = .ok (.aload_n 0, 1) := by decide +kernel
theorem dX6_narrow_70 : decode cX6_narrow 70 = .ok (.iload 5, 2) := by decide +kernel
theorem dX6_narrow_72 : decode cX6_narrow 72 = .ok (.iload 6, 2) := by decide +kernel
theorem dX6_narrow_74 : decode cX6_narrow 74 = .ok (.invokevirtual 85, 3) := by decide +kernel
theorem dX6_narrow_77 : decode cX6_narrow 77 = .ok (.ladd, 1) := by decide +kernel
theorem dX6_narrow_78 : decode cX6_narrow 78 = .ok (.lstore_n 3, 1) := by decide +kernel
theorem dX6_narrow_79 : decode cX6_narrow 79 = .ok (.iinc 5 1, 3) := by decide +kernel
theorem dX6_narrow_82 : decode cX6_narrow 82 = .ok (.goto (-75), 3) := by decide +kernel
theorem dX6_narrow_85 : decode cX6_narrow 85 = .ok (.aload_n 0, 1) := by decide +kernel
theorem dX6_narrow_86 : decode cX6_narrow 86 = .ok (.getfield 37, 3) := by decide +kernel
theorem dX6_narrow_89 : decode cX6_narrow 89 = .ok (.iload_n 1, 1) := by decide +kernel
theorem dX6_narrow_90 : decode cX6_narrow 90 = .ok (.iconst 1, 1) := by decide +kernel
theorem dX6_narrow_91 : decode cX6_narrow 91 = .ok (.iadd, 1) := by decide +kernel
theorem dX6_narrow_92 : decode cX6_narrow 92 = .ok (.lload_n 3, 1) := by decide +kernel
theorem dX6_narrow_93 : decode cX6_narrow 93 = .ok (.lastore, 1) := by decide +kernel
theorem dX6_narrow_94 : decode cX6_narrow 94 = .ok (.iconst 1, 1) := by decide +kernel
theorem dX6_narrow_95 : decode cX6_narrow 95 = .ok (.ireturn, 1) := by decide +kernel
theorem dX6_keepWay_0 : decode cX6_keepWay 0 = .ok (.lload_n 1, 1) := by decide +kernel
theorem dX6_keepWay_1 : decode cX6_keepWay 1 = .ok (.aload_n 0, 1) := by decide +kernel
theorem dX6_keepWay_2 : decode cX6_keepWay 2 = .ok (.getfield 64, 3) := by decide +kernel
theorem dX6_keepWay_5 : decode cX6_keepWay 5 = .ok (.lcmp, 1) := by decide +kernel
theorem dX6_keepWay_6 : decode cX6_keepWay 6 = .ok (.ifCond .ge 40, 3) := by decide +kernel
theorem dX6_keepWay_9 : decode cX6_keepWay 9 = .ok (.aload_n 0, 1) := by decide +kernel
theorem dX6_keepWay_10 : decode cX6_keepWay 10 = .ok (.getfield 40, 3) := by decide +kernel
theorem dX6_keepWay_13 : decode cX6_keepWay 13 = .ok (.iconst 0, 1) := by decide +kernel
theorem dX6_keepWay_14 : decode cX6_keepWay 14 = .ok (.aload_n 0, 1) := by decide +kernel
theorem dX6_keepWay_15 : decode cX6_keepWay 15 = .ok (.getfield 43, 3) := by decide +kernel
theorem dX6_keepWay_18 : decode cX6_keepWay 18 = .ok (.iconst 0, 1) := by decide +kernel
theorem dX6_keepWay_19 : decode cX6_keepWay 19 = .ok (.iconst 5, 1) := by decide +kernel
theorem dX6_keepWay_20 : decode cX6_keepWay 20 = .ok (.invokestatic 162, 3) := by decide +kernel
theorem dX6_keepWay_23 : decode cX6_keepWay 23 = .ok (.aload_n 0, 1) := by decide +kernel
theorem dX6_keepWay_24 : decode cX6_keepWay 24 = .ok (.lload_n 1, 1) := by decide +kernel
theorem dX6_keepWay_25 : decode cX6_keepWay 25 = .ok (.putfield 58, 3) := by decide +kernel
theorem dX6_keepWay_28 : decode cX6_keepWay 28 = .ok (.aload_n 0, 1) := by decide +kernel
theorem dX6_keepWay_29 : decode cX6_keepWay 29 = .ok (.aload_n 0, 1) := by decide +kernel
theorem dX6_keepWay_30 : decode cX6_keepWay 30 = .ok (.getfield 67, 3) := by decide +kernel
theorem dX6_keepWay_33 : decode cX6_keepWay 33 = .ok (.ifCond .eq 9, 3) := by decide +kernel
theorem dX6_keepWay_36 : decode cX6_keepWay 36 = .ok (.ldc2_w 168, 3) := by decide +kernel
theorem dX6_keepWay_39 : decode cX6_keepWay 39 = .ok (.goto 4, 3) := by decide +kernel
theorem dX6_keepWay_42 : decode cX6_keepWay 42 = .ok (.lload_n 1, 1) := by decide +kernel
theorem dX6_keepWay_43 : decode cX6_keepWay 43 = .ok (.putfield 64, 3) := by decide +kernel
theorem dX6_keepWay_46 : decode cX6_keepWay 46 = .ok (.return_, 1) := by decide +kernel
theorem dX7_init_0 : decode cX7_init 0 = .ok (.aload_n 0, 1) := by decide +kernel
theorem dX7_init_1 : decode cX7_init 1 = .ok (.invokespecial 3, 3) := by decide +kernel
theorem dX7_init_4 : decode cX7_init 4 = .ok (.aload_n 0, 1) := by decide +kernel
theorem dX7_init_5 : decode cX7_init 5 = .ok (.bipush 6, 2) := by decide +kernel
theorem dX7_init_7 : decode cX7_init 7 = .ok (.newarray .int, 2) := by decide +kernel
theorem dX7_init_9 : decode cX7_init 9 = .ok (.putfield 9, 3) := by decide +kernel
theorem dX7_init_12 : decode cX7_init 12 = .ok (.aload_n 0, 1) := by decide +kernel
theorem dX7_init_13 : decode cX7_init 13 = .ok (.bipush 6, 2) := by decide +kernel
theorem dX7_init_15 : decode cX7_init 15 = .ok (.newarray .int, 2) := by decide +kernel
theorem dX7_init_17 : decode cX7_init 17 = .ok (.putfield 15, 3) := by decide +kernel
theorem dX7_init_20 : decode cX7_init 20 = .ok (.aload_n 0, 1) := by decide +kernel
theorem dX7_init_21 : decode cX7_init 21 = .ok (.bipush 6, 2) := by decide +kernel
theorem dX7_init_23 : decode cX7_init 23 = .ok (.newarray .int, 2) := by decide +kernel
theorem dX7_init_25 : decode cX7_init 25 = .ok (.putfield 18, 3) := by decide +kernel
theorem dX7_init_28 : decode cX7_init 28 = .ok (.aload_n 0, 1) := by decide +kernel
theorem dX7_init_29 : decode cX7_init 29 = .ok (.bipush 6, 2) := by decide +kernel
theorem dX7_init_31 : decode cX7_init 31 = .ok (.newarray .int, 2) := by decide +kernel
theorem dX7_init_33 : decode cX7_init 33 = .ok (.putfield 21, 3) := by decide +kernel
theorem dX7_init_36 : decode cX7_init 36 = .ok (.aload_n 0, 1) := by decide +kernel
theorem dX7_init_37 : decode cX7_init 37 = .ok (.bipush 6, 2) := by decide +kernel
theorem dX7_init_39 : decode cX7_init 39 = .ok (.newarray .int, 2) := by decide +kernel
theorem dX7_init_41 : decode cX7_init 41 = .ok (.putfield 24, 3) := by decide +kernel
theorem dX7_init_44 : decode cX7_init 44 = .ok (.aload_n 0, 1) := by decide +kernel
theorem dX7_init_45 : decode cX7_init 45 = .ok (.bipush 6, 2) := by decide +kernel
theorem dX7_init_47 : decode cX7_init 47 = .ok (.newarray .int, 2) := by decide +kernel
theorem dX7_init_49 : decode cX7_init 49 = .ok (.putfield 27, 3) := by decide +kernel
theorem dX7_init_52 : decode cX7_init 52 = .ok (.aload_n 0, 1) := by decide +kernel
theorem dX7_init_53 : decode cX7_init 53 = .ok (.bipush 6, 2) := by decide +kernel
theorem dX7_init_55 : decode cX7_init 55 = .ok (.newarray .int, 2) := by decide +kernel
theorem dX7_init_57 : decode cX7_init 57 = .ok (.putfield 30, 3) := by decide +kernel
theorem dX7_init_60 : decode cX7_init 60 = .ok (.aload_n 0, 1) := by decide +kernel
theorem dX7_init_61 : decode cX7_init 61 = .ok (.bipush 41, 2) := by decide +kernel
theorem dX7_init_63 : decode cX7_init 63 = .ok (.newarray .long, 2) := by decide +kernel
theorem dX7_init_65 : decode cX7_init 65 = .ok (.putfield 33, 3) := by decide +kernel
theorem dX7_init_68 : decode cX7_init 68 = .ok (.aload_n 0, 1) := by decide +kernel
theorem dX7_init_69 : decode cX7_init 69 = .ok (.bipush 41, 2) := by decide +kernel
theorem dX7_init_71 : decode cX7_init 71 = .ok (.newarray .long, 2) := by decide +kernel
theorem dX7_init_73 : decode cX7_init 73 = .ok (.putfield 37, 3) := by decide +kernel
theorem dX7_init_76 : decode cX7_init 76 = .ok (.aload_n 0, 1) := by decide +kernel
theorem dX7_init_77 : decode cX7_init 77 = .ok (.sipush 1968, 3) := by decide +kernel
theorem dX7_init_80 : decode cX7_init 80 = .ok (.newarray .int, 2) := by decide +kernel
theorem dX7_init_82 : decode cX7_init 82 = .ok (.putfield 40, 3) := by decide +kernel
theorem dX7_init_85 : decode cX7_init 85 = .ok (.aload_n 0, 1) := by decide +kernel
theorem dX7_init_86 : decode cX7_init 86 = .ok (.bipush 48, 2) := by decide +kernel
theorem dX7_init_88 : decode cX7_init 88 = .ok (.newarray .int, 2) := by decide +kernel
theorem dX7_init_90 : decode cX7_init 90 = .ok (.putfield 43, 3) := by decide +kernel
theorem dX7_init_93 : decode cX7_init 93 = .ok (.aload_n 0, 1) := by decide +kernel
theorem dX7_init_94 : decode cX7_init 94 = .ok (.bipush 48, 2) := by decide +kernel
theorem dX7_init_96 : decode cX7_init 96 = .ok (.newarray .int, 2) := by decide +kernel
theorem dX7_init_98 : decode cX7_init 98 = .ok (.putfield 46, 3) := by decide +kernel
theorem dX7_init_101 : decode cX7_init 101 = .ok (.aload_n 0, 1) := by decide +kernel
theorem dX7_init_102 : decode cX7_init 102 = .ok (.aload_n 1, 1) := by decide +kernel
theorem dX7_init_103 : decode cX7_init 103 = .ok (.putfield 49, 3) := by decide +kernel
theorem dX7_init_106 : decode cX7_init 106 = .ok (.aload_n 0, 1) := by decide +kernel
theorem dX7_init_107 : decode cX7_init 107 = .ok (.aload_n 2, 1) := by decide +kernel
theorem dX7_init_108 : decode cX7_init 108 = .ok (.putfield 53, 3) := by decide +kernel
theorem dX7_init_111 : decode cX7_init 111 = .ok (.aload_n 0, 1) := by decide +kernel
theorem dX7_init_112 : decode cX7_init 112 = .ok (.iconst 0, 1) := by decide +kernel
theorem dX7_init_113 : decode cX7_init 113 = .ok (.putfield 57, 3) := by decide +kernel
theorem dX7_init_116 : decode cX7_init 116 = .ok (.aload_n 0, 1) := by decide +kernel
theorem dX7_init_117 : decode cX7_init 117 = .ok (.iconst 0, 1) := by decide +kernel
theorem dX7_init_118 : decode cX7_init 118 = .ok (.putfield 61, 3) := by decide +kernel
theorem dX7_init_121 : decode cX7_init 121 = .ok (.return_, 1) := by decide +kernel
theorem dX7_has_0 : decode cX7_has 0 = .ok (.iload_n 1, 1) := by decide +kernel
theorem dX7_has_1 : decode cX7_has 1 = .ok (.ifCond .lt 15, 3) := by decide +kernel
theorem dX7_has_4 : decode cX7_has 4 = .ok (.iload_n 1, 1) := by decide +kernel
theorem dX7_has_5 : decode cX7_has 5 = .ok (.aload_n 0, 1) := by decide +kernel
theorem dX7_has_6 : decode cX7_has 6 = .ok (.getfield 57, 3) := by decide +kernel
theorem dX7_has_9 : decode cX7_has 9 = .ok (.if_icmp .ge 7, 3) := by decide +kernel
theorem dX7_has_12 : decode cX7_has 12 = .ok (.iconst 1, 1) := by decide +kernel
theorem dX7_has_13 : decode cX7_has 13 = .ok (.goto 4, 3) := by decide +kernel
theorem dX7_has_16 : decode cX7_has 16 = .ok (.iconst 0, 1) := by decide +kernel
theorem dX7_has_17 : decode cX7_has 17 = .ok (.ireturn, 1) := by decide +kernel
theorem dX7_mostOf_0 : decode cX7_mostOf 0 = .ok (.aload_n 0, 1) := by decide +kernel
theorem dX7_mostOf_1 : decode cX7_mostOf 1 = .ok (.iload_n 1, 1) := by decide +kernel
theorem dX7_mostOf_2 : decode cX7_mostOf 2 = .ok (.invokevirtual 64, 3) := by decide +kernel
theorem dX7_mostOf_5 : decode cX7_mostOf 5 = .ok (.ifCond .eq 12, 3) := by decide +kernel
theorem dX7_mostOf_8 : decode cX7_mostOf 8 = .ok (.aload_n 0, 1) := by decide +kernel
theorem dX7_mostOf_9 : decode cX7_mostOf 9 = .ok (.getfield 15, 3) := by decide +kernel
theorem dX7_mostOf_12 : decode cX7_mostOf 12 = .ok (.iload_n 1, 1) := by decide +kernel
theorem dX7_mostOf_13 : decode cX7_mostOf 13 = .ok (.iaload, 1) := by decide +kernel
theorem dX7_mostOf_14 : decode cX7_mostOf 14 = .ok (.goto 5, 3) := by decide +kernel
theorem dX7_mostOf_17 : decode cX7_mostOf 17 = .ok (.bipush 40, 2) := by decide +kernel
theorem dX7_mostOf_19 : decode cX7_mostOf 19 = .ok (.ireturn, 1) := by decide +kernel
theorem dX7_add_0 : decode cX7_add 0 = .ok (.aload_n 0, 1) := by decide +kernel
theorem dX7_add_1 : decode cX7_add 1 = .ok (.getfield 9, 3) := by decide +kernel
theorem dX7_add_4 : decode cX7_add 4 = .ok (.aload_n 0, 1) := by decide +kernel
theorem dX7_add_5 : decode cX7_add 5 = .ok (.getfield 57, 3) := by decide +kernel
theorem dX7_add_8 : decode cX7_add 8 = .ok (.iload_n 1, 1) := by decide +kernel
theorem dX7_add_9 : decode cX7_add 9 = .ok (.iastore, 1) := by decide +kernel
theorem dX7_add_10 : decode cX7_add 10 = .ok (.aload_n 0, 1) := by decide +kernel
theorem dX7_add_11 : decode cX7_add 11 = .ok (.getfield 15, 3) := by decide +kernel
theorem dX7_add_14 : decode cX7_add 14 = .ok (.aload_n 0, 1) := by decide +kernel
theorem dX7_add_15 : decode cX7_add 15 = .ok (.getfield 57, 3) := by decide +kernel
theorem dX7_add_18 : decode cX7_add 18 = .ok (.iload_n 2, 1) := by decide +kernel
theorem dX7_add_19 : decode cX7_add 19 = .ok (.iastore, 1) := by decide +kernel
theorem dX7_add_20 : decode cX7_add 20 = .ok (.aload_n 0, 1) := by decide +kernel
theorem dX7_add_21 : decode cX7_add 21 = .ok (.getfield 18, 3) := by decide +kernel
theorem dX7_add_24 : decode cX7_add 24 = .ok (.aload_n 0, 1) := by decide +kernel
theorem dX7_add_25 : decode cX7_add 25 = .ok (.getfield 57, 3) := by decide +kernel
theorem dX7_add_28 : decode cX7_add 28 = .ok (.iload_n 3, 1) := by decide +kernel
theorem dX7_add_29 : decode cX7_add 29 = .ok (.iastore, 1) := by decide +kernel
theorem dX7_add_30 : decode cX7_add 30 = .ok (.aload_n 0, 1) := by decide +kernel
theorem dX7_add_31 : decode cX7_add 31 = .ok (.dup, 1) := by decide +kernel
theorem dX7_add_32 : decode cX7_add 32 = .ok (.getfield 57, 3) := by decide +kernel
theorem dX7_add_35 : decode cX7_add 35 = .ok (.iconst 1, 1) := by decide +kernel
theorem dX7_add_36 : decode cX7_add 36 = .ok (.iadd, 1) := by decide +kernel
theorem dX7_add_37 : decode cX7_add 37 = .ok (.putfield 57, 3) := by decide +kernel
theorem dX7_add_40 : decode cX7_add 40 = .ok (.aload_n 0, 1) := by decide +kernel
theorem dX7_add_41 : decode cX7_add 41 = .ok (.getfield 57, 3) := by decide +kernel
theorem dX7_add_44 : decode cX7_add 44 = .ok (.iconst 1, 1) := by decide +kernel
theorem dX7_add_45 : decode cX7_add 45 = .ok (.isub, 1) := by decide +kernel
theorem dX7_add_46 : decode cX7_add 46 = .ok (.ireturn, 1) := by decide +kernel
theorem dX7_setFlow_0 : decode cX7_setFlow 0 = .ok (.aload_n 0, 1) := by decide +kernel
theorem dX7_setFlow_1 : decode cX7_setFlow 1 = .ok (.getfield 21, 3) := by decide +kernel
theorem dX7_setFlow_4 : decode cX7_setFlow 4 = .ok (.iload_n 1, 1) := by decide +kernel
theorem dX7_setFlow_5 : decode cX7_setFlow 5 = .ok (.iload_n 2, 1) := by decide +kernel
theorem dX7_setFlow_6 : decode cX7_setFlow 6 = .ok (.iastore, 1) := by decide +kernel
theorem dX7_setFlow_7 : decode cX7_setFlow 7 = .ok (.aload_n 0, 1) := by decide +kernel
theorem dX7_setFlow_8 : decode cX7_setFlow 8 = .ok (.getfield 24, 3) := by decide +kernel
theorem dX7_setFlow_11 : decode cX7_setFlow 11 = .ok (.iload_n 1, 1) := by decide +kernel
theorem dX7_setFlow_12 : decode cX7_setFlow 12 = .ok (.iload_n 3, 1) := by decide +kernel
theorem dX7_setFlow_13 : decode cX7_setFlow 13 = .ok (.iastore, 1) := by decide +kernel
theorem dX7_setFlow_14 : decode cX7_setFlow 14 = .ok (.aload_n 0, 1) := by decide +kernel
theorem dX7_setFlow_15 : decode cX7_setFlow 15 = .ok (.getfield 27, 3) := by decide +kernel
theorem dX7_setFlow_18 : decode cX7_setFlow 18 = .ok (.iload_n 1, 1) := by decide +kernel
theorem dX7_setFlow_19 : decode cX7_setFlow 19 = .ok (.iload 4, 2) := by decide +kernel
theorem dX7_setFlow_21 : decode cX7_setFlow 21 = .ok (.iastore, 1) := by decide +kernel
theorem dX7_setFlow_22 : decode cX7_setFlow 22 = .ok (.aload_n 0, 1) := by decide +kernel
theorem dX7_setFlow_23 : decode cX7_setFlow 23 = .ok (.getfield 30, 3) := by decide +kernel
theorem dX7_setFlow_26 : decode cX7_setFlow 26 = .ok (.iload_n 1, 1) := by decide +kernel
theorem dX7_setFlow_27 : decode cX7_setFlow 27 = .ok (.iload 5, 2) := by decide +kernel
theorem dX7_setFlow_29 : decode cX7_setFlow 29 = .ok (.iastore, 1) := by decide +kernel
theorem dX7_setFlow_30 : decode cX7_setFlow 30 = .ok (.return_, 1) := by decide +kernel
theorem dX7_cheapest_0 : decode cX7_cheapest 0 = .ok (.iconst 0, 1) := by decide +kernel
theorem dX7_cheapest_1 : decode cX7_cheapest 1 = .ok (.istore 5, 2) := by decide +kernel
theorem dX7_cheapest_3 : decode cX7_cheapest 3 = .ok (.iload 5, 2) := by decide +kernel
theorem dX7_cheapest_5 : decode cX7_cheapest 5 = .ok (.aload_n 0, 1) := by decide +kernel
theorem dX7_cheapest_6 : decode cX7_cheapest 6 = .ok (.getfield 15, 3) := by decide +kernel
theorem dX7_cheapest_9 : decode cX7_cheapest 9 = .ok (.iload_n 1, 1) := by decide +kernel
theorem dX7_cheapest_10 : decode cX7_cheapest 10 = .ok (.iaload, 1) := by decide +kernel
theorem dX7_cheapest_11 : decode cX7_cheapest 11 = .ok (.if_icmp .gt 30, 3) := by decide +kernel
theorem dX7_cheapest_14 : decode cX7_cheapest 14 = .ok (.aload_n 0, 1) := by decide +kernel
theorem dX7_cheapest_15 : decode cX7_cheapest 15 = .ok (.getfield 37, 3) := by decide +kernel
theorem dX7_cheapest_18 : decode cX7_cheapest 18 = .ok (.iload 5, 2) := by decide +kernel
theorem dX7_cheapest_20 : decode cX7_cheapest 20 = .ok (.iload 5, 2) := by decide +kernel
theorem dX7_cheapest_22 : decode cX7_cheapest 22 = .ok (.iload 4, 2) := by decide +kernel
theorem dX7_cheapest_24 : decode cX7_cheapest 24 = .ok (.if_icmp .lt 7, 3) := by decide +kernel
theorem dX7_cheapest_27 : decode cX7_cheapest 27 = .ok (.lconst 0, 1) := by decide +kernel
theorem dX7_cheapest_28 : decode cX7_cheapest 28 = .ok (.goto 6, 3) := by decide +kernel
theorem dX7_cheapest_31 : decode cX7_cheapest 31 = .ok (.ldc2_w 68, 3) := by decide +kernel
theorem dX7_cheapest_34 : decode cX7_cheapest 34 = .ok (.lastore, 1) := by decide +kernel
theorem dX7_cheapest_35 : decode cX7_cheapest 35 = .ok (.iinc 5 1, 3) := by decide +kernel
theorem dX7_cheapest_38 : decode cX7_cheapest 38 = .ok (.goto (-35), 3) := by decide +kernel
theorem dX7_cheapest_41 : decode cX7_cheapest 41 = .ok (.iload_n 3, 1) := by decide +kernel
theorem dX7_cheapest_42 : decode cX7_cheapest 42 = .ok (.iconst 1, 1) := by decide +kernel
theorem dX7_cheapest_43 : decode cX7_cheapest 43 = .ok (.isub, 1) := by decide +kernel
theorem dX7_cheapest_44 : decode cX7_cheapest 44 = .ok (.istore 5, 2) := by decide +kernel
theorem dX7_cheapest_46 : decode cX7_cheapest 46 = .ok (.iload 5, 2) := by decide +kernel
theorem dX7_cheapest_48 : decode cX7_cheapest 48 = .ok (.ifCond .lt 38, 3) := by decide +kernel
theorem dX7_cheapest_51 : decode cX7_cheapest 51 = .ok (.aload_n 0, 1) := by decide +kernel
theorem dX7_cheapest_52 : decode cX7_cheapest 52 = .ok (.iload_n 1, 1) := by decide +kernel
theorem dX7_cheapest_53 : decode cX7_cheapest 53 = .ok (.iload_n 2, 1) := by decide +kernel
theorem dX7_cheapest_54 : decode cX7_cheapest 54 = .ok (.iload 5, 2) := by decide +kernel
theorem dX7_cheapest_56 : decode cX7_cheapest 56 = .ok (.iadd, 1) := by decide +kernel
theorem dX7_cheapest_57 : decode cX7_cheapest 57 = .ok (.iload 5, 2) := by decide +kernel
theorem dX7_cheapest_59 : decode cX7_cheapest 59 = .ok (.bipush 41, 2) := by decide +kernel
theorem dX7_cheapest_61 : decode cX7_cheapest 61 = .ok (.imul, 1) := by decide +kernel
theorem dX7_cheapest_62 : decode cX7_cheapest 62 = .ok (.invokevirtual 70, 3) := by decide +kernel
theorem dX7_cheapest_65 : decode cX7_cheapest 65 = .ok (.aload_n 0, 1) := by decide +kernel
theorem dX7_cheapest_66 : decode cX7_cheapest 66 = .ok (.getfield 33, 3) := by decide +kernel
theorem dX7_cheapest_69 : decode cX7_cheapest 69 = .ok (.iconst 0, 1) := by decide +kernel
theorem dX7_cheapest_70 : decode cX7_cheapest 70 = .ok (.aload_n 0, 1) := by decide +kernel
theorem dX7_cheapest_71 : decode cX7_cheapest 71 = .ok (.getfield 37, 3) := by decide +kernel
theorem dX7_cheapest_74 : decode cX7_cheapest 74 = .ok (.iconst 0, 1) := by decide +kernel
theorem dX7_cheapest_75 : decode cX7_cheapest 75 = .ok (.bipush 41, 2) := by decide +kernel
theorem dX7_cheapest_77 : decode cX7_cheapest 77 = .ok (.invokestatic 74, 3) := by decide +kernel
theorem dX7_cheapest_80 : decode cX7_cheapest 80 = .ok (.iinc 5 (-1), 3) := by decide +kernel
theorem dX7_cheapest_83 : decode cX7_cheapest 83 = .ok (.goto (-37), 3) := by decide +kernel
theorem dX7_cheapest_86 : decode cX7_cheapest 86 = .ok (.aload_n 0, 1) := by decide +kernel
theorem dX7_cheapest_87 : decode cX7_cheapest 87 = .ok (.getfield 37, 3) := by decide +kernel
theorem dX7_cheapest_90 : decode cX7_cheapest 90 = .ok (.aload_n 0, 1) := by decide +kernel
theorem dX7_cheapest_91 : decode cX7_cheapest 91 = .ok (.getfield 18, 3) := by decide +kernel
theorem dX7_cheapest_94 : decode cX7_cheapest 94 = .ok (.iload_n 1, 1) := by decide +kernel
theorem dX7_cheapest_95 : decode cX7_cheapest 95 = .ok (.iaload, 1) := by decide +kernel
theorem dX7_cheapest_96 : decode cX7_cheapest 96 = .ok (.laload, 1) := by decide +kernel
theorem dX7_cheapest_97 : decode cX7_cheapest 97 = .ok (.lreturn, 1) := by decide +kernel
theorem dX7_choose_0 : decode cX7_choose 0 = .ok (.aload_n 0, 1) := by decide +kernel
theorem dX7_choose_1 : decode cX7_choose 1 = .ok (.iload_n 1, 1) := by decide +kernel
theorem dX7_choose_2 : decode cX7_choose 2 = .ok (.iload_n 2, 1) := by decide +kernel
theorem dX7_choose_3 : decode cX7_choose 3 = .ok (.invokevirtual 80, 3) := by decide +kernel
theorem dX7_choose_6 : decode cX7_choose 6 = .ok (.ineg, 1) := by decide +kernel
theorem dX7_choose_7 : decode cX7_choose 7 = .ok (.istore 4, 2) := by decide +kernel
theorem dX7_choose_9 : decode cX7_choose 9 = .ok (.aload_n 0, 1) := by decide +kernel
theorem dX7_choose_10 : decode cX7_choose 10 = .ok (.iload_n 1, 1) := by decide +kernel
theorem dX7_choose_11 : decode cX7_choose 11 = .ok (.iload_n 2, 1) := by decide +kernel
theorem dX7_choose_12 : decode cX7_choose 12 = .ok (.invokevirtual 84, 3) := by decide +kernel
theorem dX7_choose_15 : decode cX7_choose 15 = .ok (.istore 5, 2) := by decide +kernel
theorem dX7_choose_17 : decode cX7_choose 17 = .ok (.aload_n 0, 1) := by decide +kernel
theorem dX7_choose_18 : decode cX7_choose 18 = .ok (.getfield 30, 3) := by decide +kernel
theorem dX7_choose_21 : decode cX7_choose 21 = .ok (.iload_n 1, 1) := by decide +kernel
theorem dX7_choose_22 : decode cX7_choose 22 = .ok (.iaload, 1) := by decide +kernel
theorem dX7_choose_23 : decode cX7_choose 23 = .ok (.aload_n 0, 1) := by decide +kernel
theorem dX7_choose_24 : decode cX7_choose 24 = .ok (.getfield 49, 3) := by decide +kernel
theorem dX7_choose_27 : decode cX7_choose 27 = .ok (.getfield 87, 3) := by decide +kernel
theorem dX7_choose_30 : decode cX7_choose 30 = .ok (.iload_n 2, 1) := by decide +kernel
theorem dX7_choose_31 : decode cX7_choose 31 = .ok (.iaload, 1) := by decide +kernel
theorem dX7_choose_32 : decode cX7_choose 32 = .ok (.imul, 1) := by decide +kernel
theorem dX7_choose_33 : decode cX7_choose 33 = .ok (.istore 6, 2) := by decide +kernel
theorem dX7_choose_35 : decode cX7_choose 35 = .ok (.iconst 0, 1) := by decide +kernel
theorem dX7_choose_36 : decode cX7_choose 36 = .ok (.istore 7, 2) := by decide +kernel
theorem dX7_choose_38 : decode cX7_choose 38 = .ok (.iload 7, 2) := by decide +kernel
theorem dX7_choose_40 : decode cX7_choose 40 = .ok (.aload_n 0, 1) := by decide +kernel
theorem dX7_choose_41 : decode cX7_choose 41 = .ok (.getfield 15, 3) := by decide +kernel
theorem dX7_choose_44 : decode cX7_choose 44 = .ok (.iload_n 1, 1) := by decide +kernel
theorem dX7_choose_45 : decode cX7_choose 45 = .ok (.iaload, 1) := by decide +kernel
theorem dX7_choose_46 : decode cX7_choose 46 = .ok (.if_icmp .gt 153, 3) := by decide +kernel
theorem dX7_choose_49 : decode cX7_choose 49 = .ok (.iload 4, 2) := by decide +kernel
theorem dX7_choose_51 : decode cX7_choose 51 = .ok (.iload 7, 2) := by decide +kernel
theorem dX7_choose_53 : decode cX7_choose 53 = .ok (.ineg, 1) := by decide +kernel
theorem dX7_choose_54 : decode cX7_choose 54 = .ok (.invokestatic 92, 3) := by decide +kernel
theorem dX7_choose_57 : decode cX7_choose 57 = .ok (.istore 8, 2) := by decide +kernel
theorem dX7_choose_59 : decode cX7_choose 59 = .ok (.iload 5, 2) := by decide +kernel
theorem dX7_choose_61 : decode cX7_choose 61 = .ok (.aload_n 0, 1) := by decide +kernel
theorem dX7_choose_62 : decode cX7_choose 62 = .ok (.getfield 15, 3) := by decide +kernel
theorem dX7_choose_65 : decode cX7_choose 65 = .ok (.iload_n 1, 1) := by decide +kernel
theorem dX7_choose_66 : decode cX7_choose 66 = .ok (.iaload, 1) := by decide +kernel
theorem dX7_choose_67 : decode cX7_choose 67 = .ok (.iload 7, 2) := by decide +kernel
theorem dX7_choose_69 : decode cX7_choose 69 = .ok (.isub, 1) := by decide +kernel
theorem dX7_choose_70 : decode cX7_choose 70 = .ok (.invokestatic 97, 3) := by decide +kernel
theorem dX7_choose_73 : decode cX7_choose 73 = .ok (.istore 9, 2) := by decide +kernel
theorem dX7_choose_75 : decode cX7_choose 75 = .ok (.aload_n 0, 1) := by decide +kernel
theorem dX7_choose_76 : decode cX7_choose 76 = .ok (.getfield 33, 3) := by decide +kernel
theorem dX7_choose_79 : decode cX7_choose 79 = .ok (.iload 7, 2) := by decide +kernel
theorem dX7_choose_81 : decode cX7_choose 81 = .ok (.ldc2_w 68, 3) := by decide +kernel
theorem dX7_choose_84 : decode cX7_choose 84 = .ok (.lastore, 1) := by decide +kernel
theorem dX7_choose_85 : decode cX7_choose 85 = .ok (.aload_n 0, 1) := by decide +kernel
theorem dX7_choose_86 : decode cX7_choose 86 = .ok (.getfield 40, 3) := by decide +kernel
theorem dX7_choose_89 : decode cX7_choose 89 = .ok (.iload_n 3, 1) := by decide +kernel
theorem dX7_choose_90 : decode cX7_choose 90 = .ok (.iload 7, 2) := by decide +kernel
theorem dX7_choose_92 : decode cX7_choose 92 = .ok (.iadd, 1) := by decide +kernel
theorem dX7_choose_93 : decode cX7_choose 93 = .ok (.iconst 0, 1) := by decide +kernel
theorem dX7_choose_94 : decode cX7_choose 94 = .ok (.iastore, 1) := by decide +kernel
theorem dX7_choose_95 : decode cX7_choose 95 = .ok (.iload 8, 2) := by decide +kernel
theorem dX7_choose_97 : decode cX7_choose 97 = .ok (.istore 10, 2) := by decide +kernel
theorem dX7_choose_99 : decode cX7_choose 99 = .ok (.iload 10, 2) := by decide +kernel
theorem dX7_choose_101 : decode cX7_choose 101 = .ok (.iload 9, 2) := by decide +kernel
theorem dX7_choose_103 : decode cX7_choose 103 = .ok (.if_icmp .gt 90, 3) := by decide +kernel
theorem dX7_choose_106 : decode cX7_choose 106 = .ok (.aload_n 0, 1) := by decide +kernel
theorem dX7_choose_107 : decode cX7_choose 107 = .ok (.getfield 37, 3) := by decide +kernel
theorem dX7_choose_110 : decode cX7_choose 110 = .ok (.iconst 0, 1) := by decide +kernel
theorem dX7_choose_111 : decode cX7_choose 111 = .ok (.iload 7, 2) := by decide +kernel
theorem dX7_choose_113 : decode cX7_choose 113 = .ok (.iload 10, 2) := by decide +kernel
theorem dX7_choose_115 : decode cX7_choose 115 = .ok (.iadd, 1) := by decide +kernel
theorem dX7_choose_116 : decode cX7_choose 116 = .ok (.aload_n 0, 1) := by decide +kernel
theorem dX7_choose_117 : decode cX7_choose 117 = .ok (.getfield 27, 3) := by decide +kernel
theorem dX7_choose_120 : decode cX7_choose 120 = .ok (.iload_n 1, 1) := by decide +kernel
theorem dX7_choose_121 : decode cX7_choose 121 = .ok (.iaload, 1) := by decide +kernel
theorem dX7_choose_122 : decode cX7_choose 122 = .ok (.isub, 1) := by decide +kernel
theorem dX7_choose_123 : decode cX7_choose 123 = .ok (.invokestatic 92, 3) := by decide +kernel
theorem dX7_choose_126 : decode cX7_choose 126 = .ok (.laload, 1) := by decide +kernel
theorem dX7_choose_127 : decode cX7_choose 127 = .ok (.lstore 11, 2) := by decide +kernel
theorem dX7_choose_129 : decode cX7_choose 129 = .ok (.lload 11, 2) := by decide +kernel
theorem dX7_choose_131 : decode cX7_choose 131 = .ok (.ldc2_w 68, 3) := by decide +kernel
theorem dX7_choose_134 : decode cX7_choose 134 = .ok (.lcmp, 1) := by decide +kernel
theorem dX7_choose_135 : decode cX7_choose 135 = .ok (.ifCond .eq 52, 3) := by decide +kernel
theorem dX7_choose_138 : decode cX7_choose 138 = .ok (.lload 11, 2) := by decide +kernel
theorem dX7_choose_140 : decode cX7_choose 140 = .ok (.iload 10, 2) := by decide +kernel
theorem dX7_choose_142 : decode cX7_choose 142 = .ok (.i2l, 1) := by decide +kernel
theorem dX7_choose_143 : decode cX7_choose 143 = .ok (.iload 6, 2) := by decide +kernel
theorem dX7_choose_145 : decode cX7_choose 145 = .ok (.i2l, 1) := by decide +kernel
theorem dX7_choose_146 : decode cX7_choose 146 = .ok (.lmul, 1) := by decide +kernel
theorem dX7_choose_147 : decode cX7_choose 147 = .ok (.ladd, 1) := by decide +kernel
theorem dX7_choose_148 : decode cX7_choose 148 = .ok (.aload_n 0, 1) := by decide +kernel
theorem dX7_choose_149 : decode cX7_choose 149 = .ok (.getfield 33, 3) := by decide +kernel
theorem dX7_choose_152 : decode cX7_choose 152 = .ok (.iload 7, 2) := by decide +kernel
theorem dX7_choose_154 : decode cX7_choose 154 = .ok (.laload, 1) := by decide +kernel
theorem dX7_choose_155 : decode cX7_choose 155 = .ok (.lcmp, 1) := by decide +kernel
theorem dX7_choose_156 : decode cX7_choose 156 = .ok (.ifCond .ge 31, 3) := by decide +kernel
theorem dX7_choose_159 : decode cX7_choose 159 = .ok (.aload_n 0, 1) := by decide +kernel
theorem dX7_choose_160 : decode cX7_choose 160 = .ok (.getfield 33, 3) := by decide +kernel
theorem dX7_choose_163 : decode cX7_choose 163 = .ok (.iload 7, 2) := by decide +kernel
theorem dX7_choose_165 : decode cX7_choose 165 = .ok (.lload 11, 2) := by decide +kernel
theorem dX7_choose_167 : decode cX7_choose 167 = .ok (.iload 10, 2) := by decide +kernel
theorem dX7_choose_169 : decode cX7_choose 169 = .ok (.i2l, 1) := by decide +kernel
theorem dX7_choose_170 : decode cX7_choose 170 = .ok (.iload 6, 2) := by decide +kernel
theorem dX7_choose_172 : decode cX7_choose 172 = .ok (.i2l, 1) := by decide +kernel
theorem dX7_choose_173 : decode cX7_choose 173 = .ok (.lmul, 1) := by decide +kernel
theorem dX7_choose_174 : decode cX7_choose 174 = .ok (.ladd, 1) := by decide +kernel
theorem dX7_choose_175 : decode cX7_choose 175 = .ok (.lastore, 1) := by decide +kernel
theorem dX7_choose_176 : decode cX7_choose 176 = .ok (.aload_n 0, 1) := by decide +kernel
theorem dX7_choose_177 : decode cX7_choose 177 = .ok (.getfield 40, 3) := by decide +kernel
theorem dX7_choose_180 : decode cX7_choose 180 = .ok (.iload_n 3, 1) := by decide +kernel
theorem dX7_choose_181 : decode cX7_choose 181 = .ok (.iload 7, 2) := by decide +kernel
theorem dX7_choose_183 : decode cX7_choose 183 = .ok (.iadd, 1) := by decide +kernel
theorem dX7_choose_184 : decode cX7_choose 184 = .ok (.iload 10, 2) := by decide +kernel
theorem dX7_choose_186 : decode cX7_choose 186 = .ok (.iastore, 1) := by decide +kernel
theorem dX7_choose_187 : decode cX7_choose 187 = .ok (.iinc 10 1, 3) := by decide +kernel
theorem dX7_choose_190 : decode cX7_choose 190 = .ok (.goto (-91), 3) := by decide +kernel
theorem dX7_choose_193 : decode cX7_choose 193 = .ok (.iinc 7 1, 3) := by decide +kernel
theorem dX7_choose_196 : decode cX7_choose 196 = .ok (.goto (-158), 3) := by decide +kernel
theorem dX7_choose_199 : decode cX7_choose 199 = .ok (.return_, 1) := by decide +kernel
theorem dX7_mostIn_0 : decode cX7_mostIn 0 = .ok (.aload_n 0, 1) := by decide +kernel
theorem dX7_mostIn_1 : decode cX7_mostIn 1 = .ok (.getfield 53, 3) := by decide +kernel
theorem dX7_mostIn_4 : decode cX7_mostIn 4 = .ok (.getfield 100, 3) := by decide +kernel
theorem dX7_mostIn_7 : decode cX7_mostIn 7 = .ok (.aload_n 0, 1) := by decide +kernel
theorem dX7_mostIn_8 : decode cX7_mostIn 8 = .ok (.getfield 9, 3) := by decide +kernel
theorem dX7_mostIn_11 : decode cX7_mostIn 11 = .ok (.iload_n 1, 1) := by decide +kernel
theorem dX7_mostIn_12 : decode cX7_mostIn 12 = .ok (.iaload, 1) := by decide +kernel
theorem dX7_mostIn_13 : decode cX7_mostIn 13 = .ok (.iaload, 1) := by decide +kernel
theorem dX7_mostIn_14 : decode cX7_mostIn 14 = .ok (.aload_n 0, 1) := by decide +kernel
theorem dX7_mostIn_15 : decode cX7_mostIn 15 = .ok (.getfield 53, 3) := by decide +kernel
theorem dX7_mostIn_18 : decode cX7_mostIn 18 = .ok (.aload_n 0, 1) := by decide +kernel
theorem dX7_mostIn_19 : decode cX7_mostIn 19 = .ok (.getfield 9, 3) := by decide +kernel
theorem dX7_mostIn_22 : decode cX7_mostIn 22 = .ok (.iload_n 1, 1) := by decide +kernel
theorem dX7_mostIn_23 : decode cX7_mostIn 23 = .ok (.iaload, 1) := by decide +kernel
theorem dX7_mostIn_24 : decode cX7_mostIn 24 = .ok (.iload_n 2, 1) := by decide +kernel
theorem dX7_mostIn_25 : decode cX7_mostIn 25 = .ok (.invokevirtual 105, 3) := by decide +kernel
theorem dX7_mostIn_28 : decode cX7_mostIn 28 = .ok (.isub, 1) := by decide +kernel
theorem dX7_mostIn_29 : decode cX7_mostIn 29 = .ok (.istore_n 3, 1) := by decide +kernel
theorem dX7_mostIn_30 : decode cX7_mostIn 30 = .ok (.iload_n 3, 1) := by decide +kernel
theorem dX7_mostIn_31 : decode cX7_mostIn 31 = .ok (.aload_n 0, 1) := by decide +kernel
theorem dX7_mostIn_32 : decode cX7_mostIn 32 = .ok (.getfield 21, 3) := by decide +kernel
theorem dX7_mostIn_35 : decode cX7_mostIn 35 = .ok (.iload_n 1, 1) := by decide +kernel
theorem dX7_mostIn_36 : decode cX7_mostIn 36 = .ok (.iaload, 1) := by decide +kernel
theorem dX7_mostIn_37 : decode cX7_mostIn 37 = .ok (.aload_n 0, 1) := by decide +kernel
theorem dX7_mostIn_38 : decode cX7_mostIn 38 = .ok (.getfield 30, 3) := by decide +kernel
theorem dX7_mostIn_41 : decode cX7_mostIn 41 = .ok (.iload_n 1, 1) := by decide +kernel
theorem dX7_mostIn_42 : decode cX7_mostIn 42 = .ok (.iaload, 1) := by decide +kernel
theorem dX7_mostIn_43 : decode cX7_mostIn 43 = .ok (.invokestatic 108, 3) := by decide +kernel
theorem dX7_mostIn_46 : decode cX7_mostIn 46 = .ok (.ireturn, 1) := by decide +kernel
theorem dX7_mostOut_0 : decode cX7_mostOut 0 = .ok (.aload_n 0, 1) := by decide +kernel
theorem dX7_mostOut_1 : decode cX7_mostOut 1 = .ok (.getfield 53, 3) := by decide +kernel
theorem dX7_mostOut_4 : decode cX7_mostOut 4 = .ok (.aload_n 0, 1) := by decide +kernel
theorem dX7_mostOut_5 : decode cX7_mostOut 5 = .ok (.getfield 9, 3) := by decide +kernel
theorem dX7_mostOut_8 : decode cX7_mostOut 8 = .ok (.iload_n 1, 1) := by decide +kernel
theorem dX7_mostOut_9 : decode cX7_mostOut 9 = .ok (.iaload, 1) := by decide +kernel
theorem dX7_mostOut_10 : decode cX7_mostOut 10 = .ok (.iload_n 2, 1) := by decide +kernel
theorem dX7_mostOut_11 : decode cX7_mostOut 11 = .ok (.invokevirtual 105, 3) := by decide +kernel
theorem dX7_mostOut_14 : decode cX7_mostOut 14 = .ok (.aload_n 0, 1) := by decide +kernel
theorem dX7_mostOut_15 : decode cX7_mostOut 15 = .ok (.getfield 24, 3) := by decide +kernel
theorem dX7_mostOut_18 : decode cX7_mostOut 18 = .ok (.iload_n 1, 1) := by decide +kernel
theorem dX7_mostOut_19 : decode cX7_mostOut 19 = .ok (.iaload, 1) := by decide +kernel
theorem dX7_mostOut_20 : decode cX7_mostOut 20 = .ok (.aload_n 0, 1) := by decide +kernel
theorem dX7_mostOut_21 : decode cX7_mostOut 21 = .ok (.getfield 30, 3) := by decide +kernel
theorem dX7_mostOut_24 : decode cX7_mostOut 24 = .ok (.iload_n 1, 1) := by decide +kernel
theorem dX7_mostOut_25 : decode cX7_mostOut 25 = .ok (.iaload, 1) := by decide +kernel
theorem dX7_mostOut_26 : decode cX7_mostOut 26 = .ok (.invokestatic 108, 3) := by decide +kernel
theorem dX7_mostOut_29 : decode cX7_mostOut 29 = .ok (.ireturn, 1) := by decide +kernel
theorem dX7_mostWithin_0 : decode cX7_mostWithin 0 = .ok (.iconst 0, 1) := by decide +kernel
theorem dX7_mostWithin_1 : decode cX7_mostWithin 1 = .ok (.istore_n 3, 1) := by decide +kernel
theorem dX7_mostWithin_2 : decode cX7_mostWithin 2 = .ok (.iload_n 3, 1) := by decide +kernel
theorem dX7_mostWithin_3 : decode cX7_mostWithin 3 = .ok (.iload_n 1, 1) := by decide +kernel
theorem dX7_mostWithin_4 : decode cX7_mostWithin 4 = .ok (.if_icmp .ge 18, 3) := by decide +kernel
theorem dX7_mostWithin_7 : decode cX7_mostWithin 7 = .ok (.iload_n 3, 1) := by decide +kernel
theorem dX7_mostWithin_8 : decode cX7_mostWithin 8 = .ok (.iconst 1, 1) := by decide +kernel
theorem dX7_mostWithin_9 : decode cX7_mostWithin 9 = .ok (.iadd, 1) := by decide +kernel
theorem dX7_mostWithin_10 : decode cX7_mostWithin 10 = .ok (.iload_n 2, 1) := by decide +kernel
theorem dX7_mostWithin_11 : decode cX7_mostWithin 11 = .ok (.imul, 1) := by decide +kernel
theorem dX7_mostWithin_12 : decode cX7_mostWithin 12 = .ok (.iload_n 0, 1) := by decide +kernel
theorem dX7_mostWithin_13 : decode cX7_mostWithin 13 = .ok (.if_icmp .gt 9, 3) := by decide +kernel
theorem dX7_mostWithin_16 : decode cX7_mostWithin 16 = .ok (.iinc 3 1, 3) := by decide +kernel
theorem dX7_mostWithin_19 : decode cX7_mostWithin 19 = .ok (.goto (-17), 3) := by decide +kernel
theorem dX7_mostWithin_22 : decode cX7_mostWithin 22 = .ok (.iload_n 3, 1) := by decide +kernel
theorem dX7_mostWithin_23 : decode cX7_mostWithin 23 = .ok (.ireturn, 1) := by decide +kernel
theorem dX7_keep_0 : decode cX7_keep 0 = .ok (.aload_n 0, 1) := by decide +kernel
theorem dX7_keep_1 : decode cX7_keep 1 = .ok (.getfield 18, 3) := by decide +kernel
theorem dX7_keep_4 : decode cX7_keep 4 = .ok (.iload_n 1, 1) := by decide +kernel
theorem dX7_keep_5 : decode cX7_keep 5 = .ok (.iaload, 1) := by decide +kernel
theorem dX7_keep_6 : decode cX7_keep 6 = .ok (.istore_n 3, 1) := by decide +kernel
theorem dX7_keep_7 : decode cX7_keep 7 = .ok (.iconst 0, 1) := by decide +kernel
theorem dX7_keep_8 : decode cX7_keep 8 = .ok (.istore 4, 2) := by decide +kernel
theorem dX7_keep_10 : decode cX7_keep 10 = .ok (.iload 4, 2) := by decide +kernel
theorem dX7_keep_12 : decode cX7_keep 12 = .ok (.iload_n 2, 1) := by decide +kernel
theorem dX7_keep_13 : decode cX7_keep 13 = .ok (.if_icmp .ge 57, 3) := by decide +kernel
theorem dX7_keep_16 : decode cX7_keep 16 = .ok (.aload_n 0, 1) := by decide +kernel
theorem dX7_keep_17 : decode cX7_keep 17 = .ok (.getfield 43, 3) := by decide +kernel
theorem dX7_keep_20 : decode cX7_keep 20 = .ok (.iload 4, 2) := by decide +kernel
theorem dX7_keep_22 : decode cX7_keep 22 = .ok (.aload_n 0, 1) := by decide +kernel
theorem dX7_keep_23 : decode cX7_keep 23 = .ok (.getfield 40, 3) := by decide +kernel
theorem dX7_keep_26 : decode cX7_keep 26 = .ok (.iload 4, 2) := by decide +kernel
theorem dX7_keep_28 : decode cX7_keep 28 = .ok (.bipush 41, 2) := by decide +kernel
theorem dX7_keep_30 : decode cX7_keep 30 = .ok (.imul, 1) := by decide +kernel
theorem dX7_keep_31 : decode cX7_keep 31 = .ok (.iload_n 3, 1) := by decide +kernel
theorem dX7_keep_32 : decode cX7_keep 32 = .ok (.iadd, 1) := by decide +kernel
theorem dX7_keep_33 : decode cX7_keep 33 = .ok (.iaload, 1) := by decide +kernel
theorem dX7_keep_34 : decode cX7_keep 34 = .ok (.iastore, 1) := by decide +kernel
theorem dX7_keep_35 : decode cX7_keep 35 = .ok (.iconst 0, 1) := by decide +kernel
theorem dX7_keep_36 : decode cX7_keep 36 = .ok (.iload_n 3, 1) := by decide +kernel
theorem dX7_keep_37 : decode cX7_keep 37 = .ok (.aload_n 0, 1) := by decide +kernel
theorem dX7_keep_38 : decode cX7_keep 38 = .ok (.getfield 43, 3) := by decide +kernel
theorem dX7_keep_41 : decode cX7_keep 41 = .ok (.iload 4, 2) := by decide +kernel
theorem dX7_keep_43 : decode cX7_keep 43 = .ok (.iaload, 1) := by decide +kernel
theorem dX7_keep_44 : decode cX7_keep 44 = .ok (.iadd, 1) := by decide +kernel
theorem dX7_keep_45 : decode cX7_keep 45 = .ok (.aload_n 0, 1) := by decide +kernel
theorem dX7_keep_46 : decode cX7_keep 46 = .ok (.getfield 27, 3) := by decide +kernel
theorem dX7_keep_49 : decode cX7_keep 49 = .ok (.iload_n 1, 1) := by decide +kernel
theorem dX7_keep_50 : decode cX7_keep 50 = .ok (.iaload, 1) := by decide +kernel
theorem dX7_keep_51 : decode cX7_keep 51 = .ok (.isub, 1) := by decide +kernel
theorem dX7_keep_52 : decode cX7_keep 52 = .ok (.invokestatic 92, 3) := by decide +kernel
theorem dX7_keep_55 : decode cX7_keep 55 = .ok (.istore_n 3, 1) := by decide +kernel
theorem dX7_keep_56 : decode cX7_keep 56 = .ok (.aload_n 0, 1) := by decide +kernel
theorem dX7_keep_57 : decode cX7_keep 57 = .ok (.getfield 46, 3) := by decide +kernel
theorem dX7_keep_60 : decode cX7_keep 60 = .ok (.iload 4, 2) := by decide +kernel
theorem dX7_keep_62 : decode cX7_keep 62 = .ok (.iload_n 3, 1) := by decide +kernel
theorem dX7_keep_63 : decode cX7_keep 63 = .ok (.iastore, 1) := by decide +kernel
theorem dX7_keep_64 : decode cX7_keep 64 = .ok (.iinc 4 1, 3) := by decide +kernel
theorem dX7_keep_67 : decode cX7_keep 67 = .ok (.goto (-57), 3) := by decide +kernel
theorem dX7_keep_70 : decode cX7_keep 70 = .ok (.aload_n 0, 1) := by decide +kernel
theorem dX7_keep_71 : decode cX7_keep 71 = .ok (.iload_n 2, 1) := by decide +kernel
theorem dX7_keep_72 : decode cX7_keep 72 = .ok (.putfield 61, 3) := by decide +kernel
theorem dX7_keep_75 : decode cX7_keep 75 = .ok (.return_, 1) := by decide +kernel
