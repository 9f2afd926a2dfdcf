theorem dX8_init_0 : decode cX8_init 0 = .ok (.aload_n 0, 1) := by decide +kernel
theorem dX8_init_1 : decode cX8_init 1 = .ok (.invokespecial 1, 3) := by decide +kernel
theorem dX8_init_4 : decode cX8_init 4 = .ok (.aload_n 0, 1) := by decide +kernel
theorem dX8_init_5 : decode cX8_init 5 = .ok (.new 7, 3) := by decide +kernel
theorem dX8_init_8 : decode cX8_init 8 = .ok (.dup, 1) := by decide +kernel
theorem dX8_init_9 : decode cX8_init 9 = .ok (.invokespecial 9, 3) := by decide +kernel
theorem dX8_init_12 : decode cX8_init 12 = .ok (.putfield 10, 3) := by decide +kernel
theorem dX8_init_15 : decode cX8_init 15 = .ok (.aload_n 0, 1) := by decide +kernel
theorem dX8_init_16 : decode cX8_init 16 = .ok (.new 16, 3) := by decide +kernel
theorem dX8_init_19 : decode cX8_init 19 = .ok (.dup, 1) := by decide +kernel
theorem dX8_init_20 : decode cX8_init 20 = .ok (.invokespecial 18, 3) := by decide +kernel
theorem dX8_init_23 : decode cX8_init 23 = .ok (.putfield 19, 3) := by decide +kernel
theorem dX8_init_26 : decode cX8_init 26 = .ok (.aload_n 0, 1) := by decide +kernel
theorem dX8_init_27 : decode cX8_init 27 = .ok (.new 23, 3) := by decide +kernel
theorem dX8_init_30 : decode cX8_init 30 = .ok (.dup, 1) := by decide +kernel
theorem dX8_init_31 : decode cX8_init 31 = .ok (.aload_n 0, 1) := by decide +kernel
theorem dX8_init_32 : decode cX8_init 32 = .ok (.getfield 19, 3) := by decide +kernel
theorem dX8_init_35 : decode cX8_init 35 = .ok (.invokespecial 25, 3) := by decide +kernel
theorem dX8_init_38 : decode cX8_init 38 = .ok (.putfield 28, 3) := by decide +kernel
theorem dX8_init_41 : decode cX8_init 41 = .ok (.aload_n 0, 1) := by decide +kernel
theorem dX8_init_42 : decode cX8_init 42 = .ok (.new 32, 3) := by decide +kernel
theorem dX8_init_45 : decode cX8_init 45 = .ok (.dup, 1) := by decide +kernel
theorem dX8_init_46 : decode cX8_init 46 = .ok (.aload_n 0, 1) := by decide +kernel
theorem dX8_init_47 : decode cX8_init 47 = .ok (.getfield 10, 3) := by decide +kernel
theorem dX8_init_50 : decode cX8_init 50 = .ok (.aload_n 0, 1) := by decide +kernel
theorem dX8_init_51 : decode cX8_init 51 = .ok (.getfield 19, 3) := by decide +kernel
theorem dX8_init_54 : decode cX8_init 54 = .ok (.aload_n 0, 1) := by decide +kernel
theorem dX8_init_55 : decode cX8_init 55 = .ok (.getfield 28, 3) := by decide +kernel
theorem dX8_init_58 : decode cX8_init 58 = .ok (.invokespecial 34, 3) := by decide +kernel
theorem dX8_init_61 : decode cX8_init 61 = .ok (.putfield 37, 3) := by decide +kernel
theorem dX8_init_64 : decode cX8_init 64 = .ok (.aload_n 0, 1) := by decide +kernel
theorem dX8_init_65 : decode cX8_init 65 = .ok (.new 41, 3) := by decide +kernel
theorem dX8_init_68 : decode cX8_init 68 = .ok (.dup, 1) := by decide +kernel
theorem dX8_init_69 : decode cX8_init 69 = .ok (.invokespecial 43, 3) := by decide +kernel
theorem dX8_init_72 : decode cX8_init 72 = .ok (.putfield 44, 3) := by decide +kernel
theorem dX8_init_75 : decode cX8_init 75 = .ok (.aload_n 0, 1) := by decide +kernel
theorem dX8_init_76 : decode cX8_init 76 = .ok (.new 48, 3) := by decide +kernel
theorem dX8_init_79 : decode cX8_init 79 = .ok (.dup, 1) := by decide +kernel
theorem dX8_init_80 : decode cX8_init 80 = .ok (.aload_n 0, 1) := by decide +kernel
theorem dX8_init_81 : decode cX8_init 81 = .ok (.getfield 10, 3) := by decide +kernel
theorem dX8_init_84 : decode cX8_init 84 = .ok (.aload_n 0, 1) := by decide +kernel
theorem dX8_init_85 : decode cX8_init 85 = .ok (.getfield 19, 3) := by decide +kernel
theorem dX8_init_88 : decode cX8_init 88 = .ok (.invokespecial 50, 3) := by decide +kernel
theorem dX8_init_91 : decode cX8_init 91 = .ok (.putfield 53, 3) := by decide +kernel
theorem dX8_init_94 : decode cX8_init 94 = .ok (.aload_n 0, 1) := by decide +kernel
theorem dX8_init_95 : decode cX8_init 95 = .ok (.new 57, 3) := by decide +kernel
theorem dX8_init_98 : decode cX8_init 98 = .ok (.dup, 1) := by decide +kernel
theorem dX8_init_99 : decode cX8_init 99 = .ok (.invokespecial 59, 3) := by decide +kernel
theorem dX8_init_102 : decode cX8_init 102 = .ok (.putfield 60, 3) := by decide +kernel
theorem dX8_init_105 : decode cX8_init 105 = .ok (.aload_n 0, 1) := by decide +kernel
theorem dX8_init_106 : decode cX8_init 106 = .ok (.iconst (-1), 1) := by decide +kernel
theorem dX8_init_107 : decode cX8_init 107 = .ok (.putfield 64, 3) := by decide +kernel
theorem dX8_init_110 : decode cX8_init 110 = .ok (.aload_n 0, 1) := by decide +kernel
theorem dX8_init_111 : decode cX8_init 111 = .ok (.iconst 0, 1) := by decide +kernel
theorem dX8_init_112 : decode cX8_init 112 = .ok (.putfield 68, 3) := by decide +kernel
theorem dX8_init_115 : decode cX8_init 115 = .ok (.return_, 1) := by decide +kernel
theorem dX8_price_0 : decode cX8_price 0 = .ok (.iload_n 1, 1) := by decide +kernel
theorem dX8_price_1 : decode cX8_price 1 = .ok (.invokestatic 71, 3) := by decide +kernel
theorem dX8_price_4 : decode cX8_price 4 = .ok (.ifCond .eq 17, 3) := by decide +kernel
theorem dX8_price_7 : decode cX8_price 7 = .ok (.iload_n 2, 1) := by decide +kernel
theorem dX8_price_8 : decode cX8_price 8 = .ok (.invokestatic 75, 3) := by decide +kernel
theorem dX8_price_11 : decode cX8_price 11 = .ok (.ifCond .eq 10, 3) := by decide +kernel
theorem dX8_price_14 : decode cX8_price 14 = .ok (.iload_n 3, 1) := by decide +kernel
theorem dX8_price_15 : decode cX8_price 15 = .ok (.invokestatic 78, 3) := by decide +kernel
theorem dX8_price_18 : decode cX8_price 18 = .ok (.ifCond .ne 9, 3) := by decide +kernel
theorem dX8_price_21 : decode cX8_price 21 = .ok (.aload_n 0, 1) := by decide +kernel
theorem dX8_price_22 : decode cX8_price 22 = .ok (.iconst (-1), 1) := by decide +kernel
theorem dX8_price_23 : decode cX8_price 23 = .ok (.invokevirtual 81, 3) := by decide +kernel
theorem dX8_price_26 : decode cX8_price 26 = .ok (.ireturn, 1) := by decide +kernel
theorem dX8_price_27 : decode cX8_price 27 = .ok (.aload_n 0, 1) := by decide +kernel
theorem dX8_price_28 : decode cX8_price 28 = .ok (.getfield 10, 3) := by decide +kernel
theorem dX8_price_31 : decode cX8_price 31 = .ok (.getfield 85, 3) := by decide +kernel
theorem dX8_price_34 : decode cX8_price 34 = .ok (.sipush 400, 3) := by decide +kernel
theorem dX8_price_37 : decode cX8_price 37 = .ok (.if_icmp .lt 10, 3) := by decide +kernel
theorem dX8_price_40 : decode cX8_price 40 = .ok (.aload_n 0, 1) := by decide +kernel
theorem dX8_price_41 : decode cX8_price 41 = .ok (.bipush (-5), 2) := by decide +kernel
theorem dX8_price_43 : decode cX8_price 43 = .ok (.invokevirtual 81, 3) := by decide +kernel
theorem dX8_price_46 : decode cX8_price 46 = .ok (.ireturn, 1) := by decide +kernel
theorem dX8_price_47 : decode cX8_price 47 = .ok (.aload_n 0, 1) := by decide +kernel
theorem dX8_price_48 : decode cX8_price 48 = .ok (.getfield 10, 3) := by decide +kernel
theorem dX8_price_51 : decode cX8_price 51 = .ok (.iload_n 1, 1) := by decide +kernel
theorem dX8_price_52 : decode cX8_price 52 = .ok (.iload_n 2, 1) := by decide +kernel
theorem dX8_price_53 : decode cX8_price 53 = .ok (.iload_n 3, 1) := by decide +kernel
theorem dX8_price_54 : decode cX8_price 54 = .ok (.invokevirtual 88, 3) := by decide +kernel
theorem dX8_price_57 : decode cX8_price 57 = .ok (.iload_n 3, 1) := by decide +kernel
theorem dX8_price_58 : decode cX8_price 58 = .ok (.aload_n 0, 1) := by decide +kernel
theorem dX8_price_59 : decode cX8_price 59 = .ok (.getfield 37, 3) := by decide +kernel
theorem dX8_price_62 : decode cX8_price 62 = .ok (.getfield 92, 3) := by decide +kernel
theorem dX8_price_65 : decode cX8_price 65 = .ok (.if_icmp .gt 13, 3) := by decide +kernel
theorem dX8_price_68 : decode cX8_price 68 = .ok (.aload_n 0, 1) := by decide +kernel
theorem dX8_price_69 : decode cX8_price 69 = .ok (.getfield 10, 3) := by decide +kernel
theorem dX8_price_72 : decode cX8_price 72 = .ok (.getfield 95, 3) := by decide +kernel
theorem dX8_price_75 : decode cX8_price 75 = .ok (.iload_n 1, 1) := by decide +kernel
theorem dX8_price_76 : decode cX8_price 76 = .ok (.iload_n 2, 1) := by decide +kernel
theorem dX8_price_77 : decode cX8_price 77 = .ok (.iastore, 1) := by decide +kernel
theorem dX8_price_78 : decode cX8_price 78 = .ok (.aload_n 0, 1) := by decide +kernel
theorem dX8_price_79 : decode cX8_price 79 = .ok (.aload_n 0, 1) := by decide +kernel
theorem dX8_price_80 : decode cX8_price 80 = .ok (.getfield 10, 3) := by decide +kernel
theorem dX8_price_83 : decode cX8_price 83 = .ok (.getfield 85, 3) := by decide +kernel
theorem dX8_price_86 : decode cX8_price 86 = .ok (.invokevirtual 99, 3) := by decide +kernel
theorem dX8_price_89 : decode cX8_price 89 = .ok (.ireturn, 1) := by decide +kernel
theorem dX8_plain_0 : decode cX8_plain 0 = .ok (.iload_n 1, 1) := by decide +kernel
theorem dX8_plain_1 : decode cX8_plain 1 = .ok (.invokestatic 75, 3) := by decide +kernel
theorem dX8_plain_4 : decode cX8_plain 4 = .ok (.ifCond .ne 13, 3) := by decide +kernel
theorem dX8_plain_7 : decode cX8_plain 7 = .ok (.aload_n 0, 1) := by decide +kernel
theorem dX8_plain_8 : decode cX8_plain 8 = .ok (.iconst (-1), 1) := by decide +kernel
theorem dX8_plain_9 : decode cX8_plain 9 = .ok (.invokevirtual 81, 3) := by decide +kernel
theorem dX8_plain_12 : decode cX8_plain 12 = .ok (.pop, 1) := by decide +kernel
theorem dX8_plain_13 : decode cX8_plain 13 = .ok (.sipush (-5000), 3) := by decide +kernel
theorem dX8_plain_16 : decode cX8_plain 16 = .ok (.ireturn, 1) := by decide +kernel
theorem dX8_plain_17 : decode cX8_plain 17 = .ok (.aload_n 0, 1) := by decide +kernel
theorem dX8_plain_18 : decode cX8_plain 18 = .ok (.getfield 10, 3) := by decide +kernel
theorem dX8_plain_21 : decode cX8_plain 21 = .ok (.getfield 102, 3) := by decide +kernel
theorem dX8_plain_24 : decode cX8_plain 24 = .ok (.istore_n 2, 1) := by decide +kernel
theorem dX8_plain_25 : decode cX8_plain 25 = .ok (.aload_n 0, 1) := by decide +kernel
theorem dX8_plain_26 : decode cX8_plain 26 = .ok (.getfield 10, 3) := by decide +kernel
theorem dX8_plain_29 : decode cX8_plain 29 = .ok (.iload_n 1, 1) := by decide +kernel
theorem dX8_plain_30 : decode cX8_plain 30 = .ok (.putfield 102, 3) := by decide +kernel
theorem dX8_plain_33 : decode cX8_plain 33 = .ok (.aload_n 0, 1) := by decide +kernel
theorem dX8_plain_34 : decode cX8_plain 34 = .ok (.getfield 10, 3) := by decide +kernel
theorem dX8_plain_37 : decode cX8_plain 37 = .ok (.aload_n 0, 1) := by decide +kernel
theorem dX8_plain_38 : decode cX8_plain 38 = .ok (.getfield 10, 3) := by decide +kernel
theorem dX8_plain_41 : decode cX8_plain 41 = .ok (.getfield 95, 3) := by decide +kernel
theorem dX8_plain_44 : decode cX8_plain 44 = .ok (.aload_n 0, 1) := by decide +kernel
theorem dX8_plain_45 : decode cX8_plain 45 = .ok (.getfield 37, 3) := by decide +kernel
theorem dX8_plain_48 : decode cX8_plain 48 = .ok (.getfield 92, 3) := by decide +kernel
theorem dX8_plain_51 : decode cX8_plain 51 = .ok (.invokevirtual 105, 3) := by decide +kernel
theorem dX8_plain_54 : decode cX8_plain 54 = .ok (.aload_n 0, 1) := by decide +kernel
theorem dX8_plain_55 : decode cX8_plain 55 = .ok (.iload_n 2, 1) := by decide +kernel
theorem dX8_plain_56 : decode cX8_plain 56 = .ok (.invokevirtual 99, 3) := by decide +kernel
theorem dX8_plain_59 : decode cX8_plain 59 = .ok (.ireturn, 1) := by decide +kernel
theorem dX8_at_0 : decode cX8_at 0 = .ok (.iload_n 1, 1) := by decide +kernel
theorem dX8_at_1 : decode cX8_at 1 = .ok (.invokestatic 71, 3) := by decide +kernel
theorem dX8_at_4 : decode cX8_at 4 = .ok (.ifCond .eq 10, 3) := by decide +kernel
theorem dX8_at_7 : decode cX8_at 7 = .ok (.iload_n 2, 1) := by decide +kernel
theorem dX8_at_8 : decode cX8_at 8 = .ok (.invokestatic 78, 3) := by decide +kernel
theorem dX8_at_11 : decode cX8_at 11 = .ok (.ifCond .ne 7, 3) := by decide +kernel
theorem dX8_at_14 : decode cX8_at 14 = .ok (.sipush (-5000), 3) := by decide +kernel
theorem dX8_at_17 : decode cX8_at 17 = .ok (.ireturn, 1) := by decide +kernel
theorem dX8_at_18 : decode cX8_at 18 = .ok (.aload_n 0, 1) := by decide +kernel
theorem dX8_at_19 : decode cX8_at 19 = .ok (.getfield 10, 3) := by decide +kernel
theorem dX8_at_22 : decode cX8_at 22 = .ok (.iload_n 1, 1) := by decide +kernel
theorem dX8_at_23 : decode cX8_at 23 = .ok (.iload_n 2, 1) := by decide +kernel
theorem dX8_at_24 : decode cX8_at 24 = .ok (.invokevirtual 109, 3) := by decide +kernel
theorem dX8_at_27 : decode cX8_at 27 = .ok (.ireturn, 1) := by decide +kernel
theorem dX8_home_0 : decode cX8_home 0 = .ok (.iload_n 1, 1) := by decide +kernel
theorem dX8_home_1 : decode cX8_home 1 = .ok (.sipush 20000, 3) := by decide +kernel
theorem dX8_home_4 : decode cX8_home 4 = .ok (.invokestatic 113, 3) := by decide +kernel
theorem dX8_home_7 : decode cX8_home 7 = .ok (.ifCond .ne 9, 3) := by decide +kernel
theorem dX8_home_10 : decode cX8_home 10 = .ok (.aload_n 0, 1) := by decide +kernel
theorem dX8_home_11 : decode cX8_home 11 = .ok (.iconst (-1), 1) := by decide +kernel
theorem dX8_home_12 : decode cX8_home 12 = .ok (.invokevirtual 81, 3) := by decide +kernel
theorem dX8_home_15 : decode cX8_home 15 = .ok (.ireturn, 1) := by decide +kernel
theorem dX8_home_16 : decode cX8_home 16 = .ok (.aload_n 0, 1) := by decide +kernel
theorem dX8_home_17 : decode cX8_home 17 = .ok (.getfield 19, 3) := by decide +kernel
theorem dX8_home_20 : decode cX8_home 20 = .ok (.getfield 117, 3) := by decide +kernel
theorem dX8_home_23 : decode cX8_home 23 = .ok (.iconst 4, 1) := by decide +kernel
theorem dX8_home_24 : decode cX8_home 24 = .ok (.if_icmp .lt 10, 3) := by decide +kernel
theorem dX8_home_27 : decode cX8_home 27 = .ok (.aload_n 0, 1) := by decide +kernel
theorem dX8_home_28 : decode cX8_home 28 = .ok (.bipush (-5), 2) := by decide +kernel
theorem dX8_home_30 : decode cX8_home 30 = .ok (.invokevirtual 81, 3) := by decide +kernel
theorem dX8_home_33 : decode cX8_home 33 = .ok (.ireturn, 1) := by decide +kernel
theorem dX8_home_34 : decode cX8_home 34 = .ok (.aload_n 0, 1) := by decide +kernel
theorem dX8_home_35 : decode cX8_home 35 = .ok (.aload_n 0, 1) := by decide +kernel
theorem dX8_home_36 : decode cX8_home 36 = .ok (.getfield 19, 3) := by decide +kernel
theorem dX8_home_39 : decode cX8_home 39 = .ok (.iload_n 1, 1) := by decide +kernel
theorem dX8_home_40 : decode cX8_home 40 = .ok (.invokevirtual 118, 3) := by decide +kernel
theorem dX8_home_43 : decode cX8_home 43 = .ok (.invokevirtual 99, 3) := by decide +kernel
theorem dX8_home_46 : decode cX8_home 46 = .ok (.ireturn, 1) := by decide +kernel
theorem dX8_base_0 : decode cX8_base 0 = .ok (.iload_n 2, 1) := by decide +kernel
theorem dX8_base_1 : decode cX8_base 1 = .ok (.bipush 23, 2) := by decide +kernel
theorem dX8_base_3 : decode cX8_base 3 = .ok (.invokestatic 113, 3) := by decide +kernel
theorem dX8_base_6 : decode cX8_base 6 = .ok (.ifCond .eq 13, 3) := by decide +kernel
theorem dX8_base_9 : decode cX8_base 9 = .ok (.iload_n 3, 1) := by decide +kernel
theorem dX8_base_10 : decode cX8_base 10 = .ok (.sipush 5000, 3) := by decide +kernel
theorem dX8_base_13 : decode cX8_base 13 = .ok (.invokestatic 113, 3) := by decide +kernel
theorem dX8_base_16 : decode cX8_base 16 = .ok (.ifCond .ne 9, 3) := by decide +kernel
theorem dX8_base_19 : decode cX8_base 19 = .ok (.aload_n 0, 1) := by decide +kernel
theorem dX8_base_20 : decode cX8_base 20 = .ok (.iconst (-1), 1) := by decide +kernel
theorem dX8_base_21 : decode cX8_base 21 = .ok (.invokevirtual 81, 3) := by decide +kernel
theorem dX8_base_24 : decode cX8_base 24 = .ok (.ireturn, 1) := by decide +kernel
theorem dX8_base_25 : decode cX8_base 25 = .ok (.aload_n 0, 1) := by decide +kernel
theorem dX8_base_26 : decode cX8_base 26 = .ok (.getfield 19, 3) := by decide +kernel
theorem dX8_base_29 : decode cX8_base 29 = .ok (.iload_n 1, 1) := by decide +kernel
theorem dX8_base_30 : decode cX8_base 30 = .ok (.invokevirtual 121, 3) := by decide +kernel
theorem dX8_base_33 : decode cX8_base 33 = .ok (.ifCond .ne 10, 3) := by decide +kernel
theorem dX8_base_36 : decode cX8_base 36 = .ok (.aload_n 0, 1) := by decide +kernel
theorem dX8_base_37 : decode cX8_base 37 = .ok (.bipush (-2), 2) := by decide +kernel
theorem dX8_base_39 : decode cX8_base 39 = .ok (.invokevirtual 81, 3) := by decide +kernel
theorem dX8_base_42 : decode cX8_base 42 = .ok (.ireturn, 1) := by decide +kernel
theorem dX8_base_43 : decode cX8_base 43 = .ok (.aload_n 0, 1) := by decide +kernel
theorem dX8_base_44 : decode cX8_base 44 = .ok (.getfield 19, 3) := by decide +kernel
theorem dX8_base_47 : decode cX8_base 47 = .ok (.iload_n 1, 1) := by decide +kernel
theorem dX8_base_48 : decode cX8_base 48 = .ok (.iload_n 2, 1) := by decide +kernel
theorem dX8_base_49 : decode cX8_base 49 = .ok (.iload_n 3, 1) := by decide +kernel
theorem dX8_base_50 : decode cX8_base 50 = .ok (.invokevirtual 124, 3) := by decide +kernel
theorem dX8_base_53 : decode cX8_base 53 = .ok (.aload_n 0, 1) := by decide +kernel
theorem dX8_base_54 : decode cX8_base 54 = .ok (.iconst 0, 1) := by decide +kernel
theorem dX8_base_55 : decode cX8_base 55 = .ok (.invokevirtual 99, 3) := by decide +kernel
theorem dX8_base_58 : decode cX8_base 58 = .ok (.ireturn, 1) := by decide +kernel
theorem dX8_cable_0 : decode cX8_cable 0 = .ok (.iload_n 1, 1) := by decide +kernel
theorem dX8_cable_1 : decode cX8_cable 1 = .ok (.ldc 127, 2) := by decide +kernel
theorem dX8_cable_3 : decode cX8_cable 3 = .ok (.invokestatic 113, 3) := by decide +kernel
theorem dX8_cable_6 : decode cX8_cable 6 = .ok (.ifCond .ne 9, 3) := by decide +kernel
theorem dX8_cable_9 : decode cX8_cable 9 = .ok (.aload_n 0, 1) := by decide +kernel
theorem dX8_cable_10 : decode cX8_cable 10 = .ok (.iconst (-1), 1) := by decide +kernel
theorem dX8_cable_11 : decode cX8_cable 11 = .ok (.invokevirtual 81, 3) := by decide +kernel
theorem dX8_cable_14 : decode cX8_cable 14 = .ok (.ireturn, 1) := by decide +kernel
theorem dX8_cable_15 : decode cX8_cable 15 = .ok (.aload_n 0, 1) := by decide +kernel
theorem dX8_cable_16 : decode cX8_cable 16 = .ok (.getfield 19, 3) := by decide +kernel
theorem dX8_cable_19 : decode cX8_cable 19 = .ok (.getfield 128, 3) := by decide +kernel
theorem dX8_cable_22 : decode cX8_cable 22 = .ok (.istore_n 2, 1) := by decide +kernel
theorem dX8_cable_23 : decode cX8_cable 23 = .ok (.aload_n 0, 1) := by decide +kernel
theorem dX8_cable_24 : decode cX8_cable 24 = .ok (.getfield 19, 3) := by decide +kernel
theorem dX8_cable_27 : decode cX8_cable 27 = .ok (.iload_n 1, 1) := by decide +kernel
theorem dX8_cable_28 : decode cX8_cable 28 = .ok (.putfield 128, 3) := by decide +kernel
theorem dX8_cable_31 : decode cX8_cable 31 = .ok (.aload_n 0, 1) := by decide +kernel
theorem dX8_cable_32 : decode cX8_cable 32 = .ok (.iload_n 2, 1) := by decide +kernel
theorem dX8_cable_33 : decode cX8_cable 33 = .ok (.invokevirtual 99, 3) := by decide +kernel
theorem dX8_cable_36 : decode cX8_cable 36 = .ok (.ireturn, 1) := by decide +kernel
theorem dX8_job_0 : decode cX8_job 0 = .ok (.iload_n 2, 1) := by decide +kernel
theorem dX8_job_1 : decode cX8_job 1 = .ok (.invokestatic 71, 3) := by decide +kernel
theorem dX8_job_4 : decode cX8_job 4 = .ok (.ifCond .eq 35, 3) := by decide +kernel
theorem dX8_job_7 : decode cX8_job 7 = .ok (.iload_n 3, 1) := by decide +kernel
theorem dX8_job_8 : decode cX8_job 8 = .ok (.invokestatic 71, 3) := by decide +kernel
theorem dX8_job_11 : decode cX8_job 11 = .ok (.ifCond .eq 28, 3) := by decide +kernel
theorem dX8_job_14 : decode cX8_job 14 = .ok (.iload_n 3, 1) := by decide +kernel
theorem dX8_job_15 : decode cX8_job 15 = .ok (.iload_n 2, 1) := by decide +kernel
theorem dX8_job_16 : decode cX8_job 16 = .ok (.if_icmp .lt 23, 3) := by decide +kernel
theorem dX8_job_19 : decode cX8_job 19 = .ok (.iload_n 3, 1) := by decide +kernel
theorem dX8_job_20 : decode cX8_job 20 = .ok (.iload_n 2, 1) := by decide +kernel
theorem dX8_job_21 : decode cX8_job 21 = .ok (.isub, 1) := by decide +kernel
theorem dX8_job_22 : decode cX8_job 22 = .ok (.bipush 24, 2) := by decide +kernel
theorem dX8_job_24 : decode cX8_job 24 = .ok (.if_icmp .ge 15, 3) := by decide +kernel
theorem dX8_job_27 : decode cX8_job 27 = .ok (.iload 4, 2) := by decide +kernel
theorem dX8_job_29 : decode cX8_job 29 = .ok (.iconst 1, 1) := by decide +kernel
theorem dX8_job_30 : decode cX8_job 30 = .ok (.if_icmp .lt 9, 3) := by decide +kernel
theorem dX8_job_33 : decode cX8_job 33 = .ok (.iload 4, 2) := by decide +kernel
theorem dX8_job_35 : decode cX8_job 35 = .ok (.iconst 4, 1) := by decide +kernel
theorem dX8_job_36 : decode cX8_job 36 = .ok (.if_icmp .le 9, 3) := by decide +kernel
theorem dX8_job_39 : decode cX8_job 39 = .ok (.aload_n 0, 1) := by decide +kernel
theorem dX8_job_40 : decode cX8_job 40 = .ok (.iconst (-1), 1) := by decide +kernel
theorem dX8_job_41 : decode cX8_job 41 = .ok (.invokevirtual 81, 3) := by decide +kernel
theorem dX8_job_44 : decode cX8_job 44 = .ok (.ireturn, 1) := by decide +kernel
theorem dX8_job_45 : decode cX8_job 45 = .ok (.iload 5, 2) := by decide +kernel
theorem dX8_job_47 : decode cX8_job 47 = .ok (.invokestatic 131, 3) := by decide +kernel
theorem dX8_job_50 : decode cX8_job 50 = .ok (.ifCond .eq 45, 3) := by decide +kernel
theorem dX8_job_53 : decode cX8_job 53 = .ok (.iload 4, 2) := by decide +kernel
theorem dX8_job_55 : decode cX8_job 55 = .ok (.iconst 1, 1) := by decide +kernel
theorem dX8_job_56 : decode cX8_job 56 = .ok (.if_icmp .le 11, 3) := by decide +kernel
theorem dX8_job_59 : decode cX8_job 59 = .ok (.iload 6, 2) := by decide +kernel
theorem dX8_job_61 : decode cX8_job 61 = .ok (.invokestatic 131, 3) := by decide +kernel
theorem dX8_job_64 : decode cX8_job 64 = .ok (.ifCond .eq 31, 3) := by decide +kernel
theorem dX8_job_67 : decode cX8_job 67 = .ok (.iload 4, 2) := by decide +kernel
theorem dX8_job_69 : decode cX8_job 69 = .ok (.iconst 2, 1) := by decide +kernel
theorem dX8_job_70 : decode cX8_job 70 = .ok (.if_icmp .le 11, 3) := by decide +kernel
theorem dX8_job_73 : decode cX8_job 73 = .ok (.iload 7, 2) := by decide +kernel
theorem dX8_job_75 : decode cX8_job 75 = .ok (.invokestatic 131, 3) := by decide +kernel
theorem dX8_job_78 : decode cX8_job 78 = .ok (.ifCond .eq 17, 3) := by decide +kernel
theorem dX8_job_81 : decode cX8_job 81 = .ok (.iload 4, 2) := by decide +kernel
theorem dX8_job_83 : decode cX8_job 83 = .ok (.iconst 3, 1) := by decide +kernel
theorem dX8_job_84 : decode cX8_job 84 = .ok (.if_icmp .le 17, 3) := by decide +kernel
theorem dX8_job_87 : decode cX8_job 87 = .ok (.iload 8, 2) := by decide +kernel
theorem dX8_job_89 : decode cX8_job 89 = .ok (.invokestatic 131, 3) := by decide +kernel
theorem dX8_job_92 : decode cX8_job 92 = .ok (.ifCond .ne 9, 3) := by decide +kernel
theorem dX8_job_95 : decode cX8_job 95 = .ok (.aload_n 0, 1) := by decide +kernel
theorem dX8_job_96 : decode cX8_job 96 = .ok (.iconst (-1), 1) := by decide +kernel
theorem dX8_job_97 : decode cX8_job 97 = .ok (.invokevirtual 81, 3) := by decide +kernel
theorem dX8_job_100 : decode cX8_job 100 = .ok (.ireturn, 1) := by decide +kernel
theorem dX8_job_101 : decode cX8_job 101 = .ok (.aload_n 0, 1) := by decide +kernel
theorem dX8_job_102 : decode cX8_job 102 = .ok (.getfield 19, 3) := by decide +kernel
theorem dX8_job_105 : decode cX8_job 105 = .ok (.iload_n 1, 1) := by decide +kernel
theorem dX8_job_106 : decode cX8_job 106 = .ok (.invokevirtual 121, 3) := by decide +kernel
theorem dX8_job_109 : decode cX8_job 109 = .ok (.ifCond .ne 10, 3) := by decide +kernel
theorem dX8_job_112 : decode cX8_job 112 = .ok (.aload_n 0, 1) := by decide +kernel
theorem dX8_job_113 : decode cX8_job 113 = .ok (.bipush (-2), 2) := by decide +kernel
theorem dX8_job_115 : decode cX8_job 115 = .ok (.invokevirtual 81, 3) := by decide +kernel
theorem dX8_job_118 : decode cX8_job 118 = .ok (.ireturn, 1) := by decide +kernel
theorem dX8_job_119 : decode cX8_job 119 = .ok (.aload_n 0, 1) := by decide +kernel
theorem dX8_job_120 : decode cX8_job 120 = .ok (.getfield 28, 3) := by decide +kernel
theorem dX8_job_123 : decode cX8_job 123 = .ok (.getfield 134, 3) := by decide +kernel
theorem dX8_job_126 : decode cX8_job 126 = .ok (.bipush 16, 2) := by decide +kernel
theorem dX8_job_128 : decode cX8_job 128 = .ok (.if_icmp .lt 10, 3) := by decide +kernel
theorem dX8_job_131 : decode cX8_job 131 = .ok (.aload_n 0, 1) := by decide +kernel
theorem dX8_job_132 : decode cX8_job 132 = .ok (.bipush (-5), 2) := by decide +kernel
theorem dX8_job_134 : decode cX8_job 134 = .ok (.invokevirtual 81, 3) := by decide +kernel
theorem dX8_job_137 : decode cX8_job 137 = .ok (.ireturn, 1) := by decide +kernel
theorem dX8_job_138 : decode cX8_job 138 = .ok (.aload_n 0, 1) := by decide +kernel
theorem dX8_job_139 : decode cX8_job 139 = .ok (.getfield 28, 3) := by decide +kernel
theorem dX8_job_142 : decode cX8_job 142 = .ok (.iload_n 1, 1) := by decide +kernel
theorem dX8_job_143 : decode cX8_job 143 = .ok (.iload_n 2, 1) := by decide +kernel
theorem dX8_job_144 : decode cX8_job 144 = .ok (.iload_n 3, 1) := by decide +kernel
theorem dX8_job_145 : decode cX8_job 145 = .ok (.iload 4, 2) := by decide +kernel
theorem dX8_job_147 : decode cX8_job 147 = .ok (.invokevirtual 135, 3) := by decide +kernel
theorem dX8_job_150 : decode cX8_job 150 = .ok (.istore 9, 2) := by decide +kernel
theorem dX8_job_152 : decode cX8_job 152 = .ok (.aload_n 0, 1) := by decide +kernel
theorem dX8_job_153 : decode cX8_job 153 = .ok (.getfield 28, 3) := by decide +kernel
theorem dX8_job_156 : decode cX8_job 156 = .ok (.iload 9, 2) := by decide +kernel
theorem dX8_job_158 : decode cX8_job 158 = .ok (.iload 5, 2) := by decide +kernel
theorem dX8_job_160 : decode cX8_job 160 = .ok (.iload 6, 2) := by decide +kernel
theorem dX8_job_162 : decode cX8_job 162 = .ok (.iload 7, 2) := by decide +kernel
theorem dX8_job_164 : decode cX8_job 164 = .ok (.iload 8, 2) := by decide +kernel
theorem dX8_job_166 : decode cX8_job 166 = .ok (.invokevirtual 139, 3) := by decide +kernel
theorem dX8_job_169 : decode cX8_job 169 = .ok (.aload_n 0, 1) := by decide +kernel
theorem dX8_job_170 : decode cX8_job 170 = .ok (.iload 9, 2) := by decide +kernel
theorem dX8_job_172 : decode cX8_job 172 = .ok (.invokevirtual 99, 3) := by decide +kernel
theorem dX8_job_175 : decode cX8_job 175 = .ok (.ireturn, 1) := by decide +kernel
theorem dX8_of_0 : decode cX8_of 0 = .ok (.aload_n 0, 1) := by decide +kernel
theorem dX8_of_1 : decode cX8_of 1 = .ok (.getfield 28, 3) := by decide +kernel
theorem dX8_of_4 : decode cX8_of 4 = .ok (.iload_n 1, 1) := by decide +kernel
theorem dX8_of_5 : decode cX8_of 5 = .ok (.invokevirtual 143, 3) := by decide +kernel
theorem dX8_of_8 : decode cX8_of 8 = .ok (.ifCond .ne 5, 3) := by decide +kernel
theorem dX8_of_11 : decode cX8_of 11 = .ok (.iconst (-1), 1) := by decide +kernel
theorem dX8_of_12 : decode cX8_of 12 = .ok (.ireturn, 1) := by decide +kernel
theorem dX8_of_13 : decode cX8_of 13 = .ok (.iload_n 2, 1) := by decide +kernel
theorem dX8_of_14 : decode cX8_of 14 = .ok (.tableswitch 98 0 5 #[38, 48, 58, 68, 78, 88], 38) := by decide +kernel
theorem dX8_of_52 : decode cX8_of 52 = .ok (.aload_n 0, 1) := by decide +kernel
theorem dX8_of_53 : decode cX8_of 53 = .ok (.getfield 28, 3) := by decide +kernel
theorem dX8_of_56 : decode cX8_of 56 = .ok (.getfield 144, 3) := by decide +kernel
theorem dX8_of_59 : decode cX8_of 59 = .ok (.iload_n 1, 1) := by decide +kernel
theorem dX8_of_60 : decode cX8_of 60 = .ok (.iaload, 1) := by decide +kernel
theorem dX8_of_61 : decode cX8_of 61 = .ok (.ireturn, 1) := by decide +kernel
theorem dX8_of_62 : decode cX8_of 62 = .ok (.aload_n 0, 1) := by decide +kernel
theorem dX8_of_63 : decode cX8_of 63 = .ok (.getfield 28, 3) := by decide +kernel
theorem dX8_of_66 : decode cX8_of 66 = .ok (.getfield 147, 3) := by decide +kernel
theorem dX8_of_69 : decode cX8_of 69 = .ok (.iload_n 1, 1) := by decide +kernel
theorem dX8_of_70 : decode cX8_of 70 = .ok (.iaload, 1) := by decide +kernel
theorem dX8_of_71 : decode cX8_of 71 = .ok (.ireturn, 1) := by decide +kernel
theorem dX8_of_72 : decode cX8_of 72 = .ok (.aload_n 0, 1) := by decide +kernel
theorem dX8_of_73 : decode cX8_of 73 = .ok (.getfield 28, 3) := by decide +kernel
theorem dX8_of_76 : decode cX8_of 76 = .ok (.getfield 150, 3) := by decide +kernel
theorem dX8_of_79 : decode cX8_of 79 = .ok (.iload_n 1, 1) := by decide +kernel
theorem dX8_of_80 : decode cX8_of 80 = .ok (.iaload, 1) := by decide +kernel
theorem dX8_of_81 : decode cX8_of 81 = .ok (.ireturn, 1) := by decide +kernel
theorem dX8_of_82 : decode cX8_of 82 = .ok (.aload_n 0, 1) := by decide +kernel
theorem dX8_of_83 : decode cX8_of 83 = .ok (.getfield 28, 3) := by decide +kernel
theorem dX8_of_86 : decode cX8_of 86 = .ok (.getfield 153, 3) := by decide +kernel
theorem dX8_of_89 : decode cX8_of 89 = .ok (.iload_n 1, 1) := by decide +kernel
theorem dX8_of_90 : decode cX8_of 90 = .ok (.iaload, 1) := by decide +kernel
theorem dX8_of_91 : decode cX8_of 91 = .ok (.ireturn, 1) := by decide +kernel
theorem dX8_of_92 : decode cX8_of 92 = .ok (.aload_n 0, 1) := by decide +kernel
theorem dX8_of_93 : decode cX8_of 93 = .ok (.getfield 28, 3) := by decide +kernel
theorem dX8_of_96 : decode cX8_of 96 = .ok (.getfield 156, 3) := by decide +kernel
theorem dX8_of_99 : decode cX8_of 99 = .ok (.iload_n 1, 1) := by decide +kernel
theorem dX8_of_100 : decode cX8_of 100 = .ok (.iaload, 1) := by decide +kernel
theorem dX8_of_101 : decode cX8_of 101 = .ok (.ireturn, 1) := by decide +kernel
theorem dX8_of_102 : decode cX8_of 102 = .ok (.aload_n 0, 1) := by decide +kernel
theorem dX8_of_103 : decode cX8_of 103 = .ok (.getfield 28, 3) := by decide +kernel
theorem dX8_of_106 : decode cX8_of 106 = .ok (.getfield 159, 3) := by decide +kernel
theorem dX8_of_109 : decode cX8_of 109 = .ok (.iload_n 1, 1) := by decide +kernel
theorem dX8_of_110 : decode cX8_of 110 = .ok (.iaload, 1) := by decide +kernel
theorem dX8_of_111 : decode cX8_of 111 = .ok (.ireturn, 1) := by decide +kernel
theorem dX8_of_112 : decode cX8_of 112 = .ok (.iload_n 2, 1) := by decide +kernel
theorem dX8_of_113 : decode cX8_of 113 = .ok (.bipush 10, 2) := by decide +kernel
theorem dX8_of_115 : decode cX8_of 115 = .ok (.if_icmp .lt 38, 3) := by decide +kernel
theorem dX8_of_118 : decode cX8_of 118 = .ok (.iload_n 2, 1) := by decide +kernel
theorem dX8_of_119 : decode cX8_of 119 = .ok (.bipush 10, 2) := by decide +kernel
theorem dX8_of_121 : decode cX8_of 121 = .ok (.aload_n 0, 1) := by decide +kernel
theorem dX8_of_122 : decode cX8_of 122 = .ok (.getfield 28, 3) := by decide +kernel
theorem dX8_of_125 : decode cX8_of 125 = .ok (.getfield 153, 3) := by decide +kernel
theorem dX8_of_128 : decode cX8_of 128 = .ok (.iload_n 1, 1) := by decide +kernel
theorem dX8_of_129 : decode cX8_of 129 = .ok (.iaload, 1) := by decide +kernel
theorem dX8_of_130 : decode cX8_of 130 = .ok (.iadd, 1) := by decide +kernel
theorem dX8_of_131 : decode cX8_of 131 = .ok (.if_icmp .ge 22, 3) := by decide +kernel
theorem dX8_of_134 : decode cX8_of 134 = .ok (.aload_n 0, 1) := by decide +kernel
theorem dX8_of_135 : decode cX8_of 135 = .ok (.getfield 28, 3) := by decide +kernel
theorem dX8_of_138 : decode cX8_of 138 = .ok (.getfield 162, 3) := by decide +kernel
theorem dX8_of_141 : decode cX8_of 141 = .ok (.iload_n 1, 1) := by decide +kernel
theorem dX8_of_142 : decode cX8_of 142 = .ok (.iconst 4, 1) := by decide +kernel
theorem dX8_of_143 : decode cX8_of 143 = .ok (.imul, 1) := by decide +kernel
theorem dX8_of_144 : decode cX8_of 144 = .ok (.iload_n 2, 1) := by decide +kernel
theorem dX8_of_145 : decode cX8_of 145 = .ok (.iadd, 1) := by decide +kernel
theorem dX8_of_146 : decode cX8_of 146 = .ok (.bipush 10, 2) := by decide +kernel
theorem dX8_of_148 : decode cX8_of 148 = .ok (.isub, 1) := by decide +kernel
theorem dX8_of_149 : decode cX8_of 149 = .ok (.iaload, 1) := by decide +kernel
theorem dX8_of_150 : decode cX8_of 150 = .ok (.goto 4, 3) := by decide +kernel
theorem dX8_of_153 : decode cX8_of 153 = .ok (.iconst (-1), 1) := by decide +kernel
theorem dX8_of_154 : decode cX8_of 154 = .ok (.ireturn, 1) := by decide +kernel
theorem dX8_may_0 : decode cX8_may 0 = .ok (.aload_n 0, 1) := by decide +kernel
theorem dX8_may_1 : decode cX8_may 1 = .ok (.getfield 28, 3) := by decide +kernel
theorem dX8_may_4 : decode cX8_may 4 = .ok (.iload_n 1, 1) := by decide +kernel
theorem dX8_may_5 : decode cX8_may 5 = .ok (.invokevirtual 143, 3) := by decide +kernel
theorem dX8_may_8 : decode cX8_may 8 = .ok (.ifCond .eq 23, 3) := by decide +kernel
theorem dX8_may_11 : decode cX8_may 11 = .ok (.iload_n 2, 1) := by decide +kernel
theorem dX8_may_12 : decode cX8_may 12 = .ok (.invokestatic 71, 3) := by decide +kernel
theorem dX8_may_15 : decode cX8_may 15 = .ok (.ifCond .eq 16, 3) := by decide +kernel
theorem dX8_may_18 : decode cX8_may 18 = .ok (.aload_n 0, 1) := by decide +kernel
theorem dX8_may_19 : decode cX8_may 19 = .ok (.getfield 28, 3) := by decide +kernel
theorem dX8_may_22 : decode cX8_may 22 = .ok (.getfield 156, 3) := by decide +kernel
theorem dX8_may_25 : decode cX8_may 25 = .ok (.iload_n 1, 1) := by decide +kernel
theorem dX8_may_26 : decode cX8_may 26 = .ok (.iaload, 1) := by decide +kernel
theorem dX8_may_27 : decode cX8_may 27 = .ok (.iconst 2, 1) := by decide +kernel
theorem dX8_may_28 : decode cX8_may 28 = .ok (.if_icmp .ne 5, 3) := by decide +kernel
theorem dX8_may_31 : decode cX8_may 31 = .ok (.iconst (-1), 1) := by decide +kernel
theorem dX8_may_32 : decode cX8_may 32 = .ok (.ireturn, 1) := by decide +kernel
theorem dX8_may_33 : decode cX8_may 33 = .ok (.aload_n 0, 1) := by decide +kernel
theorem dX8_may_34 : decode cX8_may 34 = .ok (.getfield 37, 3) := by decide +kernel
theorem dX8_may_37 : decode cX8_may 37 = .ok (.iload_n 1, 1) := by decide +kernel
theorem dX8_may_38 : decode cX8_may 38 = .ok (.iload_n 2, 1) := by decide +kernel
theorem dX8_may_39 : decode cX8_may 39 = .ok (.invokevirtual 165, 3) := by decide +kernel
theorem dX8_may_42 : decode cX8_may 42 = .ok (.ifCond .eq 7, 3) := by decide +kernel
theorem dX8_may_45 : decode cX8_may 45 = .ok (.iconst 1, 1) := by decide +kernel
theorem dX8_may_46 : decode cX8_may 46 = .ok (.goto 4, 3) := by decide +kernel
theorem dX8_may_49 : decode cX8_may 49 = .ok (.iconst 0, 1) := by decide +kernel
theorem dX8_may_50 : decode cX8_may 50 = .ok (.ireturn, 1) := by decide +kernel
theorem dX8_put_0 : decode cX8_put 0 = .ok (.aload_n 0, 1) := by decide +kernel
theorem dX8_put_1 : decode cX8_put 1 = .ok (.getfield 28, 3) := by decide +kernel
theorem dX8_put_4 : decode cX8_put 4 = .ok (.iload_n 1, 1) := by decide +kernel
theorem dX8_put_5 : decode cX8_put 5 = .ok (.invokevirtual 143, 3) := by decide +kernel
theorem dX8_put_8 : decode cX8_put 8 = .ok (.ifCond .ne 10, 3) := by decide +kernel
theorem dX8_put_11 : decode cX8_put 11 = .ok (.aload_n 0, 1) := by decide +kernel
theorem dX8_put_12 : decode cX8_put 12 = .ok (.bipush (-2), 2) := by decide +kernel
theorem dX8_put_14 : decode cX8_put 14 = .ok (.invokevirtual 81, 3) := by decide +kernel
theorem dX8_put_17 : decode cX8_put 17 = .ok (.ireturn, 1) := by decide +kernel
theorem dX8_put_18 : decode cX8_put 18 = .ok (.aload_n 0, 1) := by decide +kernel
theorem dX8_put_19 : decode cX8_put 19 = .ok (.getfield 28, 3) := by decide +kernel
theorem dX8_put_22 : decode cX8_put 22 = .ok (.getfield 156, 3) := by decide +kernel
theorem dX8_put_25 : decode cX8_put 25 = .ok (.iload_n 1, 1) := by decide +kernel
theorem dX8_put_26 : decode cX8_put 26 = .ok (.iaload, 1) := by decide +kernel
theorem dX8_put_27 : decode cX8_put 27 = .ok (.iconst 2, 1) := by decide +kernel
theorem dX8_put_28 : decode cX8_put 28 = .ok (.if_icmp .ne 10, 3) := by decide +kernel
theorem dX8_put_31 : decode cX8_put 31 = .ok (.aload_n 0, 1) := by decide +kernel
theorem dX8_put_32 : decode cX8_put 32 = .ok (.bipush (-3), 2) := by decide +kernel
theorem dX8_put_34 : decode cX8_put 34 = .ok (.invokevirtual 81, 3) := by decide +kernel
theorem dX8_put_37 : decode cX8_put 37 = .ok (.ireturn, 1) := by decide +kernel
theorem dX8_put_38 : decode cX8_put 38 = .ok (.aload_n 0, 1) := by decide +kernel
theorem dX8_put_39 : decode cX8_put 39 = .ok (.getfield 37, 3) := by decide +kernel
theorem dX8_put_42 : decode cX8_put 42 = .ok (.iload_n 1, 1) := by decide +kernel
theorem dX8_put_43 : decode cX8_put 43 = .ok (.iload_n 2, 1) := by decide +kernel
theorem dX8_put_44 : decode cX8_put 44 = .ok (.invokevirtual 165, 3) := by decide +kernel
theorem dX8_put_47 : decode cX8_put 47 = .ok (.ifCond .ne 10, 3) := by decide +kernel
theorem dX8_put_50 : decode cX8_put 50 = .ok (.aload_n 0, 1) := by decide +kernel
theorem dX8_put_51 : decode cX8_put 51 = .ok (.bipush (-6), 2) := by decide +kernel
theorem dX8_put_53 : decode cX8_put 53 = .ok (.invokevirtual 81, 3) := by decide +kernel
theorem dX8_put_56 : decode cX8_put 56 = .ok (.ireturn, 1) := by decide +kernel
theorem dX8_put_57 : decode cX8_put 57 = .ok (.aload_n 0, 1) := by decide +kernel
theorem dX8_put_58 : decode cX8_put 58 = .ok (.getfield 28, 3) := by decide +kernel
theorem dX8_put_61 : decode cX8_put 61 = .ok (.iload_n 1, 1) := by decide +kernel
theorem dX8_put_62 : decode cX8_put 62 = .ok (.invokevirtual 168, 3) := by decide +kernel
theorem dX8_put_65 : decode cX8_put 65 = .ok (.aload_n 0, 1) := by decide +kernel
theorem dX8_put_66 : decode cX8_put 66 = .ok (.getfield 28, 3) := by decide +kernel
theorem dX8_put_69 : decode cX8_put 69 = .ok (.iload_n 1, 1) := by decide +kernel
theorem dX8_put_70 : decode cX8_put 70 = .ok (.iload_n 2, 1) := by decide +kernel
theorem dX8_put_71 : decode cX8_put 71 = .ok (.invokevirtual 172, 3) := by decide +kernel
theorem dX8_put_74 : decode cX8_put 74 = .ok (.aload_n 0, 1) := by decide +kernel
theorem dX8_put_75 : decode cX8_put 75 = .ok (.iconst 0, 1) := by decide +kernel
theorem dX8_put_76 : decode cX8_put 76 = .ok (.invokevirtual 99, 3) := by decide +kernel
theorem dX8_put_79 : decode cX8_put 79 = .ok (.ireturn, 1) := by decide +kernel
theorem dX8_whole_0 : decode cX8_whole 0 = .ok (.aload_n 0, 1) := by decide +kernel
theorem dX8_whole_1 : decode cX8_whole 1 = .ok (.getfield 28, 3) := by decide +kernel
theorem dX8_whole_4 : decode cX8_whole 4 = .ok (.getfield 134, 3) := by decide +kernel
theorem dX8_whole_7 : decode cX8_whole 7 = .ok (.aload_n 0, 1) := by decide +kernel
theorem dX8_whole_8 : decode cX8_whole 8 = .ok (.getfield 28, 3) := by decide +kernel
theorem dX8_whole_11 : decode cX8_whole 11 = .ok (.iconst 2, 1) := by decide +kernel
theorem dX8_whole_12 : decode cX8_whole 12 = .ok (.invokevirtual 176, 3) := by decide +kernel
theorem dX8_whole_15 : decode cX8_whole 15 = .ok (.isub, 1) := by decide +kernel
theorem dX8_whole_16 : decode cX8_whole 16 = .ok (.iconst 5, 1) := by decide +kernel
theorem dX8_whole_17 : decode cX8_whole 17 = .ok (.if_icmp .le 15, 3) := by decide +kernel
theorem dX8_whole_20 : decode cX8_whole 20 = .ok (.ldc2_w 179, 3) := by decide +kernel
theorem dX8_whole_23 : decode cX8_whole 23 = .ok (.aload_n 0, 1) := by decide +kernel
theorem dX8_whole_24 : decode cX8_whole 24 = .ok (.bipush (-5), 2) := by decide +kernel
theorem dX8_whole_26 : decode cX8_whole 26 = .ok (.invokevirtual 81, 3) := by decide +kernel
theorem dX8_whole_29 : decode cX8_whole 29 = .ok (.i2l, 1) := by decide +kernel
theorem dX8_whole_30 : decode cX8_whole 30 = .ok (.ladd, 1) := by decide +kernel
theorem dX8_whole_31 : decode cX8_whole 31 = .ok (.lreturn, 1) := by decide +kernel
theorem dX8_whole_32 : decode cX8_whole 32 = .ok (.aload_n 0, 1) := by decide +kernel
theorem dX8_whole_33 : decode cX8_whole 33 = .ok (.getfield 37, 3) := by decide +kernel
theorem dX8_whole_36 : decode cX8_whole 36 = .ok (.invokevirtual 181, 3) := by decide +kernel
theorem dX8_whole_39 : decode cX8_whole 39 = .ok (.ifCond .ne 15, 3) := by decide +kernel
theorem dX8_whole_42 : decode cX8_whole 42 = .ok (.ldc2_w 179, 3) := by decide +kernel
theorem dX8_whole_45 : decode cX8_whole 45 = .ok (.aload_n 0, 1) := by decide +kernel
theorem dX8_whole_46 : decode cX8_whole 46 = .ok (.bipush (-6), 2) := by decide +kernel
theorem dX8_whole_48 : decode cX8_whole 48 = .ok (.invokevirtual 81, 3) := by decide +kernel
theorem dX8_whole_51 : decode cX8_whole 51 = .ok (.i2l, 1) := by decide +kernel
theorem dX8_whole_52 : decode cX8_whole 52 = .ok (.ladd, 1) := by decide +kernel
theorem dX8_whole_53 : decode cX8_whole 53 = .ok (.lreturn, 1) := by decide +kernel
theorem dX8_whole_54 : decode cX8_whole 54 = .ok (.aload_n 0, 1) := by decide +kernel
theorem dX8_whole_55 : decode cX8_whole 55 = .ok (.iconst 0, 1) := by decide +kernel
theorem dX8_whole_56 : decode cX8_whole 56 = .ok (.invokevirtual 99, 3) := by decide +kernel
theorem dX8_whole_59 : decode cX8_whole 59 = .ok (.pop, 1) := by decide +kernel
theorem dX8_whole_60 : decode cX8_whole 60 = .ok (.aload_n 0, 1) := by decide +kernel
theorem dX8_whole_61 : decode cX8_whole 61 = .ok (.getfield 37, 3) := by decide +kernel
theorem dX8_whole_64 : decode cX8_whole 64 = .ok (.getfield 185, 3) := by decide +kernel
theorem dX8_whole_67 : decode cX8_whole 67 = .ok (.getfield 189, 3) := by decide +kernel
theorem dX8_whole_70 : decode cX8_whole 70 = .ok (.lreturn, 1) := by decide +kernel
theorem dX8_each_0 : decode cX8_each 0 = .ok (.aload_n 0, 1) := by decide +kernel
theorem dX8_each_1 : decode cX8_each 1 = .ok (.getfield 37, 3) := by decide +kernel
theorem dX8_each_4 : decode cX8_each 4 = .ok (.invokevirtual 195, 3) := by decide +kernel
theorem dX8_each_7 : decode cX8_each 7 = .ok (.ireturn, 1) := by decide +kernel
theorem dX8_feed_0 : decode cX8_feed 0 = .ok (.aload_n 0, 1) := by decide +kernel
theorem dX8_feed_1 : decode cX8_feed 1 = .ok (.getfield 44, 3) := by decide +kernel
theorem dX8_feed_4 : decode cX8_feed 4 = .ok (.getfield 199, 3) := by decide +kernel
theorem dX8_feed_7 : decode cX8_feed 7 = .ok (.sipush 280, 3) := by decide +kernel
theorem dX8_feed_10 : decode cX8_feed 10 = .ok (.if_icmp .le 5, 3) := by decide +kernel
theorem dX8_feed_13 : decode cX8_feed 13 = .ok (.iconst (-1), 1) := by decide +kernel
theorem dX8_feed_14 : decode cX8_feed 14 = .ok (.ireturn, 1) := by decide +kernel
theorem dX8_feed_15 : decode cX8_feed 15 = .ok (.aload_n 0, 1) := by decide +kernel
theorem dX8_feed_16 : decode cX8_feed 16 = .ok (.getfield 44, 3) := by decide +kernel
theorem dX8_feed_19 : decode cX8_feed 19 = .ok (.iload_n 1, 1) := by decide +kernel
theorem dX8_feed_20 : decode cX8_feed 20 = .ok (.invokevirtual 202, 3) := by decide +kernel
theorem dX8_feed_23 : decode cX8_feed 23 = .ok (.aload_n 0, 1) := by decide +kernel
theorem dX8_feed_24 : decode cX8_feed 24 = .ok (.getfield 44, 3) := by decide +kernel
theorem dX8_feed_27 : decode cX8_feed 27 = .ok (.iload_n 2, 1) := by decide +kernel
theorem dX8_feed_28 : decode cX8_feed 28 = .ok (.invokevirtual 202, 3) := by decide +kernel
theorem dX8_feed_31 : decode cX8_feed 31 = .ok (.aload_n 0, 1) := by decide +kernel
theorem dX8_feed_32 : decode cX8_feed 32 = .ok (.getfield 44, 3) := by decide +kernel
theorem dX8_feed_35 : decode cX8_feed 35 = .ok (.iload_n 3, 1) := by decide +kernel
theorem dX8_feed_36 : decode cX8_feed 36 = .ok (.invokevirtual 202, 3) := by decide +kernel
theorem dX8_feed_39 : decode cX8_feed 39 = .ok (.aload_n 0, 1) := by decide +kernel
theorem dX8_feed_40 : decode cX8_feed 40 = .ok (.getfield 44, 3) := by decide +kernel
theorem dX8_feed_43 : decode cX8_feed 43 = .ok (.iload 4, 2) := by decide +kernel
theorem dX8_feed_45 : decode cX8_feed 45 = .ok (.invokevirtual 202, 3) := by decide +kernel
theorem dX8_feed_48 : decode cX8_feed 48 = .ok (.aload_n 0, 1) := by decide +kernel
theorem dX8_feed_49 : decode cX8_feed 49 = .ok (.getfield 44, 3) := by decide +kernel
theorem dX8_feed_52 : decode cX8_feed 52 = .ok (.iload 5, 2) := by decide +kernel
theorem dX8_feed_54 : decode cX8_feed 54 = .ok (.invokevirtual 202, 3) := by decide +kernel
theorem dX8_feed_57 : decode cX8_feed 57 = .ok (.aload_n 0, 1) := by decide +kernel
theorem dX8_feed_58 : decode cX8_feed 58 = .ok (.getfield 44, 3) := by decide +kernel
theorem dX8_feed_61 : decode cX8_feed 61 = .ok (.getfield 199, 3) := by decide +kernel
theorem dX8_feed_64 : decode cX8_feed 64 = .ok (.ireturn, 1) := by decide +kernel
theorem dX8_end_0 : decode cX8_end 0 = .ok (.iload_n 1, 1) := by decide +kernel
theorem dX8_end_1 : decode cX8_end 1 = .ok (.ifCond .lt 14, 3) := by decide +kernel
theorem dX8_end_4 : decode cX8_end 4 = .ok (.iload_n 1, 1) := by decide +kernel
theorem dX8_end_5 : decode cX8_end 5 = .ok (.aload_n 0, 1) := by decide +kernel
theorem dX8_end_6 : decode cX8_end 6 = .ok (.getfield 44, 3) := by decide +kernel
theorem dX8_end_9 : decode cX8_end 9 = .ok (.getfield 199, 3) := by decide +kernel
theorem dX8_end_12 : decode cX8_end 12 = .ok (.if_icmp .le 5, 3) := by decide +kernel
theorem dX8_end_15 : decode cX8_end 15 = .ok (.iconst (-1), 1) := by decide +kernel
theorem dX8_end_16 : decode cX8_end 16 = .ok (.ireturn, 1) := by decide +kernel
theorem dX8_end_17 : decode cX8_end 17 = .ok (.aload_n 0, 1) := by decide +kernel
theorem dX8_end_18 : decode cX8_end 18 = .ok (.getfield 44, 3) := by decide +kernel
theorem dX8_end_21 : decode cX8_end 21 = .ok (.iload_n 1, 1) := by decide +kernel
theorem dX8_end_22 : decode cX8_end 22 = .ok (.putfield 199, 3) := by decide +kernel
theorem dX8_end_25 : decode cX8_end 25 = .ok (.iload_n 1, 1) := by decide +kernel
theorem dX8_end_26 : decode cX8_end 26 = .ok (.ireturn, 1) := by decide +kernel
theorem dX8_rules_0 : decode cX8_rules 0 = .ok (.aload_n 0, 1) := by decide +kernel
theorem dX8_rules_1 : decode cX8_rules 1 = .ok (.getfield 44, 3) := by decide +kernel
theorem dX8_rules_4 : decode cX8_rules 4 = .ok (.aload_n 0, 1) := by decide +kernel
theorem dX8_rules_5 : decode cX8_rules 5 = .ok (.getfield 60, 3) := by decide +kernel
theorem dX8_rules_8 : decode cX8_rules 8 = .ok (.invokevirtual 205, 3) := by decide +kernel
theorem dX8_rules_11 : decode cX8_rules 11 = .ok (.istore_n 1, 1) := by decide +kernel
theorem dX8_rules_12 : decode cX8_rules 12 = .ok (.aload_n 0, 1) := by decide +kernel
theorem dX8_rules_13 : decode cX8_rules 13 = .ok (.iload_n 1, 1) := by decide +kernel
theorem dX8_rules_14 : decode cX8_rules 14 = .ok (.ifCond .eq 7, 3) := by decide +kernel
theorem dX8_rules_17 : decode cX8_rules 17 = .ok (.iconst (-1), 1) := by decide +kernel
theorem dX8_rules_18 : decode cX8_rules 18 = .ok (.goto 10, 3) := by decide +kernel
theorem dX8_rules_21 : decode cX8_rules 21 = .ok (.aload_n 0, 1) := by decide +kernel
theorem dX8_rules_22 : decode cX8_rules 22 = .ok (.getfield 44, 3) := by decide +kernel
theorem dX8_rules_25 : decode cX8_rules 25 = .ok (.getfield 209, 3) := by decide +kernel
theorem dX8_rules_28 : decode cX8_rules 28 = .ok (.putfield 64, 3) := by decide +kernel
theorem dX8_rules_31 : decode cX8_rules 31 = .ok (.aload_n 0, 1) := by decide +kernel
theorem dX8_rules_32 : decode cX8_rules 32 = .ok (.getfield 44, 3) := by decide +kernel
theorem dX8_rules_35 : decode cX8_rules 35 = .ok (.iconst 0, 1) := by decide +kernel
theorem dX8_rules_36 : decode cX8_rules 36 = .ok (.putfield 199, 3) := by decide +kernel
theorem dX8_rules_39 : decode cX8_rules 39 = .ok (.iload_n 1, 1) := by decide +kernel
theorem dX8_rules_40 : decode cX8_rules 40 = .ok (.ifCond .ne 10, 3) := by decide +kernel
theorem dX8_rules_43 : decode cX8_rules 43 = .ok (.aload_n 0, 1) := by decide +kernel
theorem dX8_rules_44 : decode cX8_rules 44 = .ok (.bipush (-6), 2) := by decide +kernel
theorem dX8_rules_46 : decode cX8_rules 46 = .ok (.invokevirtual 81, 3) := by decide +kernel
theorem dX8_rules_49 : decode cX8_rules 49 = .ok (.ireturn, 1) := by decide +kernel
theorem dX8_rules_50 : decode cX8_rules 50 = .ok (.aload_n 0, 1) := by decide +kernel
theorem dX8_rules_51 : decode cX8_rules 51 = .ok (.getfield 37, 3) := by decide +kernel
theorem dX8_rules_54 : decode cX8_rules 54 = .ok (.getfield 212, 3) := by decide +kernel
theorem dX8_rules_57 : decode cX8_rules 57 = .ok (.astore_n 2, 1) := by decide +kernel
theorem dX8_rules_58 : decode cX8_rules 58 = .ok (.aload_n 0, 1) := by decide +kernel
theorem dX8_rules_59 : decode cX8_rules 59 = .ok (.getfield 37, 3) := by decide +kernel
theorem dX8_rules_62 : decode cX8_rules 62 = .ok (.aload_n 0, 1) := by decide +kernel
theorem dX8_rules_63 : decode cX8_rules 63 = .ok (.getfield 60, 3) := by decide +kernel
theorem dX8_rules_66 : decode cX8_rules 66 = .ok (.putfield 212, 3) := by decide +kernel
theorem dX8_rules_69 : decode cX8_rules 69 = .ok (.aload_n 0, 1) := by decide +kernel
theorem dX8_rules_70 : decode cX8_rules 70 = .ok (.aload_n 2, 1) := by decide +kernel
theorem dX8_rules_71 : decode cX8_rules 71 = .ok (.putfield 60, 3) := by decide +kernel
theorem dX8_rules_74 : decode cX8_rules 74 = .ok (.aload_n 0, 1) := by decide +kernel
theorem dX8_rules_75 : decode cX8_rules 75 = .ok (.aload_n 0, 1) := by decide +kernel
theorem dX8_rules_76 : decode cX8_rules 76 = .ok (.getfield 37, 3) := by decide +kernel
theorem dX8_rules_79 : decode cX8_rules 79 = .ok (.getfield 212, 3) := by decide +kernel
theorem dX8_rules_82 : decode cX8_rules 82 = .ok (.getfield 215, 3) := by decide +kernel
theorem dX8_rules_85 : decode cX8_rules 85 = .ok (.invokevirtual 99, 3) := by decide +kernel
theorem dX8_rules_88 : decode cX8_rules 88 = .ok (.ireturn, 1) := by decide +kernel
theorem dX8_fault_0 : decode cX8_fault 0 = .ok (.aload_n 0, 1) := by decide +kernel
theorem dX8_fault_1 : decode cX8_fault 1 = .ok (.getfield 64, 3) := by decide +kernel
theorem dX8_fault_4 : decode cX8_fault 4 = .ok (.ireturn, 1) := by decide +kernel
theorem dX8_go_0 : decode cX8_go 0 = .ok (.iload_n 1, 1) := by decide +kernel
theorem dX8_go_1 : decode cX8_go 1 = .ok (.iconst 1, 1) := by decide +kernel
theorem dX8_go_2 : decode cX8_go 2 = .ok (.if_icmp .lt 24, 3) := by decide +kernel
theorem dX8_go_5 : decode cX8_go 5 = .ok (.iload_n 1, 1) := by decide +kernel
theorem dX8_go_6 : decode cX8_go 6 = .ok (.bipush 48, 2) := by decide +kernel
theorem dX8_go_8 : decode cX8_go 8 = .ok (.if_icmp .gt 18, 3) := by decide +kernel
theorem dX8_go_11 : decode cX8_go 11 = .ok (.aload_n 0, 1) := by decide +kernel
theorem dX8_go_12 : decode cX8_go 12 = .ok (.getfield 37, 3) := by decide +kernel
theorem dX8_go_15 : decode cX8_go 15 = .ok (.getfield 92, 3) := by decide +kernel
theorem dX8_go_18 : decode cX8_go 18 = .ok (.iload_n 1, 1) := by decide +kernel
theorem dX8_go_19 : decode cX8_go 19 = .ok (.iadd, 1) := by decide +kernel
theorem dX8_go_20 : decode cX8_go 20 = .ok (.sipush 168, 3) := by decide +kernel
theorem dX8_go_23 : decode cX8_go 23 = .ok (.if_icmp .lt 9, 3) := by decide +kernel
theorem dX8_go_26 : decode cX8_go 26 = .ok (.aload_n 0, 1) := by decide +kernel
theorem dX8_go_27 : decode cX8_go 27 = .ok (.iconst (-1), 1) := by decide +kernel
theorem dX8_go_28 : decode cX8_go 28 = .ok (.invokevirtual 81, 3) := by decide +kernel
theorem dX8_go_31 : decode cX8_go 31 = .ok (.ireturn, 1) := by decide +kernel
theorem dX8_go_32 : decode cX8_go 32 = .ok (.aload_n 0, 1) := by decide +kernel
theorem dX8_go_33 : decode cX8_go 33 = .ok (.getfield 37, 3) := by decide +kernel
theorem dX8_go_36 : decode cX8_go 36 = .ok (.dup, 1) := by decide +kernel
theorem dX8_go_37 : decode cX8_go 37 = .ok (.getfield 92, 3) := by decide +kernel
theorem dX8_go_40 : decode cX8_go 40 = .ok (.iload_n 1, 1) := by decide +kernel
theorem dX8_go_41 : decode cX8_go 41 = .ok (.iadd, 1) := by decide +kernel
theorem dX8_go_42 : decode cX8_go 42 = .ok (.putfield 92, 3) := by decide +kernel
theorem dX8_go_45 : decode cX8_go 45 = .ok (.aload_n 0, 1) := by decide +kernel
theorem dX8_go_46 : decode cX8_go 46 = .ok (.getfield 28, 3) := by decide +kernel
theorem dX8_go_49 : decode cX8_go 49 = .ok (.aload_n 0, 1) := by decide +kernel
theorem dX8_go_50 : decode cX8_go 50 = .ok (.getfield 37, 3) := by decide +kernel
theorem dX8_go_53 : decode cX8_go 53 = .ok (.getfield 92, 3) := by decide +kernel
theorem dX8_go_56 : decode cX8_go 56 = .ok (.invokevirtual 216, 3) := by decide +kernel
theorem dX8_go_59 : decode cX8_go 59 = .ok (.aload_n 0, 1) := by decide +kernel
theorem dX8_go_60 : decode cX8_go 60 = .ok (.getfield 10, 3) := by decide +kernel
theorem dX8_go_63 : decode cX8_go 63 = .ok (.aload_n 0, 1) := by decide +kernel
theorem dX8_go_64 : decode cX8_go 64 = .ok (.getfield 10, 3) := by decide +kernel
theorem dX8_go_67 : decode cX8_go 67 = .ok (.getfield 95, 3) := by decide +kernel
theorem dX8_go_70 : decode cX8_go 70 = .ok (.aload_n 0, 1) := by decide +kernel
theorem dX8_go_71 : decode cX8_go 71 = .ok (.getfield 37, 3) := by decide +kernel
theorem dX8_go_74 : decode cX8_go 74 = .ok (.getfield 92, 3) := by decide +kernel
theorem dX8_go_77 : decode cX8_go 77 = .ok (.invokevirtual 105, 3) := by decide +kernel
theorem dX8_go_80 : decode cX8_go 80 = .ok (.aload_n 0, 1) := by decide +kernel
theorem dX8_go_81 : decode cX8_go 81 = .ok (.aload_n 0, 1) := by decide +kernel
theorem dX8_go_82 : decode cX8_go 82 = .ok (.getfield 37, 3) := by decide +kernel
theorem dX8_go_85 : decode cX8_go 85 = .ok (.getfield 92, 3) := by decide +kernel
theorem dX8_go_88 : decode cX8_go 88 = .ok (.invokevirtual 99, 3) := by decide +kernel
theorem dX8_go_91 : decode cX8_go 91 = .ok (.ireturn, 1) := by decide +kernel
theorem dX8_load_0 : decode cX8_load 0 = .ok (.aload_n 0, 1) := by decide +kernel
theorem dX8_load_1 : decode cX8_load 1 = .ok (.getfield 19, 3) := by decide +kernel
theorem dX8_load_4 : decode cX8_load 4 = .ok (.iload_n 1, 1) := by decide +kernel
theorem dX8_load_5 : decode cX8_load 5 = .ok (.invokevirtual 121, 3) := by decide +kernel
theorem dX8_load_8 : decode cX8_load 8 = .ok (.ifCond .eq 22, 3) := by decide +kernel
theorem dX8_load_11 : decode cX8_load 11 = .ok (.iload_n 2, 1) := by decide +kernel
theorem dX8_load_12 : decode cX8_load 12 = .ok (.invokestatic 71, 3) := by decide +kernel
theorem dX8_load_15 : decode cX8_load 15 = .ok (.ifCond .eq 15, 3) := by decide +kernel
theorem dX8_load_18 : decode cX8_load 18 = .ok (.aload_n 0, 1) := by decide +kernel
theorem dX8_load_19 : decode cX8_load 19 = .ok (.getfield 19, 3) := by decide +kernel
theorem dX8_load_22 : decode cX8_load 22 = .ok (.iload_n 1, 1) := by decide +kernel
theorem dX8_load_23 : decode cX8_load 23 = .ok (.iload_n 2, 1) := by decide +kernel
theorem dX8_load_24 : decode cX8_load 24 = .ok (.invokevirtual 219, 3) := by decide +kernel
theorem dX8_load_27 : decode cX8_load 27 = .ok (.goto 4, 3) := by decide +kernel
theorem dX8_load_30 : decode cX8_load 30 = .ok (.iconst (-1), 1) := by decide +kernel
theorem dX8_load_31 : decode cX8_load 31 = .ok (.ireturn, 1) := by decide +kernel
theorem dX8_cost_0 : decode cX8_cost 0 = .ok (.aload_n 0, 1) := by decide +kernel
theorem dX8_cost_1 : decode cX8_cost 1 = .ok (.getfield 28, 3) := by decide +kernel
theorem dX8_cost_4 : decode cX8_cost 4 = .ok (.iload_n 1, 1) := by decide +kernel
theorem dX8_cost_5 : decode cX8_cost 5 = .ok (.invokevirtual 143, 3) := by decide +kernel
theorem dX8_cost_8 : decode cX8_cost 8 = .ok (.ifCond .eq 22, 3) := by decide +kernel
theorem dX8_cost_11 : decode cX8_cost 11 = .ok (.aload_n 0, 1) := by decide +kernel
theorem dX8_cost_12 : decode cX8_cost 12 = .ok (.getfield 28, 3) := by decide +kernel
theorem dX8_cost_15 : decode cX8_cost 15 = .ok (.getfield 156, 3) := by decide +kernel
theorem dX8_cost_18 : decode cX8_cost 18 = .ok (.iload_n 1, 1) := by decide +kernel
theorem dX8_cost_19 : decode cX8_cost 19 = .ok (.iaload, 1) := by decide +kernel
theorem dX8_cost_20 : decode cX8_cost 20 = .ok (.ifCond .eq 10, 3) := by decide +kernel
theorem dX8_cost_23 : decode cX8_cost 23 = .ok (.iload_n 2, 1) := by decide +kernel
theorem dX8_cost_24 : decode cX8_cost 24 = .ok (.invokestatic 78, 3) := by decide +kernel
theorem dX8_cost_27 : decode cX8_cost 27 = .ok (.ifCond .ne 5, 3) := by decide +kernel
theorem dX8_cost_30 : decode cX8_cost 30 = .ok (.lconst 0, 1) := by decide +kernel
theorem dX8_cost_31 : decode cX8_cost 31 = .ok (.lreturn, 1) := by decide +kernel
theorem dX8_cost_32 : decode cX8_cost 32 = .ok (.aload_n 0, 1) := by decide +kernel
theorem dX8_cost_33 : decode cX8_cost 33 = .ok (.getfield 10, 3) := by decide +kernel
theorem dX8_cost_36 : decode cX8_cost 36 = .ok (.aload_n 0, 1) := by decide +kernel
theorem dX8_cost_37 : decode cX8_cost 37 = .ok (.getfield 10, 3) := by decide +kernel
theorem dX8_cost_40 : decode cX8_cost 40 = .ok (.getfield 222, 3) := by decide +kernel
theorem dX8_cost_43 : decode cX8_cost 43 = .ok (.iload_n 2, 1) := by decide +kernel
theorem dX8_cost_44 : decode cX8_cost 44 = .ok (.invokevirtual 105, 3) := by decide +kernel
theorem dX8_cost_47 : decode cX8_cost 47 = .ok (.aload_n 0, 1) := by decide +kernel
theorem dX8_cost_48 : decode cX8_cost 48 = .ok (.getfield 28, 3) := by decide +kernel
theorem dX8_cost_51 : decode cX8_cost 51 = .ok (.iload_n 1, 1) := by decide +kernel
theorem dX8_cost_52 : decode cX8_cost 52 = .ok (.aload_n 0, 1) := by decide +kernel
theorem dX8_cost_53 : decode cX8_cost 53 = .ok (.getfield 28, 3) := by decide +kernel
theorem dX8_cost_56 : decode cX8_cost 56 = .ok (.getfield 159, 3) := by decide +kernel
theorem dX8_cost_59 : decode cX8_cost 59 = .ok (.iload_n 1, 1) := by decide +kernel
theorem dX8_cost_60 : decode cX8_cost 60 = .ok (.iaload, 1) := by decide +kernel
theorem dX8_cost_61 : decode cX8_cost 61 = .ok (.aload_n 0, 1) := by decide +kernel
theorem dX8_cost_62 : decode cX8_cost 62 = .ok (.getfield 10, 3) := by decide +kernel
theorem dX8_cost_65 : decode cX8_cost 65 = .ok (.getfield 222, 3) := by decide +kernel
theorem dX8_cost_68 : decode cX8_cost 68 = .ok (.invokevirtual 225, 3) := by decide +kernel
theorem dX8_cost_71 : decode cX8_cost 71 = .ok (.lreturn, 1) := by decide +kernel
theorem dX8_saved_0 : decode cX8_saved 0 = .ok (.iload_n 1, 1) := by decide +kernel
theorem dX8_saved_1 : decode cX8_saved 1 = .ok (.invokestatic 78, 3) := by decide +kernel
theorem dX8_saved_4 : decode cX8_saved 4 = .ok (.ifCond .ne 5, 3) := by decide +kernel
theorem dX8_saved_7 : decode cX8_saved 7 = .ok (.lconst 0, 1) := by decide +kernel
theorem dX8_saved_8 : decode cX8_saved 8 = .ok (.lreturn, 1) := by decide +kernel
theorem dX8_saved_9 : decode cX8_saved 9 = .ok (.aload_n 0, 1) := by decide +kernel
theorem dX8_saved_10 : decode cX8_saved 10 = .ok (.getfield 10, 3) := by decide +kernel
theorem dX8_saved_13 : decode cX8_saved 13 = .ok (.aload_n 0, 1) := by decide +kernel
theorem dX8_saved_14 : decode cX8_saved 14 = .ok (.getfield 10, 3) := by decide +kernel
theorem dX8_saved_17 : decode cX8_saved 17 = .ok (.getfield 222, 3) := by decide +kernel
theorem dX8_saved_20 : decode cX8_saved 20 = .ok (.iload_n 1, 1) := by decide +kernel
theorem dX8_saved_21 : decode cX8_saved 21 = .ok (.invokevirtual 105, 3) := by decide +kernel
theorem dX8_saved_24 : decode cX8_saved 24 = .ok (.lconst 0, 1) := by decide +kernel
theorem dX8_saved_25 : decode cX8_saved 25 = .ok (.lstore_n 2, 1) := by decide +kernel
theorem dX8_saved_26 : decode cX8_saved 26 = .ok (.iconst 0, 1) := by decide +kernel
theorem dX8_saved_27 : decode cX8_saved 27 = .ok (.istore 4, 2) := by decide +kernel
theorem dX8_saved_29 : decode cX8_saved 29 = .ok (.iload 4, 2) := by decide +kernel
theorem dX8_saved_31 : decode cX8_saved 31 = .ok (.aload_n 0, 1) := by decide +kernel
theorem dX8_saved_32 : decode cX8_saved 32 = .ok (.getfield 28, 3) := by decide +kernel
theorem dX8_saved_35 : decode cX8_saved 35 = .ok (.getfield 134, 3) := by decide +kernel
theorem dX8_saved_38 : decode cX8_saved 38 = .ok (.if_icmp .ge 81, 3) := by decide +kernel
theorem dX8_saved_41 : decode cX8_saved 41 = .ok (.aload_n 0, 1) := by decide +kernel
theorem dX8_saved_42 : decode cX8_saved 42 = .ok (.getfield 28, 3) := by decide +kernel
theorem dX8_saved_45 : decode cX8_saved 45 = .ok (.getfield 156, 3) := by decide +kernel
theorem dX8_saved_48 : decode cX8_saved 48 = .ok (.iload 4, 2) := by decide +kernel
theorem dX8_saved_50 : decode cX8_saved 50 = .ok (.iaload, 1) := by decide +kernel
theorem dX8_saved_51 : decode cX8_saved 51 = .ok (.iconst 2, 1) := by decide +kernel
theorem dX8_saved_52 : decode cX8_saved 52 = .ok (.if_icmp .ne 61, 3) := by decide +kernel
theorem dX8_saved_55 : decode cX8_saved 55 = .ok (.lload_n 2, 1) := by decide +kernel
theorem dX8_saved_56 : decode cX8_saved 56 = .ok (.aload_n 0, 1) := by decide +kernel
theorem dX8_saved_57 : decode cX8_saved 57 = .ok (.getfield 28, 3) := by decide +kernel
theorem dX8_saved_60 : decode cX8_saved 60 = .ok (.iload 4, 2) := by decide +kernel
theorem dX8_saved_62 : decode cX8_saved 62 = .ok (.aload_n 0, 1) := by decide +kernel
theorem dX8_saved_63 : decode cX8_saved 63 = .ok (.getfield 28, 3) := by decide +kernel
theorem dX8_saved_66 : decode cX8_saved 66 = .ok (.getfield 147, 3) := by decide +kernel
theorem dX8_saved_69 : decode cX8_saved 69 = .ok (.iload 4, 2) := by decide +kernel
theorem dX8_saved_71 : decode cX8_saved 71 = .ok (.iaload, 1) := by decide +kernel
theorem dX8_saved_72 : decode cX8_saved 72 = .ok (.aload_n 0, 1) := by decide +kernel
theorem dX8_saved_73 : decode cX8_saved 73 = .ok (.getfield 10, 3) := by decide +kernel
theorem dX8_saved_76 : decode cX8_saved 76 = .ok (.getfield 222, 3) := by decide +kernel
theorem dX8_saved_79 : decode cX8_saved 79 = .ok (.invokevirtual 225, 3) := by decide +kernel
theorem dX8_saved_82 : decode cX8_saved 82 = .ok (.ladd, 1) := by decide +kernel
theorem dX8_saved_83 : decode cX8_saved 83 = .ok (.lstore_n 2, 1) := by decide +kernel
theorem dX8_saved_84 : decode cX8_saved 84 = .ok (.lload_n 2, 1) := by decide +kernel
theorem dX8_saved_85 : decode cX8_saved 85 = .ok (.aload_n 0, 1) := by decide +kernel
theorem dX8_saved_86 : decode cX8_saved 86 = .ok (.getfield 28, 3) := by decide +kernel
theorem dX8_saved_89 : decode cX8_saved 89 = .ok (.iload 4, 2) := by decide +kernel
theorem dX8_saved_91 : decode cX8_saved 91 = .ok (.aload_n 0, 1) := by decide +kernel
theorem dX8_saved_92 : decode cX8_saved 92 = .ok (.getfield 28, 3) := by decide +kernel
theorem dX8_saved_95 : decode cX8_saved 95 = .ok (.getfield 159, 3) := by decide +kernel
theorem dX8_saved_98 : decode cX8_saved 98 = .ok (.iload 4, 2) := by decide +kernel
theorem dX8_saved_100 : decode cX8_saved 100 = .ok (.iaload, 1) := by decide +kernel
theorem dX8_saved_101 : decode cX8_saved 101 = .ok (.aload_n 0, 1) := by decide +kernel
theorem dX8_saved_102 : decode cX8_saved 102 = .ok (.getfield 10, 3) := by decide +kernel
theorem dX8_saved_105 : decode cX8_saved 105 = .ok (.getfield 222, 3) := by decide +kernel
theorem dX8_saved_108 : decode cX8_saved 108 = .ok (.invokevirtual 225, 3) := by decide +kernel
theorem dX8_saved_111 : decode cX8_saved 111 = .ok (.lsub, 1) := by decide +kernel
theorem dX8_saved_112 : decode cX8_saved 112 = .ok (.lstore_n 2, 1) := by decide +kernel
theorem dX8_saved_113 : decode cX8_saved 113 = .ok (.iinc 4 1, 3) := by decide +kernel
theorem dX8_saved_116 : decode cX8_saved 116 = .ok (.goto (-87), 3) := by decide +kernel
theorem dX8_saved_119 : decode cX8_saved 119 = .ok (.lload_n 2, 1) := by decide +kernel
theorem dX8_saved_120 : decode cX8_saved 120 = .ok (.lreturn, 1) := by decide +kernel
theorem dX8_store_0 : decode cX8_store 0 = .ok (.iload_n 2, 1) := by decide +kernel
theorem dX8_store_1 : decode cX8_store 1 = .ok (.iconst 1, 1) := by decide +kernel
theorem dX8_store_2 : decode cX8_store 2 = .ok (.if_icmp .lt 31, 3) := by decide +kernel
theorem dX8_store_5 : decode cX8_store 5 = .ok (.iload_n 2, 1) := by decide +kernel
theorem dX8_store_6 : decode cX8_store 6 = .ok (.bipush 40, 2) := by decide +kernel
theorem dX8_store_8 : decode cX8_store 8 = .ok (.if_icmp .gt 25, 3) := by decide +kernel
theorem dX8_store_11 : decode cX8_store 11 = .ok (.iload_n 3, 1) := by decide +kernel
theorem dX8_store_12 : decode cX8_store 12 = .ok (.iload_n 2, 1) := by decide +kernel
theorem dX8_store_13 : decode cX8_store 13 = .ok (.invokestatic 113, 3) := by decide +kernel
theorem dX8_store_16 : decode cX8_store 16 = .ok (.ifCond .eq 17, 3) := by decide +kernel
theorem dX8_store_19 : decode cX8_store 19 = .ok (.iload 7, 2) := by decide +kernel
theorem dX8_store_21 : decode cX8_store 21 = .ok (.iconst 1, 1) := by decide +kernel
theorem dX8_store_22 : decode cX8_store 22 = .ok (.if_icmp .lt 11, 3) := by decide +kernel
theorem dX8_store_25 : decode cX8_store 25 = .ok (.iload 7, 2) := by decide +kernel
theorem dX8_store_27 : decode cX8_store 27 = .ok (.sipush 1000, 3) := by decide +kernel
theorem dX8_store_30 : decode cX8_store 30 = .ok (.if_icmp .le 9, 3) := by decide +kernel
theorem dX8_store_33 : decode cX8_store 33 = .ok (.aload_n 0, 1) := by decide +kernel
theorem dX8_store_34 : decode cX8_store 34 = .ok (.iconst (-1), 1) := by decide +kernel
theorem dX8_store_35 : decode cX8_store 35 = .ok (.invokevirtual 81, 3) := by decide +kernel
theorem dX8_store_38 : decode cX8_store 38 = .ok (.ireturn, 1) := by decide +kernel
theorem dX8_store_39 : decode cX8_store 39 = .ok (.iload 4, 2) := by decide +kernel
theorem dX8_store_41 : decode cX8_store 41 = .ok (.bipush 10, 2) := by decide +kernel
theorem dX8_store_43 : decode cX8_store 43 = .ok (.invokestatic 113, 3) := by decide +kernel
theorem dX8_store_46 : decode cX8_store 46 = .ok (.ifCond .eq 22, 3) := by decide +kernel
theorem dX8_store_49 : decode cX8_store 49 = .ok (.iload 5, 2) := by decide +kernel
theorem dX8_store_51 : decode cX8_store 51 = .ok (.bipush 10, 2) := by decide +kernel
theorem dX8_store_53 : decode cX8_store 53 = .ok (.invokestatic 113, 3) := by decide +kernel
theorem dX8_store_56 : decode cX8_store 56 = .ok (.ifCond .eq 12, 3) := by decide +kernel
theorem dX8_store_59 : decode cX8_store 59 = .ok (.iload 6, 2) := by decide +kernel
theorem dX8_store_61 : decode cX8_store 61 = .ok (.iconst 3, 1) := by decide +kernel
theorem dX8_store_62 : decode cX8_store 62 = .ok (.invokestatic 113, 3) := by decide +kernel
theorem dX8_store_65 : decode cX8_store 65 = .ok (.ifCond .ne 9, 3) := by decide +kernel
theorem dX8_store_68 : decode cX8_store 68 = .ok (.aload_n 0, 1) := by decide +kernel
theorem dX8_store_69 : decode cX8_store 69 = .ok (.iconst (-1), 1) := by decide +kernel
theorem dX8_store_70 : decode cX8_store 70 = .ok (.invokevirtual 81, 3) := by decide +kernel
theorem dX8_store_73 : decode cX8_store 73 = .ok (.ireturn, 1) := by decide +kernel
theorem dX8_store_74 : decode cX8_store 74 = .ok (.aload_n 0, 1) := by decide +kernel
theorem dX8_store_75 : decode cX8_store 75 = .ok (.getfield 19, 3) := by decide +kernel
theorem dX8_store_78 : decode cX8_store 78 = .ok (.iload_n 1, 1) := by decide +kernel
theorem dX8_store_79 : decode cX8_store 79 = .ok (.invokevirtual 121, 3) := by decide +kernel
theorem dX8_store_82 : decode cX8_store 82 = .ok (.ifCond .ne 10, 3) := by decide +kernel
theorem dX8_store_85 : decode cX8_store 85 = .ok (.aload_n 0, 1) := by decide +kernel
theorem dX8_store_86 : decode cX8_store 86 = .ok (.bipush (-2), 2) := by decide +kernel
theorem dX8_store_88 : decode cX8_store 88 = .ok (.invokevirtual 81, 3) := by decide +kernel
theorem dX8_store_91 : decode cX8_store 91 = .ok (.ireturn, 1) := by decide +kernel
theorem dX8_store_92 : decode cX8_store 92 = .ok (.aload_n 0, 1) := by decide +kernel
theorem dX8_store_93 : decode cX8_store 93 = .ok (.getfield 53, 3) := by decide +kernel
theorem dX8_store_96 : decode cX8_store 96 = .ok (.getfield 229, 3) := by decide +kernel
theorem dX8_store_99 : decode cX8_store 99 = .ok (.bipush 6, 2) := by decide +kernel
theorem dX8_store_101 : decode cX8_store 101 = .ok (.if_icmp .lt 10, 3) := by decide +kernel
theorem dX8_store_104 : decode cX8_store 104 = .ok (.aload_n 0, 1) := by decide +kernel
theorem dX8_store_105 : decode cX8_store 105 = .ok (.bipush (-5), 2) := by decide +kernel
theorem dX8_store_107 : decode cX8_store 107 = .ok (.invokevirtual 81, 3) := by decide +kernel
theorem dX8_store_110 : decode cX8_store 110 = .ok (.ireturn, 1) := by decide +kernel
theorem dX8_store_111 : decode cX8_store 111 = .ok (.aload_n 0, 1) := by decide +kernel
theorem dX8_store_112 : decode cX8_store 112 = .ok (.getfield 53, 3) := by decide +kernel
theorem dX8_store_115 : decode cX8_store 115 = .ok (.iload_n 1, 1) := by decide +kernel
theorem dX8_store_116 : decode cX8_store 116 = .ok (.iload_n 2, 1) := by decide +kernel
theorem dX8_store_117 : decode cX8_store 117 = .ok (.iload_n 3, 1) := by decide +kernel
theorem dX8_store_118 : decode cX8_store 118 = .ok (.invokevirtual 230, 3) := by decide +kernel
theorem dX8_store_121 : decode cX8_store 121 = .ok (.istore 8, 2) := by decide +kernel
theorem dX8_store_123 : decode cX8_store 123 = .ok (.aload_n 0, 1) := by decide +kernel
theorem dX8_store_124 : decode cX8_store 124 = .ok (.getfield 53, 3) := by decide +kernel
theorem dX8_store_127 : decode cX8_store 127 = .ok (.iload 8, 2) := by decide +kernel
theorem dX8_store_129 : decode cX8_store 129 = .ok (.iload 4, 2) := by decide +kernel
theorem dX8_store_131 : decode cX8_store 131 = .ok (.iload 5, 2) := by decide +kernel
theorem dX8_store_133 : decode cX8_store 133 = .ok (.iload 6, 2) := by decide +kernel
theorem dX8_store_135 : decode cX8_store 135 = .ok (.iload 7, 2) := by decide +kernel
theorem dX8_store_137 : decode cX8_store 137 = .ok (.invokevirtual 233, 3) := by decide +kernel
theorem dX8_store_140 : decode cX8_store 140 = .ok (.aload_n 0, 1) := by decide +kernel
theorem dX8_store_141 : decode cX8_store 141 = .ok (.iload 8, 2) := by decide +kernel
theorem dX8_store_143 : decode cX8_store 143 = .ok (.invokevirtual 99, 3) := by decide +kernel
theorem dX8_store_146 : decode cX8_store 146 = .ok (.ireturn, 1) := by decide +kernel
theorem dX8_level_0 : decode cX8_level 0 = .ok (.iload_n 2, 1) := by decide +kernel
theorem dX8_level_1 : decode cX8_level 1 = .ok (.aload_n 0, 1) := by decide +kernel
theorem dX8_level_2 : decode cX8_level 2 = .ok (.getfield 53, 3) := by decide +kernel
theorem dX8_level_5 : decode cX8_level 5 = .ok (.iload_n 1, 1) := by decide +kernel
theorem dX8_level_6 : decode cX8_level 6 = .ok (.invokevirtual 236, 3) := by decide +kernel
theorem dX8_level_9 : decode cX8_level 9 = .ok (.invokestatic 113, 3) := by decide +kernel
theorem dX8_level_12 : decode cX8_level 12 = .ok (.ifCond .ne 9, 3) := by decide +kernel
theorem dX8_level_15 : decode cX8_level 15 = .ok (.aload_n 0, 1) := by decide +kernel
theorem dX8_level_16 : decode cX8_level 16 = .ok (.iconst (-1), 1) := by decide +kernel
theorem dX8_level_17 : decode cX8_level 17 = .ok (.invokevirtual 81, 3) := by decide +kernel
theorem dX8_level_20 : decode cX8_level 20 = .ok (.ireturn, 1) := by decide +kernel
theorem dX8_level_21 : decode cX8_level 21 = .ok (.aload_n 0, 1) := by decide +kernel
theorem dX8_level_22 : decode cX8_level 22 = .ok (.getfield 53, 3) := by decide +kernel
theorem dX8_level_25 : decode cX8_level 25 = .ok (.iload_n 1, 1) := by decide +kernel
theorem dX8_level_26 : decode cX8_level 26 = .ok (.invokevirtual 239, 3) := by decide +kernel
theorem dX8_level_29 : decode cX8_level 29 = .ok (.ifCond .ne 10, 3) := by decide +kernel
theorem dX8_level_32 : decode cX8_level 32 = .ok (.aload_n 0, 1) := by decide +kernel
theorem dX8_level_33 : decode cX8_level 33 = .ok (.bipush (-2), 2) := by decide +kernel
theorem dX8_level_35 : decode cX8_level 35 = .ok (.invokevirtual 81, 3) := by decide +kernel
theorem dX8_level_38 : decode cX8_level 38 = .ok (.ireturn, 1) := by decide +kernel
theorem dX8_level_39 : decode cX8_level 39 = .ok (.aload_n 0, 1) := by decide +kernel
theorem dX8_level_40 : decode cX8_level 40 = .ok (.getfield 53, 3) := by decide +kernel
theorem dX8_level_43 : decode cX8_level 43 = .ok (.getfield 240, 3) := by decide +kernel
theorem dX8_level_46 : decode cX8_level 46 = .ok (.iload_n 1, 1) := by decide +kernel
theorem dX8_level_47 : decode cX8_level 47 = .ok (.iaload, 1) := by decide +kernel
theorem dX8_level_48 : decode cX8_level 48 = .ok (.istore_n 3, 1) := by decide +kernel
theorem dX8_level_49 : decode cX8_level 49 = .ok (.aload_n 0, 1) := by decide +kernel
theorem dX8_level_50 : decode cX8_level 50 = .ok (.getfield 53, 3) := by decide +kernel
theorem dX8_level_53 : decode cX8_level 53 = .ok (.getfield 240, 3) := by decide +kernel
theorem dX8_level_56 : decode cX8_level 56 = .ok (.iload_n 1, 1) := by decide +kernel
theorem dX8_level_57 : decode cX8_level 57 = .ok (.iload_n 2, 1) := by decide +kernel
theorem dX8_level_58 : decode cX8_level 58 = .ok (.iastore, 1) := by decide +kernel
theorem dX8_level_59 : decode cX8_level 59 = .ok (.aload_n 0, 1) := by decide +kernel
theorem dX8_level_60 : decode cX8_level 60 = .ok (.iload_n 3, 1) := by decide +kernel
theorem dX8_level_61 : decode cX8_level 61 = .ok (.invokevirtual 99, 3) := by decide +kernel
theorem dX8_level_64 : decode cX8_level 64 = .ok (.ireturn, 1) := by decide +kernel
theorem dX8_fill_0 : decode cX8_fill 0 = .ok (.iload_n 2, 1) := by decide +kernel
theorem dX8_fill_1 : decode cX8_fill 1 = .ok (.iconst 1, 1) := by decide +kernel
theorem dX8_fill_2 : decode cX8_fill 2 = .ok (.if_icmp .lt 39, 3) := by decide +kernel
theorem dX8_fill_5 : decode cX8_fill 5 = .ok (.iload_n 2, 1) := by decide +kernel
theorem dX8_fill_6 : decode cX8_fill 6 = .ok (.bipush 48, 2) := by decide +kernel
theorem dX8_fill_8 : decode cX8_fill 8 = .ok (.if_icmp .gt 33, 3) := by decide +kernel
theorem dX8_fill_11 : decode cX8_fill 11 = .ok (.aload_n 0, 1) := by decide +kernel
theorem dX8_fill_12 : decode cX8_fill 12 = .ok (.getfield 37, 3) := by decide +kernel
theorem dX8_fill_15 : decode cX8_fill 15 = .ok (.getfield 92, 3) := by decide +kernel
theorem dX8_fill_18 : decode cX8_fill 18 = .ok (.iload_n 2, 1) := by decide +kernel
theorem dX8_fill_19 : decode cX8_fill 19 = .ok (.iadd, 1) := by decide +kernel
theorem dX8_fill_20 : decode cX8_fill 20 = .ok (.sipush 168, 3) := by decide +kernel
theorem dX8_fill_23 : decode cX8_fill 23 = .ok (.if_icmp .gt 18, 3) := by decide +kernel
theorem dX8_fill_26 : decode cX8_fill 26 = .ok (.iload_n 3, 1) := by decide +kernel
theorem dX8_fill_27 : decode cX8_fill 27 = .ok (.aload_n 0, 1) := by decide +kernel
theorem dX8_fill_28 : decode cX8_fill 28 = .ok (.getfield 53, 3) := by decide +kernel
theorem dX8_fill_31 : decode cX8_fill 31 = .ok (.iload_n 1, 1) := by decide +kernel
theorem dX8_fill_32 : decode cX8_fill 32 = .ok (.invokevirtual 236, 3) := by decide +kernel
theorem dX8_fill_35 : decode cX8_fill 35 = .ok (.invokestatic 113, 3) := by decide +kernel
theorem dX8_fill_38 : decode cX8_fill 38 = .ok (.ifCond .ne 14, 3) := by decide +kernel
theorem dX8_fill_41 : decode cX8_fill 41 = .ok (.ldc2_w 179, 3) := by decide +kernel
theorem dX8_fill_44 : decode cX8_fill 44 = .ok (.aload_n 0, 1) := by decide +kernel
theorem dX8_fill_45 : decode cX8_fill 45 = .ok (.iconst (-1), 1) := by decide +kernel
theorem dX8_fill_46 : decode cX8_fill 46 = .ok (.invokevirtual 81, 3) := by decide +kernel
theorem dX8_fill_49 : decode cX8_fill 49 = .ok (.i2l, 1) := by decide +kernel
theorem dX8_fill_50 : decode cX8_fill 50 = .ok (.ladd, 1) := by decide +kernel
theorem dX8_fill_51 : decode cX8_fill 51 = .ok (.lreturn, 1) := by decide +kernel
theorem dX8_fill_52 : decode cX8_fill 52 = .ok (.aload_n 0, 1) := by decide +kernel
theorem dX8_fill_53 : decode cX8_fill 53 = .ok (.getfield 53, 3) := by decide +kernel
theorem dX8_fill_56 : decode cX8_fill 56 = .ok (.iload_n 1, 1) := by decide +kernel
theorem dX8_fill_57 : decode cX8_fill 57 = .ok (.invokevirtual 239, 3) := by decide +kernel
theorem dX8_fill_60 : decode cX8_fill 60 = .ok (.ifCond .ne 15, 3) := by decide +kernel
theorem dX8_fill_63 : decode cX8_fill 63 = .ok (.ldc2_w 179, 3) := by decide +kernel
theorem dX8_fill_66 : decode cX8_fill 66 = .ok (.aload_n 0, 1) := by decide +kernel
theorem dX8_fill_67 : decode cX8_fill 67 = .ok (.bipush (-2), 2) := by decide +kernel
theorem dX8_fill_69 : decode cX8_fill 69 = .ok (.invokevirtual 81, 3) := by decide +kernel
theorem dX8_fill_72 : decode cX8_fill 72 = .ok (.i2l, 1) := by decide +kernel
theorem dX8_fill_73 : decode cX8_fill 73 = .ok (.ladd, 1) := by decide +kernel
theorem dX8_fill_74 : decode cX8_fill 74 = .ok (.lreturn, 1) := by decide +kernel
theorem dX8_fill_75 : decode cX8_fill 75 = .ok (.aload_n 0, 1) := by decide +kernel
theorem dX8_fill_76 : decode cX8_fill 76 = .ok (.getfield 53, 3) := by decide +kernel
theorem dX8_fill_79 : decode cX8_fill 79 = .ok (.iload_n 1, 1) := by decide +kernel
theorem dX8_fill_80 : decode cX8_fill 80 = .ok (.aload_n 0, 1) := by decide +kernel
theorem dX8_fill_81 : decode cX8_fill 81 = .ok (.getfield 37, 3) := by decide +kernel
theorem dX8_fill_84 : decode cX8_fill 84 = .ok (.getfield 92, 3) := by decide +kernel
theorem dX8_fill_87 : decode cX8_fill 87 = .ok (.iload_n 2, 1) := by decide +kernel
theorem dX8_fill_88 : decode cX8_fill 88 = .ok (.iload_n 3, 1) := by decide +kernel
theorem dX8_fill_89 : decode cX8_fill 89 = .ok (.invokevirtual 243, 3) := by decide +kernel
theorem dX8_fill_92 : decode cX8_fill 92 = .ok (.lstore 4, 2) := by decide +kernel
theorem dX8_fill_94 : decode cX8_fill 94 = .ok (.lload 4, 2) := by decide +kernel
theorem dX8_fill_96 : decode cX8_fill 96 = .ok (.ldc2_w 247, 3) := by decide +kernel
theorem dX8_fill_99 : decode cX8_fill 99 = .ok (.lcmp, 1) := by decide +kernel
theorem dX8_fill_100 : decode cX8_fill 100 = .ok (.ifCond .ne 15, 3) := by decide +kernel
theorem dX8_fill_103 : decode cX8_fill 103 = .ok (.ldc2_w 179, 3) := by decide +kernel
theorem dX8_fill_106 : decode cX8_fill 106 = .ok (.aload_n 0, 1) := by decide +kernel
theorem dX8_fill_107 : decode cX8_fill 107 = .ok (.bipush (-6), 2) := by decide +kernel
theorem dX8_fill_109 : decode cX8_fill 109 = .ok (.invokevirtual 81, 3) := by decide +kernel
theorem dX8_fill_112 : decode cX8_fill 112 = .ok (.i2l, 1) := by decide +kernel
theorem dX8_fill_113 : decode cX8_fill 113 = .ok (.ladd, 1) := by decide +kernel
theorem dX8_fill_114 : decode cX8_fill 114 = .ok (.lreturn, 1) := by decide +kernel
theorem dX8_fill_115 : decode cX8_fill 115 = .ok (.aload_n 0, 1) := by decide +kernel
theorem dX8_fill_116 : decode cX8_fill 116 = .ok (.getfield 53, 3) := by decide +kernel
theorem dX8_fill_119 : decode cX8_fill 119 = .ok (.iload_n 1, 1) := by decide +kernel
theorem dX8_fill_120 : decode cX8_fill 120 = .ok (.iload_n 2, 1) := by decide +kernel
theorem dX8_fill_121 : decode cX8_fill 121 = .ok (.invokevirtual 249, 3) := by decide +kernel
theorem dX8_fill_124 : decode cX8_fill 124 = .ok (.aload_n 0, 1) := by decide +kernel
theorem dX8_fill_125 : decode cX8_fill 125 = .ok (.iconst 0, 1) := by decide +kernel
theorem dX8_fill_126 : decode cX8_fill 126 = .ok (.invokevirtual 99, 3) := by decide +kernel
theorem dX8_fill_129 : decode cX8_fill 129 = .ok (.pop, 1) := by decide +kernel
theorem dX8_fill_130 : decode cX8_fill 130 = .ok (.lload 4, 2) := by decide +kernel
theorem dX8_fill_132 : decode cX8_fill 132 = .ok (.lreturn, 1) := by decide +kernel
theorem dX8_filled_0 : decode cX8_filled 0 = .ok (.iload_n 1, 1) := by decide +kernel
theorem dX8_filled_1 : decode cX8_filled 1 = .ok (.ifCond .lt 14, 3) := by decide +kernel
theorem dX8_filled_4 : decode cX8_filled 4 = .ok (.iload_n 1, 1) := by decide +kernel
theorem dX8_filled_5 : decode cX8_filled 5 = .ok (.aload_n 0, 1) := by decide +kernel
theorem dX8_filled_6 : decode cX8_filled 6 = .ok (.getfield 53, 3) := by decide +kernel
theorem dX8_filled_9 : decode cX8_filled 9 = .ok (.getfield 252, 3) := by decide +kernel
theorem dX8_filled_12 : decode cX8_filled 12 = .ok (.if_icmp .lt 7, 3) := by decide +kernel
theorem dX8_filled_15 : decode cX8_filled 15 = .ok (.sipush (-1000), 3) := by decide +kernel
theorem dX8_filled_18 : decode cX8_filled 18 = .ok (.ireturn, 1) := by decide +kernel
theorem dX8_filled_19 : decode cX8_filled 19 = .ok (.iload_n 2, 1) := by decide +kernel
theorem dX8_filled_20 : decode cX8_filled 20 = .ok (.ifCond .ne 13, 3) := by decide +kernel
theorem dX8_filled_23 : decode cX8_filled 23 = .ok (.aload_n 0, 1) := by decide +kernel
theorem dX8_filled_24 : decode cX8_filled 24 = .ok (.getfield 53, 3) := by decide +kernel
theorem dX8_filled_27 : decode cX8_filled 27 = .ok (.getfield 255, 3) := by decide +kernel
theorem dX8_filled_30 : decode cX8_filled 30 = .ok (.iload_n 1, 1) := by decide +kernel
theorem dX8_filled_31 : decode cX8_filled 31 = .ok (.iaload, 1) := by decide +kernel
theorem dX8_filled_32 : decode cX8_filled 32 = .ok (.ireturn, 1) := by decide +kernel
theorem dX8_filled_33 : decode cX8_filled 33 = .ok (.iload_n 2, 1) := by decide +kernel
theorem dX8_filled_34 : decode cX8_filled 34 = .ok (.iconst 1, 1) := by decide +kernel
theorem dX8_filled_35 : decode cX8_filled 35 = .ok (.if_icmp .ne 15, 3) := by decide +kernel
theorem dX8_filled_38 : decode cX8_filled 38 = .ok (.aload_n 0, 1) := by decide +kernel
theorem dX8_filled_39 : decode cX8_filled 39 = .ok (.getfield 53, 3) := by decide +kernel
theorem dX8_filled_42 : decode cX8_filled 42 = .ok (.getfield 258, 3) := by decide +kernel
theorem dX8_filled_45 : decode cX8_filled 45 = .ok (.iload_n 1, 1) := by decide +kernel
theorem dX8_filled_46 : decode cX8_filled 46 = .ok (.iaload, 1) := by decide +kernel
theorem dX8_filled_47 : decode cX8_filled 47 = .ok (.goto 6, 3) := by decide +kernel
theorem dX8_filled_50 : decode cX8_filled 50 = .ok (.sipush (-1000), 3) := by decide +kernel
theorem dX8_filled_53 : decode cX8_filled 53 = .ok (.ireturn, 1) := by decide +kernel
theorem dX8_count_0 : decode cX8_count 0 = .ok (.iload_n 1, 1) := by decide +kernel
theorem dX8_count_1 : decode cX8_count 1 = .ok (.tableswitch 141 0 9 #[55, 63, 71, 79, 87, 98, 106, 114, 123, 132], 55) := by decide +kernel
theorem dX8_count_56 : decode cX8_count 56 = .ok (.aload_n 0, 1) := by decide +kernel
theorem dX8_count_57 : decode cX8_count 57 = .ok (.getfield 37, 3) := by decide +kernel
theorem dX8_count_60 : decode cX8_count 60 = .ok (.getfield 92, 3) := by decide +kernel
theorem dX8_count_63 : decode cX8_count 63 = .ok (.ireturn, 1) := by decide +kernel
theorem dX8_count_64 : decode cX8_count 64 = .ok (.aload_n 0, 1) := by decide +kernel
theorem dX8_count_65 : decode cX8_count 65 = .ok (.getfield 19, 3) := by decide +kernel
theorem dX8_count_68 : decode cX8_count 68 = .ok (.getfield 117, 3) := by decide +kernel
theorem dX8_count_71 : decode cX8_count 71 = .ok (.ireturn, 1) := by decide +kernel
theorem dX8_count_72 : decode cX8_count 72 = .ok (.aload_n 0, 1) := by decide +kernel
theorem dX8_count_73 : decode cX8_count 73 = .ok (.getfield 28, 3) := by decide +kernel
theorem dX8_count_76 : decode cX8_count 76 = .ok (.getfield 134, 3) := by decide +kernel
theorem dX8_count_79 : decode cX8_count 79 = .ok (.ireturn, 1) := by decide +kernel
theorem dX8_count_80 : decode cX8_count 80 = .ok (.aload_n 0, 1) := by decide +kernel
theorem dX8_count_81 : decode cX8_count 81 = .ok (.getfield 10, 3) := by decide +kernel
theorem dX8_count_84 : decode cX8_count 84 = .ok (.getfield 85, 3) := by decide +kernel
theorem dX8_count_87 : decode cX8_count 87 = .ok (.ireturn, 1) := by decide +kernel
theorem dX8_count_88 : decode cX8_count 88 = .ok (.aload_n 0, 1) := by decide +kernel
theorem dX8_count_89 : decode cX8_count 89 = .ok (.getfield 37, 3) := by decide +kernel
theorem dX8_count_92 : decode cX8_count 92 = .ok (.getfield 212, 3) := by decide +kernel
theorem dX8_count_95 : decode cX8_count 95 = .ok (.getfield 215, 3) := by decide +kernel
theorem dX8_count_98 : decode cX8_count 98 = .ok (.ireturn, 1) := by decide +kernel
theorem dX8_count_99 : decode cX8_count 99 = .ok (.aload_n 0, 1) := by decide +kernel
theorem dX8_count_100 : decode cX8_count 100 = .ok (.getfield 53, 3) := by decide +kernel
theorem dX8_count_103 : decode cX8_count 103 = .ok (.getfield 229, 3) := by decide +kernel
theorem dX8_count_106 : decode cX8_count 106 = .ok (.ireturn, 1) := by decide +kernel
theorem dX8_count_107 : decode cX8_count 107 = .ok (.aload_n 0, 1) := by decide +kernel
theorem dX8_count_108 : decode cX8_count 108 = .ok (.getfield 44, 3) := by decide +kernel
theorem dX8_count_111 : decode cX8_count 111 = .ok (.getfield 199, 3) := by decide +kernel
theorem dX8_count_114 : decode cX8_count 114 = .ok (.ireturn, 1) := by decide +kernel
theorem dX8_count_115 : decode cX8_count 115 = .ok (.aload_n 0, 1) := by decide +kernel
theorem dX8_count_116 : decode cX8_count 116 = .ok (.getfield 28, 3) := by decide +kernel
theorem dX8_count_119 : decode cX8_count 119 = .ok (.iconst 0, 1) := by decide +kernel
theorem dX8_count_120 : decode cX8_count 120 = .ok (.invokevirtual 176, 3) := by decide +kernel
theorem dX8_count_123 : decode cX8_count 123 = .ok (.ireturn, 1) := by decide +kernel
theorem dX8_count_124 : decode cX8_count 124 = .ok (.aload_n 0, 1) := by decide +kernel
theorem dX8_count_125 : decode cX8_count 125 = .ok (.getfield 28, 3) := by decide +kernel
theorem dX8_count_128 : decode cX8_count 128 = .ok (.iconst 1, 1) := by decide +kernel
theorem dX8_count_129 : decode cX8_count 129 = .ok (.invokevirtual 176, 3) := by decide +kernel
theorem dX8_count_132 : decode cX8_count 132 = .ok (.ireturn, 1) := by decide +kernel
theorem dX8_count_133 : decode cX8_count 133 = .ok (.aload_n 0, 1) := by decide +kernel
theorem dX8_count_134 : decode cX8_count 134 = .ok (.getfield 28, 3) := by decide +kernel
theorem dX8_count_137 : decode cX8_count 137 = .ok (.iconst 2, 1) := by decide +kernel
theorem dX8_count_138 : decode cX8_count 138 = .ok (.invokevirtual 176, 3) := by decide +kernel
theorem dX8_count_141 : decode cX8_count 141 = .ok (.ireturn, 1) := by decide +kernel
theorem dX8_count_142 : decode cX8_count 142 = .ok (.iconst (-1), 1) := by decide +kernel
theorem dX8_count_143 : decode cX8_count 143 = .ok (.ireturn, 1) := by decide +kernel
theorem dX8_status_0 : decode cX8_status 0 = .ok (.aload_n 0, 1) := by decide +kernel
theorem dX8_status_1 : decode cX8_status 1 = .ok (.getfield 68, 3) := by decide +kernel
theorem dX8_status_4 : decode cX8_status 4 = .ok (.ireturn, 1) := by decide +kernel
theorem dX8_refuse_0 : decode cX8_refuse 0 = .ok (.aload_n 0, 1) := by decide +kernel
theorem dX8_refuse_1 : decode cX8_refuse 1 = .ok (.iload_n 1, 1) := by decide +kernel
theorem dX8_refuse_2 : decode cX8_refuse 2 = .ok (.putfield 68, 3) := by decide +kernel
theorem dX8_refuse_5 : decode cX8_refuse 5 = .ok (.iload_n 1, 1) := by decide +kernel
theorem dX8_refuse_6 : decode cX8_refuse 6 = .ok (.ireturn, 1) := by decide +kernel
theorem dX8_accept_0 : decode cX8_accept 0 = .ok (.aload_n 0, 1) := by decide +kernel
theorem dX8_accept_1 : decode cX8_accept 1 = .ok (.iconst 0, 1) := by decide +kernel
theorem dX8_accept_2 : decode cX8_accept 2 = .ok (.putfield 68, 3) := by decide +kernel
theorem dX8_accept_5 : decode cX8_accept 5 = .ok (.iload_n 1, 1) := by decide +kernel
theorem dX8_accept_6 : decode cX8_accept 6 = .ok (.ireturn, 1) := by decide +kernel
theorem dX8_isWithin_0 : decode cX8_isWithin 0 = .ok (.iload_n 0, 1) := by decide +kernel
theorem dX8_isWithin_1 : decode cX8_isWithin 1 = .ok (.ifCond .lt 12, 3) := by decide +kernel
theorem dX8_isWithin_4 : decode cX8_isWithin 4 = .ok (.iload_n 0, 1) := by decide +kernel
theorem dX8_isWithin_5 : decode cX8_isWithin 5 = .ok (.iload_n 1, 1) := by decide +kernel
theorem dX8_isWithin_6 : decode cX8_isWithin 6 = .ok (.if_icmp .gt 7, 3) := by decide +kernel
theorem dX8_isWithin_9 : decode cX8_isWithin 9 = .ok (.iconst 1, 1) := by decide +kernel
theorem dX8_isWithin_10 : decode cX8_isWithin 10 = .ok (.goto 4, 3) := by decide +kernel
theorem dX8_isWithin_13 : decode cX8_isWithin 13 = .ok (.iconst 0, 1) := by decide +kernel
theorem dX8_isWithin_14 : decode cX8_isWithin 14 = .ok (.ireturn, 1) := by decide +kernel
theorem dX8_isHour_0 : decode cX8_isHour 0 = .ok (.iload_n 0, 1) := by decide +kernel
theorem dX8_isHour_1 : decode cX8_isHour 1 = .ok (.sipush 167, 3) := by decide +kernel
theorem dX8_isHour_4 : decode cX8_isHour 4 = .ok (.invokestatic 113, 3) := by decide +kernel
theorem dX8_isHour_7 : decode cX8_isHour 7 = .ok (.ireturn, 1) := by decide +kernel
theorem dX8_isKnown_0 : decode cX8_isKnown 0 = .ok (.iload_n 0, 1) := by decide +kernel
theorem dX8_isKnown_1 : decode cX8_isKnown 1 = .ok (.sipush 1000, 3) := by decide +kernel
theorem dX8_isKnown_4 : decode cX8_isKnown 4 = .ok (.invokestatic 113, 3) := by decide +kernel
theorem dX8_isKnown_7 : decode cX8_isKnown 7 = .ok (.ireturn, 1) := by decide +kernel
theorem dX8_isPrice_0 : decode cX8_isPrice 0 = .ok (.iload_n 0, 1) := by decide +kernel
theorem dX8_isPrice_1 : decode cX8_isPrice 1 = .ok (.sipush (-1000), 3) := by decide +kernel
theorem dX8_isPrice_4 : decode cX8_isPrice 4 = .ok (.if_icmp .lt 14, 3) := by decide +kernel
theorem dX8_isPrice_7 : decode cX8_isPrice 7 = .ok (.iload_n 0, 1) := by decide +kernel
theorem dX8_isPrice_8 : decode cX8_isPrice 8 = .ok (.sipush 10000, 3) := by decide +kernel
theorem dX8_isPrice_11 : decode cX8_isPrice 11 = .ok (.if_icmp .gt 7, 3) := by decide +kernel
theorem dX8_isPrice_14 : decode cX8_isPrice 14 = .ok (.iconst 1, 1) := by decide +kernel
theorem dX8_isPrice_15 : decode cX8_isPrice 15 = .ok (.goto 4, 3) := by decide +kernel
theorem dX8_isPrice_18 : decode cX8_isPrice 18 = .ok (.iconst 0, 1) := by decide +kernel
theorem dX8_isPrice_19 : decode cX8_isPrice 19 = .ok (.ireturn, 1) := by decide +kernel
theorem dX8_isNeed_0 : decode cX8_isNeed 0 = .ok (.iload_n 0, 1) := by decide +kernel
theorem dX8_isNeed_1 : decode cX8_isNeed 1 = .ok (.sipush 5000, 3) := by decide +kernel
theorem dX8_isNeed_4 : decode cX8_isNeed 4 = .ok (.invokestatic 113, 3) := by decide +kernel
theorem dX8_isNeed_7 : decode cX8_isNeed 7 = .ok (.ireturn, 1) := by decide +kernel
