theorem dX0_init_0 : decode cX0_init 0 = .ok (.aload_n 0, 1) := by decide +kernel
theorem dX0_init_1 : decode cX0_init 1 = .ok (.invokespecial 3, 3) := by decide +kernel
theorem dX0_init_4 : decode cX0_init 4 = .ok (.aload_n 0, 1) := by decide +kernel
theorem dX0_init_5 : decode cX0_init 5 = .ok (.iconst 4, 1) := by decide +kernel
theorem dX0_init_6 : decode cX0_init 6 = .ok (.newarray .int, 2) := by decide +kernel
theorem dX0_init_8 : decode cX0_init 8 = .ok (.putfield 9, 3) := by decide +kernel
theorem dX0_init_11 : decode cX0_init 11 = .ok (.aload_n 0, 1) := by decide +kernel
theorem dX0_init_12 : decode cX0_init 12 = .ok (.bipush 96, 2) := by decide +kernel
theorem dX0_init_14 : decode cX0_init 14 = .ok (.newarray .int, 2) := by decide +kernel
theorem dX0_init_16 : decode cX0_init 16 = .ok (.putfield 15, 3) := by decide +kernel
theorem dX0_init_19 : decode cX0_init 19 = .ok (.aload_n 0, 1) := by decide +kernel
theorem dX0_init_20 : decode cX0_init 20 = .ok (.sipush 672, 3) := by decide +kernel
theorem dX0_init_23 : decode cX0_init 23 = .ok (.newarray .int, 2) := by decide +kernel
theorem dX0_init_25 : decode cX0_init 25 = .ok (.putfield 18, 3) := by decide +kernel
theorem dX0_init_28 : decode cX0_init 28 = .ok (.aload_n 0, 1) := by decide +kernel
theorem dX0_init_29 : decode cX0_init 29 = .ok (.bipush 24, 2) := by decide +kernel
theorem dX0_init_31 : decode cX0_init 31 = .ok (.newarray .int, 2) := by decide +kernel
theorem dX0_init_33 : decode cX0_init 33 = .ok (.putfield 21, 3) := by decide +kernel
theorem dX0_init_36 : decode cX0_init 36 = .ok (.aload_n 0, 1) := by decide +kernel
theorem dX0_init_37 : decode cX0_init 37 = .ok (.sipush 168, 3) := by decide +kernel
theorem dX0_init_40 : decode cX0_init 40 = .ok (.newarray .int, 2) := by decide +kernel
theorem dX0_init_42 : decode cX0_init 42 = .ok (.putfield 24, 3) := by decide +kernel
theorem dX0_init_45 : decode cX0_init 45 = .ok (.aload_n 0, 1) := by decide +kernel
theorem dX0_init_46 : decode cX0_init 46 = .ok (.iconst 0, 1) := by decide +kernel
theorem dX0_init_47 : decode cX0_init 47 = .ok (.putfield 27, 3) := by decide +kernel
theorem dX0_init_50 : decode cX0_init 50 = .ok (.aload_n 0, 1) := by decide +kernel
theorem dX0_init_51 : decode cX0_init 51 = .ok (.ldc 31, 2) := by decide +kernel
theorem dX0_init_53 : decode cX0_init 53 = .ok (.putfield 32, 3) := by decide +kernel
theorem dX0_init_56 : decode cX0_init 56 = .ok (.return_, 1) := by decide +kernel
theorem dX0_has_0 : decode cX0_has 0 = .ok (.iload_n 1, 1) := by decide +kernel
theorem dX0_has_1 : decode cX0_has 1 = .ok (.ifCond .lt 15, 3) := by decide +kernel
theorem dX0_has_4 : decode cX0_has 4 = .ok (.iload_n 1, 1) := by decide +kernel
theorem dX0_has_5 : decode cX0_has 5 = .ok (.aload_n 0, 1) := by decide +kernel
theorem dX0_has_6 : decode cX0_has 6 = .ok (.getfield 27, 3) := by decide +kernel
theorem dX0_has_9 : decode cX0_has 9 = .ok (.if_icmp .ge 7, 3) := by decide +kernel
theorem dX0_has_12 : decode cX0_has 12 = .ok (.iconst 1, 1) := by decide +kernel
theorem dX0_has_13 : decode cX0_has 13 = .ok (.goto 4, 3) := by decide +kernel
theorem dX0_has_16 : decode cX0_has 16 = .ok (.iconst 0, 1) := by decide +kernel
theorem dX0_has_17 : decode cX0_has 17 = .ok (.ireturn, 1) := by decide +kernel
theorem dX0_addHome_0 : decode cX0_addHome 0 = .ok (.aload_n 0, 1) := by decide +kernel
theorem dX0_addHome_1 : decode cX0_addHome 1 = .ok (.getfield 9, 3) := by decide +kernel
theorem dX0_addHome_4 : decode cX0_addHome 4 = .ok (.aload_n 0, 1) := by decide +kernel
theorem dX0_addHome_5 : decode cX0_addHome 5 = .ok (.getfield 27, 3) := by decide +kernel
theorem dX0_addHome_8 : decode cX0_addHome 8 = .ok (.iload_n 1, 1) := by decide +kernel
theorem dX0_addHome_9 : decode cX0_addHome 9 = .ok (.iastore, 1) := by decide +kernel
theorem dX0_addHome_10 : decode cX0_addHome 10 = .ok (.aload_n 0, 1) := by decide +kernel
theorem dX0_addHome_11 : decode cX0_addHome 11 = .ok (.dup, 1) := by decide +kernel
theorem dX0_addHome_12 : decode cX0_addHome 12 = .ok (.getfield 27, 3) := by decide +kernel
theorem dX0_addHome_15 : decode cX0_addHome 15 = .ok (.iconst 1, 1) := by decide +kernel
theorem dX0_addHome_16 : decode cX0_addHome 16 = .ok (.iadd, 1) := by decide +kernel
theorem dX0_addHome_17 : decode cX0_addHome 17 = .ok (.putfield 27, 3) := by decide +kernel
theorem dX0_addHome_20 : decode cX0_addHome 20 = .ok (.aload_n 0, 1) := by decide +kernel
theorem dX0_addHome_21 : decode cX0_addHome 21 = .ok (.getfield 27, 3) := by decide +kernel
theorem dX0_addHome_24 : decode cX0_addHome 24 = .ok (.iconst 1, 1) := by decide +kernel
theorem dX0_addHome_25 : decode cX0_addHome 25 = .ok (.isub, 1) := by decide +kernel
theorem dX0_addHome_26 : decode cX0_addHome 26 = .ok (.ireturn, 1) := by decide +kernel
theorem dX0_setBase_0 : decode cX0_setBase 0 = .ok (.aload_n 0, 1) := by decide +kernel
theorem dX0_setBase_1 : decode cX0_setBase 1 = .ok (.getfield 21, 3) := by decide +kernel
theorem dX0_setBase_4 : decode cX0_setBase 4 = .ok (.iload_n 2, 1) := by decide +kernel
theorem dX0_setBase_5 : decode cX0_setBase 5 = .ok (.dup2, 1) := by decide +kernel
theorem dX0_setBase_6 : decode cX0_setBase 6 = .ok (.iaload, 1) := by decide +kernel
theorem dX0_setBase_7 : decode cX0_setBase 7 = .ok (.iload_n 3, 1) := by decide +kernel
theorem dX0_setBase_8 : decode cX0_setBase 8 = .ok (.aload_n 0, 1) := by decide +kernel
theorem dX0_setBase_9 : decode cX0_setBase 9 = .ok (.getfield 15, 3) := by decide +kernel
theorem dX0_setBase_12 : decode cX0_setBase 12 = .ok (.iload_n 1, 1) := by decide +kernel
theorem dX0_setBase_13 : decode cX0_setBase 13 = .ok (.bipush 24, 2) := by decide +kernel
theorem dX0_setBase_15 : decode cX0_setBase 15 = .ok (.imul, 1) := by decide +kernel
theorem dX0_setBase_16 : decode cX0_setBase 16 = .ok (.iload_n 2, 1) := by decide +kernel
theorem dX0_setBase_17 : decode cX0_setBase 17 = .ok (.iadd, 1) := by decide +kernel
theorem dX0_setBase_18 : decode cX0_setBase 18 = .ok (.iaload, 1) := by decide +kernel
theorem dX0_setBase_19 : decode cX0_setBase 19 = .ok (.isub, 1) := by decide +kernel
theorem dX0_setBase_20 : decode cX0_setBase 20 = .ok (.iadd, 1) := by decide +kernel
theorem dX0_setBase_21 : decode cX0_setBase 21 = .ok (.iastore, 1) := by decide +kernel
theorem dX0_setBase_22 : decode cX0_setBase 22 = .ok (.aload_n 0, 1) := by decide +kernel
theorem dX0_setBase_23 : decode cX0_setBase 23 = .ok (.getfield 15, 3) := by decide +kernel
theorem dX0_setBase_26 : decode cX0_setBase 26 = .ok (.iload_n 1, 1) := by decide +kernel
theorem dX0_setBase_27 : decode cX0_setBase 27 = .ok (.bipush 24, 2) := by decide +kernel
theorem dX0_setBase_29 : decode cX0_setBase 29 = .ok (.imul, 1) := by decide +kernel
theorem dX0_setBase_30 : decode cX0_setBase 30 = .ok (.iload_n 2, 1) := by decide +kernel
theorem dX0_setBase_31 : decode cX0_setBase 31 = .ok (.iadd, 1) := by decide +kernel
theorem dX0_setBase_32 : decode cX0_setBase 32 = .ok (.iload_n 3, 1) := by decide +kernel
theorem dX0_setBase_33 : decode cX0_setBase 33 = .ok (.iastore, 1) := by decide +kernel
theorem dX0_setBase_34 : decode cX0_setBase 34 = .ok (.return_, 1) := by decide +kernel
theorem dX0_draws_0 : decode cX0_draws 0 = .ok (.aload_n 0, 1) := by decide +kernel
theorem dX0_draws_1 : decode cX0_draws 1 = .ok (.getfield 15, 3) := by decide +kernel
theorem dX0_draws_4 : decode cX0_draws 4 = .ok (.iload_n 1, 1) := by decide +kernel
theorem dX0_draws_5 : decode cX0_draws 5 = .ok (.bipush 24, 2) := by decide +kernel
theorem dX0_draws_7 : decode cX0_draws 7 = .ok (.imul, 1) := by decide +kernel
theorem dX0_draws_8 : decode cX0_draws 8 = .ok (.iload_n 2, 1) := by decide +kernel
theorem dX0_draws_9 : decode cX0_draws 9 = .ok (.bipush 24, 2) := by decide +kernel
theorem dX0_draws_11 : decode cX0_draws 11 = .ok (.irem, 1) := by decide +kernel
theorem dX0_draws_12 : decode cX0_draws 12 = .ok (.iadd, 1) := by decide +kernel
theorem dX0_draws_13 : decode cX0_draws 13 = .ok (.iaload, 1) := by decide +kernel
theorem dX0_draws_14 : decode cX0_draws 14 = .ok (.aload_n 0, 1) := by decide +kernel
theorem dX0_draws_15 : decode cX0_draws 15 = .ok (.getfield 18, 3) := by decide +kernel
theorem dX0_draws_18 : decode cX0_draws 18 = .ok (.iload_n 1, 1) := by decide +kernel
theorem dX0_draws_19 : decode cX0_draws 19 = .ok (.sipush 168, 3) := by decide +kernel
theorem dX0_draws_22 : decode cX0_draws 22 = .ok (.imul, 1) := by decide +kernel
theorem dX0_draws_23 : decode cX0_draws 23 = .ok (.iload_n 2, 1) := by decide +kernel
theorem dX0_draws_24 : decode cX0_draws 24 = .ok (.iadd, 1) := by decide +kernel
theorem dX0_draws_25 : decode cX0_draws 25 = .ok (.iaload, 1) := by decide +kernel
theorem dX0_draws_26 : decode cX0_draws 26 = .ok (.iadd, 1) := by decide +kernel
theorem dX0_draws_27 : decode cX0_draws 27 = .ok (.ireturn, 1) := by decide +kernel
theorem dX0_allDraw_0 : decode cX0_allDraw 0 = .ok (.aload_n 0, 1) := by decide +kernel
theorem dX0_allDraw_1 : decode cX0_allDraw 1 = .ok (.getfield 21, 3) := by decide +kernel
theorem dX0_allDraw_4 : decode cX0_allDraw 4 = .ok (.iload_n 1, 1) := by decide +kernel
theorem dX0_allDraw_5 : decode cX0_allDraw 5 = .ok (.bipush 24, 2) := by decide +kernel
theorem dX0_allDraw_7 : decode cX0_allDraw 7 = .ok (.irem, 1) := by decide +kernel
theorem dX0_allDraw_8 : decode cX0_allDraw 8 = .ok (.iaload, 1) := by decide +kernel
theorem dX0_allDraw_9 : decode cX0_allDraw 9 = .ok (.aload_n 0, 1) := by decide +kernel
theorem dX0_allDraw_10 : decode cX0_allDraw 10 = .ok (.getfield 24, 3) := by decide +kernel
theorem dX0_allDraw_13 : decode cX0_allDraw 13 = .ok (.iload_n 1, 1) := by decide +kernel
theorem dX0_allDraw_14 : decode cX0_allDraw 14 = .ok (.iaload, 1) := by decide +kernel
theorem dX0_allDraw_15 : decode cX0_allDraw 15 = .ok (.iadd, 1) := by decide +kernel
theorem dX0_allDraw_16 : decode cX0_allDraw 16 = .ok (.ireturn, 1) := by decide +kernel
theorem dX0_bears_0 : decode cX0_bears 0 = .ok (.aload_n 0, 1) := by decide +kernel
theorem dX0_bears_1 : decode cX0_bears 1 = .ok (.iload_n 1, 1) := by decide +kernel
theorem dX0_bears_2 : decode cX0_bears 2 = .ok (.iload_n 2, 1) := by decide +kernel
theorem dX0_bears_3 : decode cX0_bears 3 = .ok (.invokevirtual 35, 3) := by decide +kernel
theorem dX0_bears_6 : decode cX0_bears 6 = .ok (.iload_n 3, 1) := by decide +kernel
theorem dX0_bears_7 : decode cX0_bears 7 = .ok (.iadd, 1) := by decide +kernel
theorem dX0_bears_8 : decode cX0_bears 8 = .ok (.aload_n 0, 1) := by decide +kernel
theorem dX0_bears_9 : decode cX0_bears 9 = .ok (.getfield 9, 3) := by decide +kernel
theorem dX0_bears_12 : decode cX0_bears 12 = .ok (.iload_n 1, 1) := by decide +kernel
theorem dX0_bears_13 : decode cX0_bears 13 = .ok (.iaload, 1) := by decide +kernel
theorem dX0_bears_14 : decode cX0_bears 14 = .ok (.if_icmp .gt 21, 3) := by decide +kernel
theorem dX0_bears_17 : decode cX0_bears 17 = .ok (.aload_n 0, 1) := by decide +kernel
theorem dX0_bears_18 : decode cX0_bears 18 = .ok (.iload_n 2, 1) := by decide +kernel
theorem dX0_bears_19 : decode cX0_bears 19 = .ok (.invokevirtual 39, 3) := by decide +kernel
theorem dX0_bears_22 : decode cX0_bears 22 = .ok (.iload_n 3, 1) := by decide +kernel
theorem dX0_bears_23 : decode cX0_bears 23 = .ok (.iadd, 1) := by decide +kernel
theorem dX0_bears_24 : decode cX0_bears 24 = .ok (.aload_n 0, 1) := by decide +kernel
theorem dX0_bears_25 : decode cX0_bears 25 = .ok (.getfield 32, 3) := by decide +kernel
theorem dX0_bears_28 : decode cX0_bears 28 = .ok (.if_icmp .gt 7, 3) := by decide +kernel
theorem dX0_bears_31 : decode cX0_bears 31 = .ok (.iconst 1, 1) := by decide +kernel
theorem dX0_bears_32 : decode cX0_bears 32 = .ok (.goto 4, 3) := by decide +kernel
theorem dX0_bears_35 : decode cX0_bears 35 = .ok (.iconst 0, 1) := by decide +kernel
theorem dX0_bears_36 : decode cX0_bears 36 = .ok (.ireturn, 1) := by decide +kernel
theorem dX0_draw_0 : decode cX0_draw 0 = .ok (.aload_n 0, 1) := by decide +kernel
theorem dX0_draw_1 : decode cX0_draw 1 = .ok (.getfield 18, 3) := by decide +kernel
theorem dX0_draw_4 : decode cX0_draw 4 = .ok (.iload_n 1, 1) := by decide +kernel
theorem dX0_draw_5 : decode cX0_draw 5 = .ok (.sipush 168, 3) := by decide +kernel
theorem dX0_draw_8 : decode cX0_draw 8 = .ok (.imul, 1) := by decide +kernel
theorem dX0_draw_9 : decode cX0_draw 9 = .ok (.iload_n 2, 1) := by decide +kernel
theorem dX0_draw_10 : decode cX0_draw 10 = .ok (.iadd, 1) := by decide +kernel
theorem dX0_draw_11 : decode cX0_draw 11 = .ok (.dup2, 1) := by decide +kernel
theorem dX0_draw_12 : decode cX0_draw 12 = .ok (.iaload, 1) := by decide +kernel
theorem dX0_draw_13 : decode cX0_draw 13 = .ok (.iload_n 3, 1) := by decide +kernel
theorem dX0_draw_14 : decode cX0_draw 14 = .ok (.iadd, 1) := by decide +kernel
theorem dX0_draw_15 : decode cX0_draw 15 = .ok (.iastore, 1) := by decide +kernel
theorem dX0_draw_16 : decode cX0_draw 16 = .ok (.aload_n 0, 1) := by decide +kernel
theorem dX0_draw_17 : decode cX0_draw 17 = .ok (.getfield 24, 3) := by decide +kernel
theorem dX0_draw_20 : decode cX0_draw 20 = .ok (.iload_n 2, 1) := by decide +kernel
theorem dX0_draw_21 : decode cX0_draw 21 = .ok (.dup2, 1) := by decide +kernel
theorem dX0_draw_22 : decode cX0_draw 22 = .ok (.iaload, 1) := by decide +kernel
theorem dX0_draw_23 : decode cX0_draw 23 = .ok (.iload_n 3, 1) := by decide +kernel
theorem dX0_draw_24 : decode cX0_draw 24 = .ok (.iadd, 1) := by decide +kernel
theorem dX0_draw_25 : decode cX0_draw 25 = .ok (.iastore, 1) := by decide +kernel
theorem dX0_draw_26 : decode cX0_draw 26 = .ok (.return_, 1) := by decide +kernel
theorem dX1_init_0 : decode cX1_init 0 = .ok (.aload_n 0, 1) := by decide +kernel
theorem dX1_init_1 : decode cX1_init 1 = .ok (.invokespecial 3, 3) := by decide +kernel
theorem dX1_init_4 : decode cX1_init 4 = .ok (.aload_n 0, 1) := by decide +kernel
theorem dX1_init_5 : decode cX1_init 5 = .ok (.bipush 16, 2) := by decide +kernel
theorem dX1_init_7 : decode cX1_init 7 = .ok (.newarray .int, 2) := by decide +kernel
theorem dX1_init_9 : decode cX1_init 9 = .ok (.putfield 9, 3) := by decide +kernel
theorem dX1_init_12 : decode cX1_init 12 = .ok (.aload_n 0, 1) := by decide +kernel
theorem dX1_init_13 : decode cX1_init 13 = .ok (.bipush 16, 2) := by decide +kernel
theorem dX1_init_15 : decode cX1_init 15 = .ok (.newarray .int, 2) := by decide +kernel
theorem dX1_init_17 : decode cX1_init 17 = .ok (.putfield 15, 3) := by decide +kernel
theorem dX1_init_20 : decode cX1_init 20 = .ok (.aload_n 0, 1) := by decide +kernel
theorem dX1_init_21 : decode cX1_init 21 = .ok (.bipush 16, 2) := by decide +kernel
theorem dX1_init_23 : decode cX1_init 23 = .ok (.newarray .int, 2) := by decide +kernel
theorem dX1_init_25 : decode cX1_init 25 = .ok (.putfield 18, 3) := by decide +kernel
theorem dX1_init_28 : decode cX1_init 28 = .ok (.aload_n 0, 1) := by decide +kernel
theorem dX1_init_29 : decode cX1_init 29 = .ok (.bipush 16, 2) := by decide +kernel
theorem dX1_init_31 : decode cX1_init 31 = .ok (.newarray .int, 2) := by decide +kernel
theorem dX1_init_33 : decode cX1_init 33 = .ok (.putfield 21, 3) := by decide +kernel
theorem dX1_init_36 : decode cX1_init 36 = .ok (.aload_n 0, 1) := by decide +kernel
theorem dX1_init_37 : decode cX1_init 37 = .ok (.bipush 64, 2) := by decide +kernel
theorem dX1_init_39 : decode cX1_init 39 = .ok (.newarray .int, 2) := by decide +kernel
theorem dX1_init_41 : decode cX1_init 41 = .ok (.putfield 24, 3) := by decide +kernel
theorem dX1_init_44 : decode cX1_init 44 = .ok (.aload_n 0, 1) := by decide +kernel
theorem dX1_init_45 : decode cX1_init 45 = .ok (.bipush 16, 2) := by decide +kernel
theorem dX1_init_47 : decode cX1_init 47 = .ok (.newarray .int, 2) := by decide +kernel
theorem dX1_init_49 : decode cX1_init 49 = .ok (.putfield 27, 3) := by decide +kernel
theorem dX1_init_52 : decode cX1_init 52 = .ok (.aload_n 0, 1) := by decide +kernel
theorem dX1_init_53 : decode cX1_init 53 = .ok (.bipush 16, 2) := by decide +kernel
theorem dX1_init_55 : decode cX1_init 55 = .ok (.newarray .int, 2) := by decide +kernel
theorem dX1_init_57 : decode cX1_init 57 = .ok (.putfield 30, 3) := by decide +kernel
theorem dX1_init_60 : decode cX1_init 60 = .ok (.aload_n 0, 1) := by decide +kernel
theorem dX1_init_61 : decode cX1_init 61 = .ok (.aload_n 1, 1) := by decide +kernel
theorem dX1_init_62 : decode cX1_init 62 = .ok (.putfield 33, 3) := by decide +kernel
theorem dX1_init_65 : decode cX1_init 65 = .ok (.aload_n 0, 1) := by decide +kernel
theorem dX1_init_66 : decode cX1_init 66 = .ok (.iconst 0, 1) := by decide +kernel
theorem dX1_init_67 : decode cX1_init 67 = .ok (.putfield 37, 3) := by decide +kernel
theorem dX1_init_70 : decode cX1_init 70 = .ok (.return_, 1) := by decide +kernel
theorem dX1_has_0 : decode cX1_has 0 = .ok (.iload_n 1, 1) := by decide +kernel
theorem dX1_has_1 : decode cX1_has 1 = .ok (.ifCond .lt 15, 3) := by decide +kernel
theorem dX1_has_4 : decode cX1_has 4 = .ok (.iload_n 1, 1) := by decide +kernel
theorem dX1_has_5 : decode cX1_has 5 = .ok (.aload_n 0, 1) := by decide +kernel
theorem dX1_has_6 : decode cX1_has 6 = .ok (.getfield 37, 3) := by decide +kernel
theorem dX1_has_9 : decode cX1_has 9 = .ok (.if_icmp .ge 7, 3) := by decide +kernel
theorem dX1_has_12 : decode cX1_has 12 = .ok (.iconst 1, 1) := by decide +kernel
theorem dX1_has_13 : decode cX1_has 13 = .ok (.goto 4, 3) := by decide +kernel
theorem dX1_has_16 : decode cX1_has 16 = .ok (.iconst 0, 1) := by decide +kernel
theorem dX1_has_17 : decode cX1_has 17 = .ok (.ireturn, 1) := by decide +kernel
theorem dX1_add_0 : decode cX1_add 0 = .ok (.aload_n 0, 1) := by decide +kernel
theorem dX1_add_1 : decode cX1_add 1 = .ok (.getfield 9, 3) := by decide +kernel
theorem dX1_add_4 : decode cX1_add 4 = .ok (.aload_n 0, 1) := by decide +kernel
theorem dX1_add_5 : decode cX1_add 5 = .ok (.getfield 37, 3) := by decide +kernel
theorem dX1_add_8 : decode cX1_add 8 = .ok (.iload_n 1, 1) := by decide +kernel
theorem dX1_add_9 : decode cX1_add 9 = .ok (.iastore, 1) := by decide +kernel
theorem dX1_add_10 : decode cX1_add 10 = .ok (.aload_n 0, 1) := by decide +kernel
theorem dX1_add_11 : decode cX1_add 11 = .ok (.getfield 15, 3) := by decide +kernel
theorem dX1_add_14 : decode cX1_add 14 = .ok (.aload_n 0, 1) := by decide +kernel
theorem dX1_add_15 : decode cX1_add 15 = .ok (.getfield 37, 3) := by decide +kernel
theorem dX1_add_18 : decode cX1_add 18 = .ok (.iload_n 2, 1) := by decide +kernel
theorem dX1_add_19 : decode cX1_add 19 = .ok (.iastore, 1) := by decide +kernel
theorem dX1_add_20 : decode cX1_add 20 = .ok (.aload_n 0, 1) := by decide +kernel
theorem dX1_add_21 : decode cX1_add 21 = .ok (.getfield 18, 3) := by decide +kernel
theorem dX1_add_24 : decode cX1_add 24 = .ok (.aload_n 0, 1) := by decide +kernel
theorem dX1_add_25 : decode cX1_add 25 = .ok (.getfield 37, 3) := by decide +kernel
theorem dX1_add_28 : decode cX1_add 28 = .ok (.iload_n 3, 1) := by decide +kernel
theorem dX1_add_29 : decode cX1_add 29 = .ok (.iastore, 1) := by decide +kernel
theorem dX1_add_30 : decode cX1_add 30 = .ok (.aload_n 0, 1) := by decide +kernel
theorem dX1_add_31 : decode cX1_add 31 = .ok (.getfield 21, 3) := by decide +kernel
theorem dX1_add_34 : decode cX1_add 34 = .ok (.aload_n 0, 1) := by decide +kernel
theorem dX1_add_35 : decode cX1_add 35 = .ok (.getfield 37, 3) := by decide +kernel
theorem dX1_add_38 : decode cX1_add 38 = .ok (.iload 4, 2) := by decide +kernel
theorem dX1_add_40 : decode cX1_add 40 = .ok (.iastore, 1) := by decide +kernel
theorem dX1_add_41 : decode cX1_add 41 = .ok (.aload_n 0, 1) := by decide +kernel
theorem dX1_add_42 : decode cX1_add 42 = .ok (.getfield 27, 3) := by decide +kernel
theorem dX1_add_45 : decode cX1_add 45 = .ok (.aload_n 0, 1) := by decide +kernel
theorem dX1_add_46 : decode cX1_add 46 = .ok (.getfield 37, 3) := by decide +kernel
theorem dX1_add_49 : decode cX1_add 49 = .ok (.iconst 0, 1) := by decide +kernel
theorem dX1_add_50 : decode cX1_add 50 = .ok (.iastore, 1) := by decide +kernel
theorem dX1_add_51 : decode cX1_add 51 = .ok (.aload_n 0, 1) := by decide +kernel
theorem dX1_add_52 : decode cX1_add 52 = .ok (.getfield 30, 3) := by decide +kernel
theorem dX1_add_55 : decode cX1_add 55 = .ok (.aload_n 0, 1) := by decide +kernel
theorem dX1_add_56 : decode cX1_add 56 = .ok (.getfield 37, 3) := by decide +kernel
theorem dX1_add_59 : decode cX1_add 59 = .ok (.iconst (-1), 1) := by decide +kernel
theorem dX1_add_60 : decode cX1_add 60 = .ok (.iastore, 1) := by decide +kernel
theorem dX1_add_61 : decode cX1_add 61 = .ok (.aload_n 0, 1) := by decide +kernel
theorem dX1_add_62 : decode cX1_add 62 = .ok (.dup, 1) := by decide +kernel
theorem dX1_add_63 : decode cX1_add 63 = .ok (.getfield 37, 3) := by decide +kernel
theorem dX1_add_66 : decode cX1_add 66 = .ok (.iconst 1, 1) := by decide +kernel
theorem dX1_add_67 : decode cX1_add 67 = .ok (.iadd, 1) := by decide +kernel
theorem dX1_add_68 : decode cX1_add 68 = .ok (.putfield 37, 3) := by decide +kernel
theorem dX1_add_71 : decode cX1_add 71 = .ok (.aload_n 0, 1) := by decide +kernel
theorem dX1_add_72 : decode cX1_add 72 = .ok (.getfield 37, 3) := by decide +kernel
theorem dX1_add_75 : decode cX1_add 75 = .ok (.iconst 1, 1) := by decide +kernel
theorem dX1_add_76 : decode cX1_add 76 = .ok (.isub, 1) := by decide +kernel
theorem dX1_add_77 : decode cX1_add 77 = .ok (.ireturn, 1) := by decide +kernel
theorem dX1_setNeeds_0 : decode cX1_setNeeds 0 = .ok (.aload_n 0, 1) := by decide +kernel
theorem dX1_setNeeds_1 : decode cX1_setNeeds 1 = .ok (.getfield 24, 3) := by decide +kernel
theorem dX1_setNeeds_4 : decode cX1_setNeeds 4 = .ok (.iload_n 1, 1) := by decide +kernel
theorem dX1_setNeeds_5 : decode cX1_setNeeds 5 = .ok (.iconst 4, 1) := by decide +kernel
theorem dX1_setNeeds_6 : decode cX1_setNeeds 6 = .ok (.imul, 1) := by decide +kernel
theorem dX1_setNeeds_7 : decode cX1_setNeeds 7 = .ok (.iload_n 2, 1) := by decide +kernel
theorem dX1_setNeeds_8 : decode cX1_setNeeds 8 = .ok (.iastore, 1) := by decide +kernel
theorem dX1_setNeeds_9 : decode cX1_setNeeds 9 = .ok (.aload_n 0, 1) := by decide +kernel
theorem dX1_setNeeds_10 : decode cX1_setNeeds 10 = .ok (.getfield 24, 3) := by decide +kernel
theorem dX1_setNeeds_13 : decode cX1_setNeeds 13 = .ok (.iload_n 1, 1) := by decide +kernel
theorem dX1_setNeeds_14 : decode cX1_setNeeds 14 = .ok (.iconst 4, 1) := by decide +kernel
theorem dX1_setNeeds_15 : decode cX1_setNeeds 15 = .ok (.imul, 1) := by decide +kernel
theorem dX1_setNeeds_16 : decode cX1_setNeeds 16 = .ok (.iconst 1, 1) := by decide +kernel
theorem dX1_setNeeds_17 : decode cX1_setNeeds 17 = .ok (.iadd, 1) := by decide +kernel
theorem dX1_setNeeds_18 : decode cX1_setNeeds 18 = .ok (.iload_n 3, 1) := by decide +kernel
theorem dX1_setNeeds_19 : decode cX1_setNeeds 19 = .ok (.iastore, 1) := by decide +kernel
theorem dX1_setNeeds_20 : decode cX1_setNeeds 20 = .ok (.aload_n 0, 1) := by decide +kernel
theorem dX1_setNeeds_21 : decode cX1_setNeeds 21 = .ok (.getfield 24, 3) := by decide +kernel
theorem dX1_setNeeds_24 : decode cX1_setNeeds 24 = .ok (.iload_n 1, 1) := by decide +kernel
theorem dX1_setNeeds_25 : decode cX1_setNeeds 25 = .ok (.iconst 4, 1) := by decide +kernel
theorem dX1_setNeeds_26 : decode cX1_setNeeds 26 = .ok (.imul, 1) := by decide +kernel
theorem dX1_setNeeds_27 : decode cX1_setNeeds 27 = .ok (.iconst 2, 1) := by decide +kernel
theorem dX1_setNeeds_28 : decode cX1_setNeeds 28 = .ok (.iadd, 1) := by decide +kernel
theorem dX1_setNeeds_29 : decode cX1_setNeeds 29 = .ok (.iload 4, 2) := by decide +kernel
theorem dX1_setNeeds_31 : decode cX1_setNeeds 31 = .ok (.iastore, 1) := by decide +kernel
theorem dX1_setNeeds_32 : decode cX1_setNeeds 32 = .ok (.aload_n 0, 1) := by decide +kernel
theorem dX1_setNeeds_33 : decode cX1_setNeeds 33 = .ok (.getfield 24, 3) := by decide +kernel
theorem dX1_setNeeds_36 : decode cX1_setNeeds 36 = .ok (.iload_n 1, 1) := by decide +kernel
theorem dX1_setNeeds_37 : decode cX1_setNeeds 37 = .ok (.iconst 4, 1) := by decide +kernel
theorem dX1_setNeeds_38 : decode cX1_setNeeds 38 = .ok (.imul, 1) := by decide +kernel
theorem dX1_setNeeds_39 : decode cX1_setNeeds 39 = .ok (.iconst 3, 1) := by decide +kernel
theorem dX1_setNeeds_40 : decode cX1_setNeeds 40 = .ok (.iadd, 1) := by decide +kernel
theorem dX1_setNeeds_41 : decode cX1_setNeeds 41 = .ok (.iload 5, 2) := by decide +kernel
theorem dX1_setNeeds_43 : decode cX1_setNeeds 43 = .ok (.iastore, 1) := by decide +kernel
theorem dX1_setNeeds_44 : decode cX1_setNeeds 44 = .ok (.return_, 1) := by decide +kernel
theorem dX1_inState_0 : decode cX1_inState 0 = .ok (.iconst 0, 1) := by decide +kernel
theorem dX1_inState_1 : decode cX1_inState 1 = .ok (.istore_n 2, 1) := by decide +kernel
theorem dX1_inState_2 : decode cX1_inState 2 = .ok (.iconst 0, 1) := by decide +kernel
theorem dX1_inState_3 : decode cX1_inState 3 = .ok (.istore_n 3, 1) := by decide +kernel
theorem dX1_inState_4 : decode cX1_inState 4 = .ok (.iload_n 3, 1) := by decide +kernel
theorem dX1_inState_5 : decode cX1_inState 5 = .ok (.aload_n 0, 1) := by decide +kernel
theorem dX1_inState_6 : decode cX1_inState 6 = .ok (.getfield 37, 3) := by decide +kernel
theorem dX1_inState_9 : decode cX1_inState 9 = .ok (.if_icmp .ge 22, 3) := by decide +kernel
theorem dX1_inState_12 : decode cX1_inState 12 = .ok (.aload_n 0, 1) := by decide +kernel
theorem dX1_inState_13 : decode cX1_inState 13 = .ok (.getfield 27, 3) := by decide +kernel
theorem dX1_inState_16 : decode cX1_inState 16 = .ok (.iload_n 3, 1) := by decide +kernel
theorem dX1_inState_17 : decode cX1_inState 17 = .ok (.iaload, 1) := by decide +kernel
theorem dX1_inState_18 : decode cX1_inState 18 = .ok (.iload_n 1, 1) := by decide +kernel
theorem dX1_inState_19 : decode cX1_inState 19 = .ok (.if_icmp .ne 6, 3) := by decide +kernel
theorem dX1_inState_22 : decode cX1_inState 22 = .ok (.iinc 2 1, 3) := by decide +kernel
theorem dX1_inState_25 : decode cX1_inState 25 = .ok (.iinc 3 1, 3) := by decide +kernel
theorem dX1_inState_28 : decode cX1_inState 28 = .ok (.goto (-24), 3) := by decide +kernel
theorem dX1_inState_31 : decode cX1_inState 31 = .ok (.iload_n 2, 1) := by decide +kernel
theorem dX1_inState_32 : decode cX1_inState 32 = .ok (.ireturn, 1) := by decide +kernel
theorem dX1_plan_0 : decode cX1_plan 0 = .ok (.aload_n 0, 1) := by decide +kernel
theorem dX1_plan_1 : decode cX1_plan 1 = .ok (.getfield 27, 3) := by decide +kernel
theorem dX1_plan_4 : decode cX1_plan 4 = .ok (.iload_n 1, 1) := by decide +kernel
theorem dX1_plan_5 : decode cX1_plan 5 = .ok (.iconst 1, 1) := by decide +kernel
theorem dX1_plan_6 : decode cX1_plan 6 = .ok (.iastore, 1) := by decide +kernel
theorem dX1_plan_7 : decode cX1_plan 7 = .ok (.aload_n 0, 1) := by decide +kernel
theorem dX1_plan_8 : decode cX1_plan 8 = .ok (.getfield 30, 3) := by decide +kernel
theorem dX1_plan_11 : decode cX1_plan 11 = .ok (.iload_n 1, 1) := by decide +kernel
theorem dX1_plan_12 : decode cX1_plan 12 = .ok (.iload_n 2, 1) := by decide +kernel
theorem dX1_plan_13 : decode cX1_plan 13 = .ok (.iastore, 1) := by decide +kernel
theorem dX1_plan_14 : decode cX1_plan 14 = .ok (.aload_n 0, 1) := by decide +kernel
theorem dX1_plan_15 : decode cX1_plan 15 = .ok (.iload_n 1, 1) := by decide +kernel
theorem dX1_plan_16 : decode cX1_plan 16 = .ok (.iload_n 2, 1) := by decide +kernel
theorem dX1_plan_17 : decode cX1_plan 17 = .ok (.iconst 1, 1) := by decide +kernel
theorem dX1_plan_18 : decode cX1_plan 18 = .ok (.invokevirtual 41, 3) := by decide +kernel
theorem dX1_plan_21 : decode cX1_plan 21 = .ok (.return_, 1) := by decide +kernel
theorem dX1_reopen_0 : decode cX1_reopen 0 = .ok (.aload_n 0, 1) := by decide +kernel
theorem dX1_reopen_1 : decode cX1_reopen 1 = .ok (.getfield 27, 3) := by decide +kernel
theorem dX1_reopen_4 : decode cX1_reopen 4 = .ok (.iload_n 1, 1) := by decide +kernel
theorem dX1_reopen_5 : decode cX1_reopen 5 = .ok (.iaload, 1) := by decide +kernel
theorem dX1_reopen_6 : decode cX1_reopen 6 = .ok (.iconst 1, 1) := by decide +kernel
theorem dX1_reopen_7 : decode cX1_reopen 7 = .ok (.if_icmp .ne 29, 3) := by decide +kernel
theorem dX1_reopen_10 : decode cX1_reopen 10 = .ok (.aload_n 0, 1) := by decide +kernel
theorem dX1_reopen_11 : decode cX1_reopen 11 = .ok (.iload_n 1, 1) := by decide +kernel
theorem dX1_reopen_12 : decode cX1_reopen 12 = .ok (.aload_n 0, 1) := by decide +kernel
theorem dX1_reopen_13 : decode cX1_reopen 13 = .ok (.getfield 30, 3) := by decide +kernel
theorem dX1_reopen_16 : decode cX1_reopen 16 = .ok (.iload_n 1, 1) := by decide +kernel
theorem dX1_reopen_17 : decode cX1_reopen 17 = .ok (.iaload, 1) := by decide +kernel
theorem dX1_reopen_18 : decode cX1_reopen 18 = .ok (.iconst (-1), 1) := by decide +kernel
theorem dX1_reopen_19 : decode cX1_reopen 19 = .ok (.invokevirtual 41, 3) := by decide +kernel
theorem dX1_reopen_22 : decode cX1_reopen 22 = .ok (.aload_n 0, 1) := by decide +kernel
theorem dX1_reopen_23 : decode cX1_reopen 23 = .ok (.getfield 27, 3) := by decide +kernel
theorem dX1_reopen_26 : decode cX1_reopen 26 = .ok (.iload_n 1, 1) := by decide +kernel
theorem dX1_reopen_27 : decode cX1_reopen 27 = .ok (.iconst 0, 1) := by decide +kernel
theorem dX1_reopen_28 : decode cX1_reopen 28 = .ok (.iastore, 1) := by decide +kernel
theorem dX1_reopen_29 : decode cX1_reopen 29 = .ok (.aload_n 0, 1) := by decide +kernel
theorem dX1_reopen_30 : decode cX1_reopen 30 = .ok (.getfield 30, 3) := by decide +kernel
theorem dX1_reopen_33 : decode cX1_reopen 33 = .ok (.iload_n 1, 1) := by decide +kernel
theorem dX1_reopen_34 : decode cX1_reopen 34 = .ok (.iconst (-1), 1) := by decide +kernel
theorem dX1_reopen_35 : decode cX1_reopen 35 = .ok (.iastore, 1) := by decide +kernel
theorem dX1_reopen_36 : decode cX1_reopen 36 = .ok (.return_, 1) := by decide +kernel
theorem dX1_draw_0 : decode cX1_draw 0 = .ok (.iconst 0, 1) := by decide +kernel
theorem dX1_draw_1 : decode cX1_draw 1 = .ok (.istore 4, 2) := by decide +kernel
theorem dX1_draw_3 : decode cX1_draw 3 = .ok (.iload 4, 2) := by decide +kernel
theorem dX1_draw_5 : decode cX1_draw 5 = .ok (.aload_n 0, 1) := by decide +kernel
theorem dX1_draw_6 : decode cX1_draw 6 = .ok (.getfield 21, 3) := by decide +kernel
theorem dX1_draw_9 : decode cX1_draw 9 = .ok (.iload_n 1, 1) := by decide +kernel
theorem dX1_draw_10 : decode cX1_draw 10 = .ok (.iaload, 1) := by decide +kernel
theorem dX1_draw_11 : decode cX1_draw 11 = .ok (.if_icmp .ge 39, 3) := by decide +kernel
theorem dX1_draw_14 : decode cX1_draw 14 = .ok (.aload_n 0, 1) := by decide +kernel
theorem dX1_draw_15 : decode cX1_draw 15 = .ok (.getfield 33, 3) := by decide +kernel
theorem dX1_draw_18 : decode cX1_draw 18 = .ok (.aload_n 0, 1) := by decide +kernel
theorem dX1_draw_19 : decode cX1_draw 19 = .ok (.getfield 9, 3) := by decide +kernel
theorem dX1_draw_22 : decode cX1_draw 22 = .ok (.iload_n 1, 1) := by decide +kernel
theorem dX1_draw_23 : decode cX1_draw 23 = .ok (.iaload, 1) := by decide +kernel
theorem dX1_draw_24 : decode cX1_draw 24 = .ok (.iload_n 2, 1) := by decide +kernel
theorem dX1_draw_25 : decode cX1_draw 25 = .ok (.iload 4, 2) := by decide +kernel
theorem dX1_draw_27 : decode cX1_draw 27 = .ok (.iadd, 1) := by decide +kernel
theorem dX1_draw_28 : decode cX1_draw 28 = .ok (.iload_n 3, 1) := by decide +kernel
theorem dX1_draw_29 : decode cX1_draw 29 = .ok (.aload_n 0, 1) := by decide +kernel
theorem dX1_draw_30 : decode cX1_draw 30 = .ok (.getfield 24, 3) := by decide +kernel
theorem dX1_draw_33 : decode cX1_draw 33 = .ok (.iload_n 1, 1) := by decide +kernel
theorem dX1_draw_34 : decode cX1_draw 34 = .ok (.iconst 4, 1) := by decide +kernel
theorem dX1_draw_35 : decode cX1_draw 35 = .ok (.imul, 1) := by decide +kernel
theorem dX1_draw_36 : decode cX1_draw 36 = .ok (.iload 4, 2) := by decide +kernel
theorem dX1_draw_38 : decode cX1_draw 38 = .ok (.iadd, 1) := by decide +kernel
theorem dX1_draw_39 : decode cX1_draw 39 = .ok (.iaload, 1) := by decide +kernel
theorem dX1_draw_40 : decode cX1_draw 40 = .ok (.imul, 1) := by decide +kernel
theorem dX1_draw_41 : decode cX1_draw 41 = .ok (.invokevirtual 45, 3) := by decide +kernel
theorem dX1_draw_44 : decode cX1_draw 44 = .ok (.iinc 4 1, 3) := by decide +kernel
theorem dX1_draw_47 : decode cX1_draw 47 = .ok (.goto (-44), 3) := by decide +kernel
theorem dX1_draw_50 : decode cX1_draw 50 = .ok (.return_, 1) := by decide +kernel
theorem dX1_beginBefore_0 : decode cX1_beginBefore 0 = .ok (.iconst 0, 1) := by decide +kernel
theorem dX1_beginBefore_1 : decode cX1_beginBefore 1 = .ok (.istore_n 2, 1) := by decide +kernel
theorem dX1_beginBefore_2 : decode cX1_beginBefore 2 = .ok (.iload_n 2, 1) := by decide +kernel
theorem dX1_beginBefore_3 : decode cX1_beginBefore 3 = .ok (.aload_n 0, 1) := by decide +kernel
theorem dX1_beginBefore_4 : decode cX1_beginBefore 4 = .ok (.getfield 37, 3) := by decide +kernel
theorem dX1_beginBefore_7 : decode cX1_beginBefore 7 = .ok (.if_icmp .ge 36, 3) := by decide +kernel
theorem dX1_beginBefore_10 : decode cX1_beginBefore 10 = .ok (.aload_n 0, 1) := by decide +kernel
theorem dX1_beginBefore_11 : decode cX1_beginBefore 11 = .ok (.getfield 27, 3) := by decide +kernel
theorem dX1_beginBefore_14 : decode cX1_beginBefore 14 = .ok (.iload_n 2, 1) := by decide +kernel
theorem dX1_beginBefore_15 : decode cX1_beginBefore 15 = .ok (.iaload, 1) := by decide +kernel
theorem dX1_beginBefore_16 : decode cX1_beginBefore 16 = .ok (.iconst 1, 1) := by decide +kernel
theorem dX1_beginBefore_17 : decode cX1_beginBefore 17 = .ok (.if_icmp .ne 20, 3) := by decide +kernel
theorem dX1_beginBefore_20 : decode cX1_beginBefore 20 = .ok (.aload_n 0, 1) := by decide +kernel
theorem dX1_beginBefore_21 : decode cX1_beginBefore 21 = .ok (.getfield 30, 3) := by decide +kernel
theorem dX1_beginBefore_24 : decode cX1_beginBefore 24 = .ok (.iload_n 2, 1) := by decide +kernel
theorem dX1_beginBefore_25 : decode cX1_beginBefore 25 = .ok (.iaload, 1) := by decide +kernel
theorem dX1_beginBefore_26 : decode cX1_beginBefore 26 = .ok (.iload_n 1, 1) := by decide +kernel
theorem dX1_beginBefore_27 : decode cX1_beginBefore 27 = .ok (.if_icmp .ge 10, 3) := by decide +kernel
theorem dX1_beginBefore_30 : decode cX1_beginBefore 30 = .ok (.aload_n 0, 1) := by decide +kernel
theorem dX1_beginBefore_31 : decode cX1_beginBefore 31 = .ok (.getfield 27, 3) := by decide +kernel
theorem dX1_beginBefore_34 : decode cX1_beginBefore 34 = .ok (.iload_n 2, 1) := by decide +kernel
theorem dX1_beginBefore_35 : decode cX1_beginBefore 35 = .ok (.iconst 2, 1) := by decide +kernel
theorem dX1_beginBefore_36 : decode cX1_beginBefore 36 = .ok (.iastore, 1) := by decide +kernel
theorem dX1_beginBefore_37 : decode cX1_beginBefore 37 = .ok (.iinc 2 1, 3) := by decide +kernel
theorem dX1_beginBefore_40 : decode cX1_beginBefore 40 = .ok (.goto (-38), 3) := by decide +kernel
theorem dX1_beginBefore_43 : decode cX1_beginBefore 43 = .ok (.return_, 1) := by decide +kernel
theorem dX1_isBorne_0 : decode cX1_isBorne 0 = .ok (.iconst 0, 1) := by decide +kernel
theorem dX1_isBorne_1 : decode cX1_isBorne 1 = .ok (.istore_n 3, 1) := by decide +kernel
theorem dX1_isBorne_2 : decode cX1_isBorne 2 = .ok (.iload_n 3, 1) := by decide +kernel
theorem dX1_isBorne_3 : decode cX1_isBorne 3 = .ok (.aload_n 0, 1) := by decide +kernel
theorem dX1_isBorne_4 : decode cX1_isBorne 4 = .ok (.getfield 21, 3) := by decide +kernel
theorem dX1_isBorne_7 : decode cX1_isBorne 7 = .ok (.iload_n 1, 1) := by decide +kernel
theorem dX1_isBorne_8 : decode cX1_isBorne 8 = .ok (.iaload, 1) := by decide +kernel
theorem dX1_isBorne_9 : decode cX1_isBorne 9 = .ok (.if_icmp .ge 40, 3) := by decide +kernel
theorem dX1_isBorne_12 : decode cX1_isBorne 12 = .ok (.aload_n 0, 1) := by decide +kernel
theorem dX1_isBorne_13 : decode cX1_isBorne 13 = .ok (.getfield 33, 3) := by decide +kernel
theorem dX1_isBorne_16 : decode cX1_isBorne 16 = .ok (.aload_n 0, 1) := by decide +kernel
theorem dX1_isBorne_17 : decode cX1_isBorne 17 = .ok (.getfield 9, 3) := by decide +kernel
theorem dX1_isBorne_20 : decode cX1_isBorne 20 = .ok (.iload_n 1, 1) := by decide +kernel
theorem dX1_isBorne_21 : decode cX1_isBorne 21 = .ok (.iaload, 1) := by decide +kernel
theorem dX1_isBorne_22 : decode cX1_isBorne 22 = .ok (.iload_n 2, 1) := by decide +kernel
theorem dX1_isBorne_23 : decode cX1_isBorne 23 = .ok (.iload_n 3, 1) := by decide +kernel
theorem dX1_isBorne_24 : decode cX1_isBorne 24 = .ok (.iadd, 1) := by decide +kernel
theorem dX1_isBorne_25 : decode cX1_isBorne 25 = .ok (.aload_n 0, 1) := by decide +kernel
theorem dX1_isBorne_26 : decode cX1_isBorne 26 = .ok (.getfield 24, 3) := by decide +kernel
theorem dX1_isBorne_29 : decode cX1_isBorne 29 = .ok (.iload_n 1, 1) := by decide +kernel
theorem dX1_isBorne_30 : decode cX1_isBorne 30 = .ok (.iconst 4, 1) := by decide +kernel
theorem dX1_isBorne_31 : decode cX1_isBorne 31 = .ok (.imul, 1) := by decide +kernel
theorem dX1_isBorne_32 : decode cX1_isBorne 32 = .ok (.iload_n 3, 1) := by decide +kernel
theorem dX1_isBorne_33 : decode cX1_isBorne 33 = .ok (.iadd, 1) := by decide +kernel
theorem dX1_isBorne_34 : decode cX1_isBorne 34 = .ok (.iaload, 1) := by decide +kernel
theorem dX1_isBorne_35 : decode cX1_isBorne 35 = .ok (.invokevirtual 48, 3) := by decide +kernel
theorem dX1_isBorne_38 : decode cX1_isBorne 38 = .ok (.ifCond .ne 5, 3) := by decide +kernel
theorem dX1_isBorne_41 : decode cX1_isBorne 41 = .ok (.iconst 0, 1) := by decide +kernel
theorem dX1_isBorne_42 : decode cX1_isBorne 42 = .ok (.ireturn, 1) := by decide +kernel
theorem dX1_isBorne_43 : decode cX1_isBorne 43 = .ok (.iinc 3 1, 3) := by decide +kernel
theorem dX1_isBorne_46 : decode cX1_isBorne 46 = .ok (.goto (-44), 3) := by decide +kernel
theorem dX1_isBorne_49 : decode cX1_isBorne 49 = .ok (.iconst 1, 1) := by decide +kernel
theorem dX1_isBorne_50 : decode cX1_isBorne 50 = .ok (.ireturn, 1) := by decide +kernel
theorem dX1_costFrom_0 : decode cX1_costFrom 0 = .ok (.lconst 0, 1) := by decide +kernel
theorem dX1_costFrom_1 : decode cX1_costFrom 1 = .ok (.lstore 4, 2) := by decide +kernel
theorem dX1_costFrom_3 : decode cX1_costFrom 3 = .ok (.iconst 0, 1) := by decide +kernel
theorem dX1_costFrom_4 : decode cX1_costFrom 4 = .ok (.istore 6, 2) := by decide +kernel
theorem dX1_costFrom_6 : decode cX1_costFrom 6 = .ok (.iload 6, 2) := by decide +kernel
theorem dX1_costFrom_8 : decode cX1_costFrom 8 = .ok (.aload_n 0, 1) := by decide +kernel
theorem dX1_costFrom_9 : decode cX1_costFrom 9 = .ok (.getfield 21, 3) := by decide +kernel
theorem dX1_costFrom_12 : decode cX1_costFrom 12 = .ok (.iload_n 1, 1) := by decide +kernel
theorem dX1_costFrom_13 : decode cX1_costFrom 13 = .ok (.iaload, 1) := by decide +kernel
theorem dX1_costFrom_14 : decode cX1_costFrom 14 = .ok (.if_icmp .ge 43, 3) := by decide +kernel
theorem dX1_costFrom_17 : decode cX1_costFrom 17 = .ok (.iload_n 2, 1) := by decide +kernel
theorem dX1_costFrom_18 : decode cX1_costFrom 18 = .ok (.iload 6, 2) := by decide +kernel
theorem dX1_costFrom_20 : decode cX1_costFrom 20 = .ok (.iadd, 1) := by decide +kernel
theorem dX1_costFrom_21 : decode cX1_costFrom 21 = .ok (.sipush 168, 3) := by decide +kernel
theorem dX1_costFrom_24 : decode cX1_costFrom 24 = .ok (.if_icmp .ge 33, 3) := by decide +kernel
theorem dX1_costFrom_27 : decode cX1_costFrom 27 = .ok (.lload 4, 2) := by decide +kernel
theorem dX1_costFrom_29 : decode cX1_costFrom 29 = .ok (.aload_n 0, 1) := by decide +kernel
theorem dX1_costFrom_30 : decode cX1_costFrom 30 = .ok (.getfield 24, 3) := by decide +kernel
theorem dX1_costFrom_33 : decode cX1_costFrom 33 = .ok (.iload_n 1, 1) := by decide +kernel
theorem dX1_costFrom_34 : decode cX1_costFrom 34 = .ok (.iconst 4, 1) := by decide +kernel
theorem dX1_costFrom_35 : decode cX1_costFrom 35 = .ok (.imul, 1) := by decide +kernel
theorem dX1_costFrom_36 : decode cX1_costFrom 36 = .ok (.iload 6, 2) := by decide +kernel
theorem dX1_costFrom_38 : decode cX1_costFrom 38 = .ok (.iadd, 1) := by decide +kernel
theorem dX1_costFrom_39 : decode cX1_costFrom 39 = .ok (.iaload, 1) := by decide +kernel
theorem dX1_costFrom_40 : decode cX1_costFrom 40 = .ok (.aload_n 3, 1) := by decide +kernel
theorem dX1_costFrom_41 : decode cX1_costFrom 41 = .ok (.iload_n 2, 1) := by decide +kernel
theorem dX1_costFrom_42 : decode cX1_costFrom 42 = .ok (.iload 6, 2) := by decide +kernel
theorem dX1_costFrom_44 : decode cX1_costFrom 44 = .ok (.iadd, 1) := by decide +kernel
theorem dX1_costFrom_45 : decode cX1_costFrom 45 = .ok (.iaload, 1) := by decide +kernel
theorem dX1_costFrom_46 : decode cX1_costFrom 46 = .ok (.imul, 1) := by decide +kernel
theorem dX1_costFrom_47 : decode cX1_costFrom 47 = .ok (.i2l, 1) := by decide +kernel
theorem dX1_costFrom_48 : decode cX1_costFrom 48 = .ok (.ladd, 1) := by decide +kernel
theorem dX1_costFrom_49 : decode cX1_costFrom 49 = .ok (.lstore 4, 2) := by decide +kernel
theorem dX1_costFrom_51 : decode cX1_costFrom 51 = .ok (.iinc 6 1, 3) := by decide +kernel
theorem dX1_costFrom_54 : decode cX1_costFrom 54 = .ok (.goto (-48), 3) := by decide +kernel
theorem dX1_costFrom_57 : decode cX1_costFrom 57 = .ok (.lload 4, 2) := by decide +kernel
theorem dX1_costFrom_59 : decode cX1_costFrom 59 = .ok (.lreturn, 1) := by decide +kernel
theorem dX2_init_0 : decode cX2_init 0 = .ok (.aload_n 0, 1) := by decide +kernel
theorem dX2_init_1 : decode cX2_init 1 = .ok (.invokespecial 3, 3) := by decide +kernel
theorem dX2_init_4 : decode cX2_init 4 = .ok (.aload_n 0, 1) := by decide +kernel
theorem dX2_init_5 : decode cX2_init 5 = .ok (.aload_n 1, 1) := by decide +kernel
theorem dX2_init_6 : decode cX2_init 6 = .ok (.putfield 9, 3) := by decide +kernel
theorem dX2_init_9 : decode cX2_init 9 = .ok (.aload_n 0, 1) := by decide +kernel
theorem dX2_init_10 : decode cX2_init 10 = .ok (.aload_n 3, 1) := by decide +kernel
theorem dX2_init_11 : decode cX2_init 11 = .ok (.putfield 15, 3) := by decide +kernel
theorem dX2_init_14 : decode cX2_init 14 = .ok (.aload_n 0, 1) := by decide +kernel
theorem dX2_init_15 : decode cX2_init 15 = .ok (.new 19, 3) := by decide +kernel
theorem dX2_init_18 : decode cX2_init 18 = .ok (.dup, 1) := by decide +kernel
theorem dX2_init_19 : decode cX2_init 19 = .ok (.aload_n 2, 1) := by decide +kernel
theorem dX2_init_20 : decode cX2_init 20 = .ok (.aload_n 3, 1) := by decide +kernel
theorem dX2_init_21 : decode cX2_init 21 = .ok (.invokespecial 21, 3) := by decide +kernel
theorem dX2_init_24 : decode cX2_init 24 = .ok (.putfield 24, 3) := by decide +kernel
theorem dX2_init_27 : decode cX2_init 27 = .ok (.aload_n 0, 1) := by decide +kernel
theorem dX2_init_28 : decode cX2_init 28 = .ok (.new 28, 3) := by decide +kernel
theorem dX2_init_31 : decode cX2_init 31 = .ok (.dup, 1) := by decide +kernel
theorem dX2_init_32 : decode cX2_init 32 = .ok (.invokespecial 30, 3) := by decide +kernel
theorem dX2_init_35 : decode cX2_init 35 = .ok (.putfield 31, 3) := by decide +kernel
theorem dX2_init_38 : decode cX2_init 38 = .ok (.aload_n 0, 1) := by decide +kernel
theorem dX2_init_39 : decode cX2_init 39 = .ok (.iconst 0, 1) := by decide +kernel
theorem dX2_init_40 : decode cX2_init 40 = .ok (.putfield 35, 3) := by decide +kernel
theorem dX2_init_43 : decode cX2_init 43 = .ok (.return_, 1) := by decide +kernel
theorem dX2_mayBeginAsOpen_0 : decode cX2_mayBeginAsOpen 0 = .ok (.aload_n 0, 1) := by decide +kernel
theorem dX2_mayBeginAsOpen_1 : decode cX2_mayBeginAsOpen 1 = .ok (.getfield 15, 3) := by decide +kernel
theorem dX2_mayBeginAsOpen_4 : decode cX2_mayBeginAsOpen 4 = .ok (.getfield 39, 3) := by decide +kernel
theorem dX2_mayBeginAsOpen_7 : decode cX2_mayBeginAsOpen 7 = .ok (.iload_n 1, 1) := by decide +kernel
theorem dX2_mayBeginAsOpen_8 : decode cX2_mayBeginAsOpen 8 = .ok (.iaload, 1) := by decide +kernel
theorem dX2_mayBeginAsOpen_9 : decode cX2_mayBeginAsOpen 9 = .ok (.istore_n 3, 1) := by decide +kernel
theorem dX2_mayBeginAsOpen_10 : decode cX2_mayBeginAsOpen 10 = .ok (.aload_n 0, 1) := by decide +kernel
theorem dX2_mayBeginAsOpen_11 : decode cX2_mayBeginAsOpen 11 = .ok (.getfield 15, 3) := by decide +kernel
theorem dX2_mayBeginAsOpen_14 : decode cX2_mayBeginAsOpen 14 = .ok (.iload_n 1, 1) := by decide +kernel
theorem dX2_mayBeginAsOpen_15 : decode cX2_mayBeginAsOpen 15 = .ok (.invokevirtual 45, 3) := by decide +kernel
theorem dX2_mayBeginAsOpen_18 : decode cX2_mayBeginAsOpen 18 = .ok (.aload_n 0, 1) := by decide +kernel
theorem dX2_mayBeginAsOpen_19 : decode cX2_mayBeginAsOpen 19 = .ok (.iload_n 1, 1) := by decide +kernel
theorem dX2_mayBeginAsOpen_20 : decode cX2_mayBeginAsOpen 20 = .ok (.iload_n 2, 1) := by decide +kernel
theorem dX2_mayBeginAsOpen_21 : decode cX2_mayBeginAsOpen 21 = .ok (.invokevirtual 49, 3) := by decide +kernel
theorem dX2_mayBeginAsOpen_24 : decode cX2_mayBeginAsOpen 24 = .ok (.istore 4, 2) := by decide +kernel
theorem dX2_mayBeginAsOpen_26 : decode cX2_mayBeginAsOpen 26 = .ok (.iload_n 3, 1) := by decide +kernel
theorem dX2_mayBeginAsOpen_27 : decode cX2_mayBeginAsOpen 27 = .ok (.iconst (-1), 1) := by decide +kernel
theorem dX2_mayBeginAsOpen_28 : decode cX2_mayBeginAsOpen 28 = .ok (.if_icmp .eq 12, 3) := by decide +kernel
theorem dX2_mayBeginAsOpen_31 : decode cX2_mayBeginAsOpen 31 = .ok (.aload_n 0, 1) := by decide +kernel
theorem dX2_mayBeginAsOpen_32 : decode cX2_mayBeginAsOpen 32 = .ok (.getfield 15, 3) := by decide +kernel
theorem dX2_mayBeginAsOpen_35 : decode cX2_mayBeginAsOpen 35 = .ok (.iload_n 1, 1) := by decide +kernel
theorem dX2_mayBeginAsOpen_36 : decode cX2_mayBeginAsOpen 36 = .ok (.iload_n 3, 1) := by decide +kernel
theorem dX2_mayBeginAsOpen_37 : decode cX2_mayBeginAsOpen 37 = .ok (.invokevirtual 53, 3) := by decide +kernel
theorem dX2_mayBeginAsOpen_40 : decode cX2_mayBeginAsOpen 40 = .ok (.iload 4, 2) := by decide +kernel
theorem dX2_mayBeginAsOpen_42 : decode cX2_mayBeginAsOpen 42 = .ok (.ireturn, 1) := by decide +kernel
theorem dX2_mayBegin_0 : decode cX2_mayBegin 0 = .ok (.aload_n 0, 1) := by decide +kernel
theorem dX2_mayBegin_1 : decode cX2_mayBegin 1 = .ok (.getfield 15, 3) := by decide +kernel
theorem dX2_mayBegin_4 : decode cX2_mayBegin 4 = .ok (.getfield 57, 3) := by decide +kernel
theorem dX2_mayBegin_7 : decode cX2_mayBegin 7 = .ok (.iload_n 1, 1) := by decide +kernel
theorem dX2_mayBegin_8 : decode cX2_mayBegin 8 = .ok (.iaload, 1) := by decide +kernel
theorem dX2_mayBegin_9 : decode cX2_mayBegin 9 = .ok (.istore_n 3, 1) := by decide +kernel
theorem dX2_mayBegin_10 : decode cX2_mayBegin 10 = .ok (.iload_n 2, 1) := by decide +kernel
theorem dX2_mayBegin_11 : decode cX2_mayBegin 11 = .ok (.aload_n 0, 1) := by decide +kernel
theorem dX2_mayBegin_12 : decode cX2_mayBegin 12 = .ok (.getfield 35, 3) := by decide +kernel
theorem dX2_mayBegin_15 : decode cX2_mayBegin 15 = .ok (.if_icmp .lt 38, 3) := by decide +kernel
theorem dX2_mayBegin_18 : decode cX2_mayBegin 18 = .ok (.iload_n 2, 1) := by decide +kernel
theorem dX2_mayBegin_19 : decode cX2_mayBegin 19 = .ok (.aload_n 0, 1) := by decide +kernel
theorem dX2_mayBegin_20 : decode cX2_mayBegin 20 = .ok (.getfield 15, 3) := by decide +kernel
theorem dX2_mayBegin_23 : decode cX2_mayBegin 23 = .ok (.getfield 60, 3) := by decide +kernel
theorem dX2_mayBegin_26 : decode cX2_mayBegin 26 = .ok (.iload_n 1, 1) := by decide +kernel
theorem dX2_mayBegin_27 : decode cX2_mayBegin 27 = .ok (.iaload, 1) := by decide +kernel
theorem dX2_mayBegin_28 : decode cX2_mayBegin 28 = .ok (.if_icmp .lt 25, 3) := by decide +kernel
theorem dX2_mayBegin_31 : decode cX2_mayBegin 31 = .ok (.iload_n 2, 1) := by decide +kernel
theorem dX2_mayBegin_32 : decode cX2_mayBegin 32 = .ok (.aload_n 0, 1) := by decide +kernel
theorem dX2_mayBegin_33 : decode cX2_mayBegin 33 = .ok (.getfield 15, 3) := by decide +kernel
theorem dX2_mayBegin_36 : decode cX2_mayBegin 36 = .ok (.getfield 63, 3) := by decide +kernel
theorem dX2_mayBegin_39 : decode cX2_mayBegin 39 = .ok (.iload_n 1, 1) := by decide +kernel
theorem dX2_mayBegin_40 : decode cX2_mayBegin 40 = .ok (.iaload, 1) := by decide +kernel
theorem dX2_mayBegin_41 : decode cX2_mayBegin 41 = .ok (.if_icmp .gt 12, 3) := by decide +kernel
theorem dX2_mayBegin_44 : decode cX2_mayBegin 44 = .ok (.iload_n 2, 1) := by decide +kernel
theorem dX2_mayBegin_45 : decode cX2_mayBegin 45 = .ok (.iload_n 3, 1) := by decide +kernel
theorem dX2_mayBegin_46 : decode cX2_mayBegin 46 = .ok (.iadd, 1) := by decide +kernel
theorem dX2_mayBegin_47 : decode cX2_mayBegin 47 = .ok (.sipush 168, 3) := by decide +kernel
theorem dX2_mayBegin_50 : decode cX2_mayBegin 50 = .ok (.if_icmp .le 5, 3) := by decide +kernel
theorem dX2_mayBegin_53 : decode cX2_mayBegin 53 = .ok (.iconst 0, 1) := by decide +kernel
theorem dX2_mayBegin_54 : decode cX2_mayBegin 54 = .ok (.ireturn, 1) := by decide +kernel
theorem dX2_mayBegin_55 : decode cX2_mayBegin 55 = .ok (.iload_n 2, 1) := by decide +kernel
theorem dX2_mayBegin_56 : decode cX2_mayBegin 56 = .ok (.istore 4, 2) := by decide +kernel
theorem dX2_mayBegin_58 : decode cX2_mayBegin 58 = .ok (.iload 4, 2) := by decide +kernel
theorem dX2_mayBegin_60 : decode cX2_mayBegin 60 = .ok (.iload_n 2, 1) := by decide +kernel
theorem dX2_mayBegin_61 : decode cX2_mayBegin 61 = .ok (.iload_n 3, 1) := by decide +kernel
theorem dX2_mayBegin_62 : decode cX2_mayBegin 62 = .ok (.iadd, 1) := by decide +kernel
theorem dX2_mayBegin_63 : decode cX2_mayBegin 63 = .ok (.if_icmp .ge 55, 3) := by decide +kernel
theorem dX2_mayBegin_66 : decode cX2_mayBegin 66 = .ok (.aload_n 0, 1) := by decide +kernel
theorem dX2_mayBegin_67 : decode cX2_mayBegin 67 = .ok (.getfield 31, 3) := by decide +kernel
theorem dX2_mayBegin_70 : decode cX2_mayBegin 70 = .ok (.aload_n 0, 1) := by decide +kernel
theorem dX2_mayBegin_71 : decode cX2_mayBegin 71 = .ok (.getfield 15, 3) := by decide +kernel
theorem dX2_mayBegin_74 : decode cX2_mayBegin 74 = .ok (.getfield 66, 3) := by decide +kernel
theorem dX2_mayBegin_77 : decode cX2_mayBegin 77 = .ok (.iload_n 1, 1) := by decide +kernel
theorem dX2_mayBegin_78 : decode cX2_mayBegin 78 = .ok (.iaload, 1) := by decide +kernel
theorem dX2_mayBegin_79 : decode cX2_mayBegin 79 = .ok (.iload 4, 2) := by decide +kernel
theorem dX2_mayBegin_81 : decode cX2_mayBegin 81 = .ok (.bipush 24, 2) := by decide +kernel
theorem dX2_mayBegin_83 : decode cX2_mayBegin 83 = .ok (.irem, 1) := by decide +kernel
theorem dX2_mayBegin_84 : decode cX2_mayBegin 84 = .ok (.invokevirtual 69, 3) := by decide +kernel
theorem dX2_mayBegin_87 : decode cX2_mayBegin 87 = .ok (.ifCond .ne 23, 3) := by decide +kernel
theorem dX2_mayBegin_90 : decode cX2_mayBegin 90 = .ok (.aload_n 0, 1) := by decide +kernel
theorem dX2_mayBegin_91 : decode cX2_mayBegin 91 = .ok (.getfield 9, 3) := by decide +kernel
theorem dX2_mayBegin_94 : decode cX2_mayBegin 94 = .ok (.getfield 72, 3) := by decide +kernel
theorem dX2_mayBegin_97 : decode cX2_mayBegin 97 = .ok (.iload 4, 2) := by decide +kernel
theorem dX2_mayBegin_99 : decode cX2_mayBegin 99 = .ok (.iaload, 1) := by decide +kernel
theorem dX2_mayBegin_100 : decode cX2_mayBegin 100 = .ok (.aload_n 0, 1) := by decide +kernel
theorem dX2_mayBegin_101 : decode cX2_mayBegin 101 = .ok (.getfield 31, 3) := by decide +kernel
theorem dX2_mayBegin_104 : decode cX2_mayBegin 104 = .ok (.getfield 77, 3) := by decide +kernel
theorem dX2_mayBegin_107 : decode cX2_mayBegin 107 = .ok (.if_icmp .le 5, 3) := by decide +kernel
theorem dX2_mayBegin_110 : decode cX2_mayBegin 110 = .ok (.iconst 0, 1) := by decide +kernel
theorem dX2_mayBegin_111 : decode cX2_mayBegin 111 = .ok (.ireturn, 1) := by decide +kernel
theorem dX2_mayBegin_112 : decode cX2_mayBegin 112 = .ok (.iinc 4 1, 3) := by decide +kernel
theorem dX2_mayBegin_115 : decode cX2_mayBegin 115 = .ok (.goto (-57), 3) := by decide +kernel
theorem dX2_mayBegin_118 : decode cX2_mayBegin 118 = .ok (.aload_n 0, 1) := by decide +kernel
theorem dX2_mayBegin_119 : decode cX2_mayBegin 119 = .ok (.iload_n 1, 1) := by decide +kernel
theorem dX2_mayBegin_120 : decode cX2_mayBegin 120 = .ok (.iload_n 2, 1) := by decide +kernel
theorem dX2_mayBegin_121 : decode cX2_mayBegin 121 = .ok (.invokevirtual 80, 3) := by decide +kernel
theorem dX2_mayBegin_124 : decode cX2_mayBegin 124 = .ok (.ifCond .eq 19, 3) := by decide +kernel
theorem dX2_mayBegin_127 : decode cX2_mayBegin 127 = .ok (.aload_n 0, 1) := by decide +kernel
theorem dX2_mayBegin_128 : decode cX2_mayBegin 128 = .ok (.getfield 15, 3) := by decide +kernel
theorem dX2_mayBegin_131 : decode cX2_mayBegin 131 = .ok (.iload_n 1, 1) := by decide +kernel
theorem dX2_mayBegin_132 : decode cX2_mayBegin 132 = .ok (.iload_n 2, 1) := by decide +kernel
theorem dX2_mayBegin_133 : decode cX2_mayBegin 133 = .ok (.invokevirtual 83, 3) := by decide +kernel
theorem dX2_mayBegin_136 : decode cX2_mayBegin 136 = .ok (.ifCond .eq 7, 3) := by decide +kernel
theorem dX2_mayBegin_139 : decode cX2_mayBegin 139 = .ok (.iconst 1, 1) := by decide +kernel
theorem dX2_mayBegin_140 : decode cX2_mayBegin 140 = .ok (.goto 4, 3) := by decide +kernel
theorem dX2_mayBegin_143 : decode cX2_mayBegin 143 = .ok (.iconst 0, 1) := by decide +kernel
theorem dX2_mayBegin_144 : decode cX2_mayBegin 144 = .ok (.ireturn, 1) := by decide +kernel
theorem dX2_isInTurn_0 : decode cX2_isInTurn 0 = .ok (.iconst 0, 1) := by decide +kernel
theorem dX2_isInTurn_1 : decode cX2_isInTurn 1 = .ok (.istore_n 3, 1) := by decide +kernel
theorem dX2_isInTurn_2 : decode cX2_isInTurn 2 = .ok (.iload_n 3, 1) := by decide +kernel
theorem dX2_isInTurn_3 : decode cX2_isInTurn 3 = .ok (.aload_n 0, 1) := by decide +kernel
theorem dX2_isInTurn_4 : decode cX2_isInTurn 4 = .ok (.getfield 15, 3) := by decide +kernel
theorem dX2_isInTurn_7 : decode cX2_isInTurn 7 = .ok (.getfield 86, 3) := by decide +kernel
theorem dX2_isInTurn_10 : decode cX2_isInTurn 10 = .ok (.if_icmp .ge 95, 3) := by decide +kernel
theorem dX2_isInTurn_13 : decode cX2_isInTurn 13 = .ok (.aload_n 0, 1) := by decide +kernel
theorem dX2_isInTurn_14 : decode cX2_isInTurn 14 = .ok (.getfield 15, 3) := by decide +kernel
theorem dX2_isInTurn_17 : decode cX2_isInTurn 17 = .ok (.getfield 89, 3) := by decide +kernel
theorem dX2_isInTurn_20 : decode cX2_isInTurn 20 = .ok (.iload_n 3, 1) := by decide +kernel
theorem dX2_isInTurn_21 : decode cX2_isInTurn 21 = .ok (.iaload, 1) := by decide +kernel
theorem dX2_isInTurn_22 : decode cX2_isInTurn 22 = .ok (.ifCond .ne 6, 3) := by decide +kernel
theorem dX2_isInTurn_25 : decode cX2_isInTurn 25 = .ok (.goto 74, 3) := by decide +kernel
theorem dX2_isInTurn_28 : decode cX2_isInTurn 28 = .ok (.aload_n 0, 1) := by decide +kernel
theorem dX2_isInTurn_29 : decode cX2_isInTurn 29 = .ok (.getfield 15, 3) := by decide +kernel
theorem dX2_isInTurn_32 : decode cX2_isInTurn 32 = .ok (.getfield 39, 3) := by decide +kernel
theorem dX2_isInTurn_35 : decode cX2_isInTurn 35 = .ok (.iload_n 3, 1) := by decide +kernel
theorem dX2_isInTurn_36 : decode cX2_isInTurn 36 = .ok (.iaload, 1) := by decide +kernel
theorem dX2_isInTurn_37 : decode cX2_isInTurn 37 = .ok (.istore 4, 2) := by decide +kernel
theorem dX2_isInTurn_39 : decode cX2_isInTurn 39 = .ok (.aload_n 0, 1) := by decide +kernel
theorem dX2_isInTurn_40 : decode cX2_isInTurn 40 = .ok (.getfield 31, 3) := by decide +kernel
theorem dX2_isInTurn_43 : decode cX2_isInTurn 43 = .ok (.iload_n 1, 1) := by decide +kernel
theorem dX2_isInTurn_44 : decode cX2_isInTurn 44 = .ok (.iload_n 3, 1) := by decide +kernel
theorem dX2_isInTurn_45 : decode cX2_isInTurn 45 = .ok (.invokevirtual 92, 3) := by decide +kernel
theorem dX2_isInTurn_48 : decode cX2_isInTurn 48 = .ok (.ifCond .eq 21, 3) := by decide +kernel
theorem dX2_isInTurn_51 : decode cX2_isInTurn 51 = .ok (.iload 4, 2) := by decide +kernel
theorem dX2_isInTurn_53 : decode cX2_isInTurn 53 = .ok (.iload_n 2, 1) := by decide +kernel
theorem dX2_isInTurn_54 : decode cX2_isInTurn 54 = .ok (.aload_n 0, 1) := by decide +kernel
theorem dX2_isInTurn_55 : decode cX2_isInTurn 55 = .ok (.getfield 15, 3) := by decide +kernel
theorem dX2_isInTurn_58 : decode cX2_isInTurn 58 = .ok (.getfield 57, 3) := by decide +kernel
theorem dX2_isInTurn_61 : decode cX2_isInTurn 61 = .ok (.iload_n 1, 1) := by decide +kernel
theorem dX2_isInTurn_62 : decode cX2_isInTurn 62 = .ok (.iaload, 1) := by decide +kernel
theorem dX2_isInTurn_63 : decode cX2_isInTurn 63 = .ok (.iadd, 1) := by decide +kernel
theorem dX2_isInTurn_64 : decode cX2_isInTurn 64 = .ok (.if_icmp .ge 5, 3) := by decide +kernel
theorem dX2_isInTurn_67 : decode cX2_isInTurn 67 = .ok (.iconst 0, 1) := by decide +kernel
theorem dX2_isInTurn_68 : decode cX2_isInTurn 68 = .ok (.ireturn, 1) := by decide +kernel
theorem dX2_isInTurn_69 : decode cX2_isInTurn 69 = .ok (.aload_n 0, 1) := by decide +kernel
theorem dX2_isInTurn_70 : decode cX2_isInTurn 70 = .ok (.getfield 31, 3) := by decide +kernel
theorem dX2_isInTurn_73 : decode cX2_isInTurn 73 = .ok (.iload_n 3, 1) := by decide +kernel
theorem dX2_isInTurn_74 : decode cX2_isInTurn 74 = .ok (.iload_n 1, 1) := by decide +kernel
theorem dX2_isInTurn_75 : decode cX2_isInTurn 75 = .ok (.invokevirtual 92, 3) := by decide +kernel
theorem dX2_isInTurn_78 : decode cX2_isInTurn 78 = .ok (.ifCond .eq 21, 3) := by decide +kernel
theorem dX2_isInTurn_81 : decode cX2_isInTurn 81 = .ok (.iload_n 2, 1) := by decide +kernel
theorem dX2_isInTurn_82 : decode cX2_isInTurn 82 = .ok (.iload 4, 2) := by decide +kernel
theorem dX2_isInTurn_84 : decode cX2_isInTurn 84 = .ok (.aload_n 0, 1) := by decide +kernel
theorem dX2_isInTurn_85 : decode cX2_isInTurn 85 = .ok (.getfield 15, 3) := by decide +kernel
theorem dX2_isInTurn_88 : decode cX2_isInTurn 88 = .ok (.getfield 57, 3) := by decide +kernel
theorem dX2_isInTurn_91 : decode cX2_isInTurn 91 = .ok (.iload_n 3, 1) := by decide +kernel
theorem dX2_isInTurn_92 : decode cX2_isInTurn 92 = .ok (.iaload, 1) := by decide +kernel
theorem dX2_isInTurn_93 : decode cX2_isInTurn 93 = .ok (.iadd, 1) := by decide +kernel
theorem dX2_isInTurn_94 : decode cX2_isInTurn 94 = .ok (.if_icmp .ge 5, 3) := by decide +kernel
theorem dX2_isInTurn_97 : decode cX2_isInTurn 97 = .ok (.iconst 0, 1) := by decide +kernel
theorem dX2_isInTurn_98 : decode cX2_isInTurn 98 = .ok (.ireturn, 1) := by decide +kernel
theorem dX2_isInTurn_99 : decode cX2_isInTurn 99 = .ok (.iinc 3 1, 3) := by decide +kernel
theorem dX2_isInTurn_102 : decode cX2_isInTurn 102 = .ok (.goto (-100), 3) := by decide +kernel
theorem dX2_isInTurn_105 : decode cX2_isInTurn 105 = .ok (.iconst 1, 1) := by decide +kernel
theorem dX2_isInTurn_106 : decode cX2_isInTurn 106 = .ok (.ireturn, 1) := by decide +kernel
theorem dX2_planOneByOne_0 : decode cX2_planOneByOne 0 = .ok (.iconst 0, 1) := by decide +kernel
theorem dX2_planOneByOne_1 : decode cX2_planOneByOne 1 = .ok (.istore_n 1, 1) := by decide +kernel
theorem dX2_planOneByOne_2 : decode cX2_planOneByOne 2 = .ok (.iload_n 1, 1) := by decide +kernel
theorem dX2_planOneByOne_3 : decode cX2_planOneByOne 3 = .ok (.aload_n 0, 1) := by decide +kernel
theorem dX2_planOneByOne_4 : decode cX2_planOneByOne 4 = .ok (.getfield 15, 3) := by decide +kernel
theorem dX2_planOneByOne_7 : decode cX2_planOneByOne 7 = .ok (.getfield 86, 3) := by decide +kernel
theorem dX2_planOneByOne_10 : decode cX2_planOneByOne 10 = .ok (.if_icmp .ge 17, 3) := by decide +kernel
theorem dX2_planOneByOne_13 : decode cX2_planOneByOne 13 = .ok (.aload_n 0, 1) := by decide +kernel
theorem dX2_planOneByOne_14 : decode cX2_planOneByOne 14 = .ok (.getfield 15, 3) := by decide +kernel
theorem dX2_planOneByOne_17 : decode cX2_planOneByOne 17 = .ok (.iload_n 1, 1) := by decide +kernel
theorem dX2_planOneByOne_18 : decode cX2_planOneByOne 18 = .ok (.invokevirtual 45, 3) := by decide +kernel
theorem dX2_planOneByOne_21 : decode cX2_planOneByOne 21 = .ok (.iinc 1 1, 3) := by decide +kernel
theorem dX2_planOneByOne_24 : decode cX2_planOneByOne 24 = .ok (.goto (-22), 3) := by decide +kernel
theorem dX2_planOneByOne_27 : decode cX2_planOneByOne 27 = .ok (.iconst 0, 1) := by decide +kernel
theorem dX2_planOneByOne_28 : decode cX2_planOneByOne 28 = .ok (.istore_n 1, 1) := by decide +kernel
theorem dX2_planOneByOne_29 : decode cX2_planOneByOne 29 = .ok (.iload_n 1, 1) := by decide +kernel
theorem dX2_planOneByOne_30 : decode cX2_planOneByOne 30 = .ok (.aload_n 0, 1) := by decide +kernel
theorem dX2_planOneByOne_31 : decode cX2_planOneByOne 31 = .ok (.getfield 15, 3) := by decide +kernel
theorem dX2_planOneByOne_34 : decode cX2_planOneByOne 34 = .ok (.getfield 86, 3) := by decide +kernel
theorem dX2_planOneByOne_37 : decode cX2_planOneByOne 37 = .ok (.if_icmp .ge 45, 3) := by decide +kernel
theorem dX2_planOneByOne_40 : decode cX2_planOneByOne 40 = .ok (.aload_n 0, 1) := by decide +kernel
theorem dX2_planOneByOne_41 : decode cX2_planOneByOne 41 = .ok (.getfield 15, 3) := by decide +kernel
theorem dX2_planOneByOne_44 : decode cX2_planOneByOne 44 = .ok (.getfield 89, 3) := by decide +kernel
theorem dX2_planOneByOne_47 : decode cX2_planOneByOne 47 = .ok (.iload_n 1, 1) := by decide +kernel
theorem dX2_planOneByOne_48 : decode cX2_planOneByOne 48 = .ok (.iaload, 1) := by decide +kernel
theorem dX2_planOneByOne_49 : decode cX2_planOneByOne 49 = .ok (.ifCond .ne 11, 3) := by decide +kernel
theorem dX2_planOneByOne_52 : decode cX2_planOneByOne 52 = .ok (.aload_n 0, 1) := by decide +kernel
theorem dX2_planOneByOne_53 : decode cX2_planOneByOne 53 = .ok (.iload_n 1, 1) := by decide +kernel
theorem dX2_planOneByOne_54 : decode cX2_planOneByOne 54 = .ok (.invokevirtual 95, 3) := by decide +kernel
theorem dX2_planOneByOne_57 : decode cX2_planOneByOne 57 = .ok (.goto 4, 3) := by decide +kernel
theorem dX2_planOneByOne_60 : decode cX2_planOneByOne 60 = .ok (.iconst (-1), 1) := by decide +kernel
theorem dX2_planOneByOne_61 : decode cX2_planOneByOne 61 = .ok (.istore_n 2, 1) := by decide +kernel
theorem dX2_planOneByOne_62 : decode cX2_planOneByOne 62 = .ok (.iload_n 2, 1) := by decide +kernel
theorem dX2_planOneByOne_63 : decode cX2_planOneByOne 63 = .ok (.iconst (-1), 1) := by decide +kernel
theorem dX2_planOneByOne_64 : decode cX2_planOneByOne 64 = .ok (.if_icmp .eq 12, 3) := by decide +kernel
theorem dX2_planOneByOne_67 : decode cX2_planOneByOne 67 = .ok (.aload_n 0, 1) := by decide +kernel
theorem dX2_planOneByOne_68 : decode cX2_planOneByOne 68 = .ok (.getfield 15, 3) := by decide +kernel
theorem dX2_planOneByOne_71 : decode cX2_planOneByOne 71 = .ok (.iload_n 1, 1) := by decide +kernel
theorem dX2_planOneByOne_72 : decode cX2_planOneByOne 72 = .ok (.iload_n 2, 1) := by decide +kernel
theorem dX2_planOneByOne_73 : decode cX2_planOneByOne 73 = .ok (.invokevirtual 53, 3) := by decide +kernel
theorem dX2_planOneByOne_76 : decode cX2_planOneByOne 76 = .ok (.iinc 1 1, 3) := by decide +kernel
theorem dX2_planOneByOne_79 : decode cX2_planOneByOne 79 = .ok (.goto (-50), 3) := by decide +kernel
theorem dX2_planOneByOne_82 : decode cX2_planOneByOne 82 = .ok (.aload_n 0, 1) := by decide +kernel
theorem dX2_planOneByOne_83 : decode cX2_planOneByOne 83 = .ok (.getfield 15, 3) := by decide +kernel
theorem dX2_planOneByOne_86 : decode cX2_planOneByOne 86 = .ok (.iconst 0, 1) := by decide +kernel
theorem dX2_planOneByOne_87 : decode cX2_planOneByOne 87 = .ok (.invokevirtual 99, 3) := by decide +kernel
theorem dX2_planOneByOne_90 : decode cX2_planOneByOne 90 = .ok (.ireturn, 1) := by decide +kernel
theorem dX2_cheapestHour_0 : decode cX2_cheapestHour 0 = .ok (.iconst (-1), 1) := by decide +kernel
theorem dX2_cheapestHour_1 : decode cX2_cheapestHour 1 = .ok (.istore_n 2, 1) := by decide +kernel
theorem dX2_cheapestHour_2 : decode cX2_cheapestHour 2 = .ok (.ldc2_w 102, 3) := by decide +kernel
theorem dX2_cheapestHour_5 : decode cX2_cheapestHour 5 = .ok (.lstore_n 3, 1) := by decide +kernel
theorem dX2_cheapestHour_6 : decode cX2_cheapestHour 6 = .ok (.aload_n 0, 1) := by decide +kernel
theorem dX2_cheapestHour_7 : decode cX2_cheapestHour 7 = .ok (.getfield 15, 3) := by decide +kernel
theorem dX2_cheapestHour_10 : decode cX2_cheapestHour 10 = .ok (.getfield 60, 3) := by decide +kernel
theorem dX2_cheapestHour_13 : decode cX2_cheapestHour 13 = .ok (.iload_n 1, 1) := by decide +kernel
theorem dX2_cheapestHour_14 : decode cX2_cheapestHour 14 = .ok (.iaload, 1) := by decide +kernel
theorem dX2_cheapestHour_15 : decode cX2_cheapestHour 15 = .ok (.istore 5, 2) := by decide +kernel
theorem dX2_cheapestHour_17 : decode cX2_cheapestHour 17 = .ok (.iload 5, 2) := by decide +kernel
theorem dX2_cheapestHour_19 : decode cX2_cheapestHour 19 = .ok (.aload_n 0, 1) := by decide +kernel
theorem dX2_cheapestHour_20 : decode cX2_cheapestHour 20 = .ok (.getfield 15, 3) := by decide +kernel
theorem dX2_cheapestHour_23 : decode cX2_cheapestHour 23 = .ok (.getfield 63, 3) := by decide +kernel
theorem dX2_cheapestHour_26 : decode cX2_cheapestHour 26 = .ok (.iload_n 1, 1) := by decide +kernel
theorem dX2_cheapestHour_27 : decode cX2_cheapestHour 27 = .ok (.iaload, 1) := by decide +kernel
theorem dX2_cheapestHour_28 : decode cX2_cheapestHour 28 = .ok (.if_icmp .gt 51, 3) := by decide +kernel
theorem dX2_cheapestHour_31 : decode cX2_cheapestHour 31 = .ok (.aload_n 0, 1) := by decide +kernel
theorem dX2_cheapestHour_32 : decode cX2_cheapestHour 32 = .ok (.iload_n 1, 1) := by decide +kernel
theorem dX2_cheapestHour_33 : decode cX2_cheapestHour 33 = .ok (.iload 5, 2) := by decide +kernel
theorem dX2_cheapestHour_35 : decode cX2_cheapestHour 35 = .ok (.invokevirtual 49, 3) := by decide +kernel
theorem dX2_cheapestHour_38 : decode cX2_cheapestHour 38 = .ok (.ifCond .eq 35, 3) := by decide +kernel
theorem dX2_cheapestHour_41 : decode cX2_cheapestHour 41 = .ok (.aload_n 0, 1) := by decide +kernel
theorem dX2_cheapestHour_42 : decode cX2_cheapestHour 42 = .ok (.getfield 15, 3) := by decide +kernel
theorem dX2_cheapestHour_45 : decode cX2_cheapestHour 45 = .ok (.iload_n 1, 1) := by decide +kernel
theorem dX2_cheapestHour_46 : decode cX2_cheapestHour 46 = .ok (.iload 5, 2) := by decide +kernel
theorem dX2_cheapestHour_48 : decode cX2_cheapestHour 48 = .ok (.aload_n 0, 1) := by decide +kernel
theorem dX2_cheapestHour_49 : decode cX2_cheapestHour 49 = .ok (.getfield 9, 3) := by decide +kernel
theorem dX2_cheapestHour_52 : decode cX2_cheapestHour 52 = .ok (.getfield 72, 3) := by decide +kernel
theorem dX2_cheapestHour_55 : decode cX2_cheapestHour 55 = .ok (.invokevirtual 104, 3) := by decide +kernel
theorem dX2_cheapestHour_58 : decode cX2_cheapestHour 58 = .ok (.lstore 6, 2) := by decide +kernel
theorem dX2_cheapestHour_60 : decode cX2_cheapestHour 60 = .ok (.lload 6, 2) := by decide +kernel
theorem dX2_cheapestHour_62 : decode cX2_cheapestHour 62 = .ok (.lload_n 3, 1) := by decide +kernel
theorem dX2_cheapestHour_63 : decode cX2_cheapestHour 63 = .ok (.lcmp, 1) := by decide +kernel
theorem dX2_cheapestHour_64 : decode cX2_cheapestHour 64 = .ok (.ifCond .ge 9, 3) := by decide +kernel
theorem dX2_cheapestHour_67 : decode cX2_cheapestHour 67 = .ok (.lload 6, 2) := by decide +kernel
theorem dX2_cheapestHour_69 : decode cX2_cheapestHour 69 = .ok (.lstore_n 3, 1) := by decide +kernel
theorem dX2_cheapestHour_70 : decode cX2_cheapestHour 70 = .ok (.iload 5, 2) := by decide +kernel
theorem dX2_cheapestHour_72 : decode cX2_cheapestHour 72 = .ok (.istore_n 2, 1) := by decide +kernel
theorem dX2_cheapestHour_73 : decode cX2_cheapestHour 73 = .ok (.iinc 5 1, 3) := by decide +kernel
theorem dX2_cheapestHour_76 : decode cX2_cheapestHour 76 = .ok (.goto (-59), 3) := by decide +kernel
theorem dX2_cheapestHour_79 : decode cX2_cheapestHour 79 = .ok (.iload_n 2, 1) := by decide +kernel
theorem dX2_cheapestHour_80 : decode cX2_cheapestHour 80 = .ok (.ireturn, 1) := by decide +kernel
theorem dX2_planTogether_0 : decode cX2_planTogether 0 = .ok (.aload_n 0, 1) := by decide +kernel
theorem dX2_planTogether_1 : decode cX2_planTogether 1 = .ok (.getfield 24, 3) := by decide +kernel
theorem dX2_planTogether_4 : decode cX2_planTogether 4 = .ok (.invokevirtual 108, 3) := by decide +kernel
theorem dX2_planTogether_7 : decode cX2_planTogether 7 = .ok (.iconst 0, 1) := by decide +kernel
theorem dX2_planTogether_8 : decode cX2_planTogether 8 = .ok (.istore_n 1, 1) := by decide +kernel
theorem dX2_planTogether_9 : decode cX2_planTogether 9 = .ok (.iload_n 1, 1) := by decide +kernel
theorem dX2_planTogether_10 : decode cX2_planTogether 10 = .ok (.aload_n 0, 1) := by decide +kernel
theorem dX2_planTogether_11 : decode cX2_planTogether 11 = .ok (.getfield 15, 3) := by decide +kernel
theorem dX2_planTogether_14 : decode cX2_planTogether 14 = .ok (.getfield 86, 3) := by decide +kernel
theorem dX2_planTogether_17 : decode cX2_planTogether 17 = .ok (.if_icmp .ge 47, 3) := by decide +kernel
theorem dX2_planTogether_20 : decode cX2_planTogether 20 = .ok (.aload_n 0, 1) := by decide +kernel
theorem dX2_planTogether_21 : decode cX2_planTogether 21 = .ok (.getfield 15, 3) := by decide +kernel
theorem dX2_planTogether_24 : decode cX2_planTogether 24 = .ok (.getfield 89, 3) := by decide +kernel
theorem dX2_planTogether_27 : decode cX2_planTogether 27 = .ok (.iload_n 1, 1) := by decide +kernel
theorem dX2_planTogether_28 : decode cX2_planTogether 28 = .ok (.iaload, 1) := by decide +kernel
theorem dX2_planTogether_29 : decode cX2_planTogether 29 = .ok (.iconst 2, 1) := by decide +kernel
theorem dX2_planTogether_30 : decode cX2_planTogether 30 = .ok (.if_icmp .eq 28, 3) := by decide +kernel
theorem dX2_planTogether_33 : decode cX2_planTogether 33 = .ok (.aload_n 0, 1) := by decide +kernel
theorem dX2_planTogether_34 : decode cX2_planTogether 34 = .ok (.getfield 24, 3) := by decide +kernel
theorem dX2_planTogether_37 : decode cX2_planTogether 37 = .ok (.iload_n 1, 1) := by decide +kernel
theorem dX2_planTogether_38 : decode cX2_planTogether 38 = .ok (.aload_n 0, 1) := by decide +kernel
theorem dX2_planTogether_39 : decode cX2_planTogether 39 = .ok (.getfield 15, 3) := by decide +kernel
theorem dX2_planTogether_42 : decode cX2_planTogether 42 = .ok (.getfield 39, 3) := by decide +kernel
theorem dX2_planTogether_45 : decode cX2_planTogether 45 = .ok (.iload_n 1, 1) := by decide +kernel
theorem dX2_planTogether_46 : decode cX2_planTogether 46 = .ok (.iaload, 1) := by decide +kernel
theorem dX2_planTogether_47 : decode cX2_planTogether 47 = .ok (.invokevirtual 111, 3) := by decide +kernel
theorem dX2_planTogether_50 : decode cX2_planTogether 50 = .ok (.aload_n 0, 1) := by decide +kernel
theorem dX2_planTogether_51 : decode cX2_planTogether 51 = .ok (.getfield 15, 3) := by decide +kernel
theorem dX2_planTogether_54 : decode cX2_planTogether 54 = .ok (.iload_n 1, 1) := by decide +kernel
theorem dX2_planTogether_55 : decode cX2_planTogether 55 = .ok (.invokevirtual 45, 3) := by decide +kernel
theorem dX2_planTogether_58 : decode cX2_planTogether 58 = .ok (.iinc 1 1, 3) := by decide +kernel
theorem dX2_planTogether_61 : decode cX2_planTogether 61 = .ok (.goto (-52), 3) := by decide +kernel
theorem dX2_planTogether_64 : decode cX2_planTogether 64 = .ok (.iconst 0, 1) := by decide +kernel
theorem dX2_planTogether_65 : decode cX2_planTogether 65 = .ok (.istore_n 1, 1) := by decide +kernel
theorem dX2_planTogether_66 : decode cX2_planTogether 66 = .ok (.iload_n 1, 1) := by decide +kernel
theorem dX2_planTogether_67 : decode cX2_planTogether 67 = .ok (.aload_n 0, 1) := by decide +kernel
theorem dX2_planTogether_68 : decode cX2_planTogether 68 = .ok (.getfield 24, 3) := by decide +kernel
theorem dX2_planTogether_71 : decode cX2_planTogether 71 = .ok (.getfield 114, 3) := by decide +kernel
theorem dX2_planTogether_74 : decode cX2_planTogether 74 = .ok (.if_icmp .ge 14, 3) := by decide +kernel
theorem dX2_planTogether_77 : decode cX2_planTogether 77 = .ok (.aload_n 0, 1) := by decide +kernel
theorem dX2_planTogether_78 : decode cX2_planTogether 78 = .ok (.iload_n 1, 1) := by decide +kernel
theorem dX2_planTogether_79 : decode cX2_planTogether 79 = .ok (.invokevirtual 115, 3) := by decide +kernel
theorem dX2_planTogether_82 : decode cX2_planTogether 82 = .ok (.iinc 1 1, 3) := by decide +kernel
theorem dX2_planTogether_85 : decode cX2_planTogether 85 = .ok (.goto (-19), 3) := by decide +kernel
theorem dX2_planTogether_88 : decode cX2_planTogether 88 = .ok (.aload_n 0, 1) := by decide +kernel
theorem dX2_planTogether_89 : decode cX2_planTogether 89 = .ok (.getfield 24, 3) := by decide +kernel
theorem dX2_planTogether_92 : decode cX2_planTogether 92 = .ok (.aload_n 0, 1) := by decide +kernel
theorem dX2_planTogether_93 : decode cX2_planTogether 93 = .ok (.getfield 31, 3) := by decide +kernel
theorem dX2_planTogether_96 : decode cX2_planTogether 96 = .ok (.invokevirtual 118, 3) := by decide +kernel
theorem dX2_planTogether_99 : decode cX2_planTogether 99 = .ok (.ifCond .eq 17, 3) := by decide +kernel
theorem dX2_planTogether_102 : decode cX2_planTogether 102 = .ok (.aload_n 0, 1) := by decide +kernel
theorem dX2_planTogether_103 : decode cX2_planTogether 103 = .ok (.getfield 24, 3) := by decide +kernel
theorem dX2_planTogether_106 : decode cX2_planTogether 106 = .ok (.invokevirtual 122, 3) := by decide +kernel
theorem dX2_planTogether_109 : decode cX2_planTogether 109 = .ok (.ifCond .eq 7, 3) := by decide +kernel
theorem dX2_planTogether_112 : decode cX2_planTogether 112 = .ok (.iconst 1, 1) := by decide +kernel
theorem dX2_planTogether_113 : decode cX2_planTogether 113 = .ok (.goto 4, 3) := by decide +kernel
theorem dX2_planTogether_116 : decode cX2_planTogether 116 = .ok (.iconst 0, 1) := by decide +kernel
theorem dX2_planTogether_117 : decode cX2_planTogether 117 = .ok (.istore_n 1, 1) := by decide +kernel
theorem dX2_planTogether_118 : decode cX2_planTogether 118 = .ok (.iconst 0, 1) := by decide +kernel
theorem dX2_planTogether_119 : decode cX2_planTogether 119 = .ok (.istore_n 2, 1) := by decide +kernel
theorem dX2_planTogether_120 : decode cX2_planTogether 120 = .ok (.iload_n 2, 1) := by decide +kernel
theorem dX2_planTogether_121 : decode cX2_planTogether 121 = .ok (.aload_n 0, 1) := by decide +kernel
theorem dX2_planTogether_122 : decode cX2_planTogether 122 = .ok (.getfield 24, 3) := by decide +kernel
theorem dX2_planTogether_125 : decode cX2_planTogether 125 = .ok (.getfield 114, 3) := by decide +kernel
theorem dX2_planTogether_128 : decode cX2_planTogether 128 = .ok (.if_icmp .ge 72, 3) := by decide +kernel
theorem dX2_planTogether_131 : decode cX2_planTogether 131 = .ok (.aload_n 0, 1) := by decide +kernel
theorem dX2_planTogether_132 : decode cX2_planTogether 132 = .ok (.getfield 24, 3) := by decide +kernel
theorem dX2_planTogether_135 : decode cX2_planTogether 135 = .ok (.getfield 126, 3) := by decide +kernel
theorem dX2_planTogether_138 : decode cX2_planTogether 138 = .ok (.iload_n 2, 1) := by decide +kernel
theorem dX2_planTogether_139 : decode cX2_planTogether 139 = .ok (.iaload, 1) := by decide +kernel
theorem dX2_planTogether_140 : decode cX2_planTogether 140 = .ok (.istore_n 3, 1) := by decide +kernel
theorem dX2_planTogether_141 : decode cX2_planTogether 141 = .ok (.iload_n 1, 1) := by decide +kernel
theorem dX2_planTogether_142 : decode cX2_planTogether 142 = .ok (.ifCond .eq 25, 3) := by decide +kernel
theorem dX2_planTogether_145 : decode cX2_planTogether 145 = .ok (.aload_n 0, 1) := by decide +kernel
theorem dX2_planTogether_146 : decode cX2_planTogether 146 = .ok (.getfield 15, 3) := by decide +kernel
theorem dX2_planTogether_149 : decode cX2_planTogether 149 = .ok (.getfield 60, 3) := by decide +kernel
theorem dX2_planTogether_152 : decode cX2_planTogether 152 = .ok (.iload_n 3, 1) := by decide +kernel
theorem dX2_planTogether_153 : decode cX2_planTogether 153 = .ok (.iaload, 1) := by decide +kernel
theorem dX2_planTogether_154 : decode cX2_planTogether 154 = .ok (.aload_n 0, 1) := by decide +kernel
theorem dX2_planTogether_155 : decode cX2_planTogether 155 = .ok (.getfield 24, 3) := by decide +kernel
theorem dX2_planTogether_158 : decode cX2_planTogether 158 = .ok (.getfield 129, 3) := by decide +kernel
theorem dX2_planTogether_161 : decode cX2_planTogether 161 = .ok (.iload_n 2, 1) := by decide +kernel
theorem dX2_planTogether_162 : decode cX2_planTogether 162 = .ok (.iaload, 1) := by decide +kernel
theorem dX2_planTogether_163 : decode cX2_planTogether 163 = .ok (.iadd, 1) := by decide +kernel
theorem dX2_planTogether_164 : decode cX2_planTogether 164 = .ok (.goto 12, 3) := by decide +kernel
theorem dX2_planTogether_167 : decode cX2_planTogether 167 = .ok (.aload_n 0, 1) := by decide +kernel
theorem dX2_planTogether_168 : decode cX2_planTogether 168 = .ok (.getfield 24, 3) := by decide +kernel
theorem dX2_planTogether_171 : decode cX2_planTogether 171 = .ok (.getfield 132, 3) := by decide +kernel
theorem dX2_planTogether_174 : decode cX2_planTogether 174 = .ok (.iload_n 2, 1) := by decide +kernel
theorem dX2_planTogether_175 : decode cX2_planTogether 175 = .ok (.iaload, 1) := by decide +kernel
theorem dX2_planTogether_176 : decode cX2_planTogether 176 = .ok (.istore 4, 2) := by decide +kernel
theorem dX2_planTogether_178 : decode cX2_planTogether 178 = .ok (.iload 4, 2) := by decide +kernel
theorem dX2_planTogether_180 : decode cX2_planTogether 180 = .ok (.iconst (-1), 1) := by decide +kernel
theorem dX2_planTogether_181 : decode cX2_planTogether 181 = .ok (.if_icmp .eq 13, 3) := by decide +kernel
theorem dX2_planTogether_184 : decode cX2_planTogether 184 = .ok (.aload_n 0, 1) := by decide +kernel
theorem dX2_planTogether_185 : decode cX2_planTogether 185 = .ok (.getfield 15, 3) := by decide +kernel
theorem dX2_planTogether_188 : decode cX2_planTogether 188 = .ok (.iload_n 3, 1) := by decide +kernel
theorem dX2_planTogether_189 : decode cX2_planTogether 189 = .ok (.iload 4, 2) := by decide +kernel
theorem dX2_planTogether_191 : decode cX2_planTogether 191 = .ok (.invokevirtual 53, 3) := by decide +kernel
theorem dX2_planTogether_194 : decode cX2_planTogether 194 = .ok (.iinc 2 1, 3) := by decide +kernel
theorem dX2_planTogether_197 : decode cX2_planTogether 197 = .ok (.goto (-77), 3) := by decide +kernel
theorem dX2_planTogether_200 : decode cX2_planTogether 200 = .ok (.iload_n 1, 1) := by decide +kernel
theorem dX2_planTogether_201 : decode cX2_planTogether 201 = .ok (.ireturn, 1) := by decide +kernel
theorem dX2_offerHours_0 : decode cX2_offerHours 0 = .ok (.aload_n 0, 1) := by decide +kernel
theorem dX2_offerHours_1 : decode cX2_offerHours 1 = .ok (.getfield 24, 3) := by decide +kernel
theorem dX2_offerHours_4 : decode cX2_offerHours 4 = .ok (.getfield 126, 3) := by decide +kernel
theorem dX2_offerHours_7 : decode cX2_offerHours 7 = .ok (.iload_n 1, 1) := by decide +kernel
theorem dX2_offerHours_8 : decode cX2_offerHours 8 = .ok (.iaload, 1) := by decide +kernel
theorem dX2_offerHours_9 : decode cX2_offerHours 9 = .ok (.istore_n 2, 1) := by decide +kernel
theorem dX2_offerHours_10 : decode cX2_offerHours 10 = .ok (.aload_n 0, 1) := by decide +kernel
theorem dX2_offerHours_11 : decode cX2_offerHours 11 = .ok (.getfield 15, 3) := by decide +kernel
theorem dX2_offerHours_14 : decode cX2_offerHours 14 = .ok (.getfield 60, 3) := by decide +kernel
theorem dX2_offerHours_17 : decode cX2_offerHours 17 = .ok (.iload_n 2, 1) := by decide +kernel
theorem dX2_offerHours_18 : decode cX2_offerHours 18 = .ok (.iaload, 1) := by decide +kernel
theorem dX2_offerHours_19 : decode cX2_offerHours 19 = .ok (.istore_n 3, 1) := by decide +kernel
theorem dX2_offerHours_20 : decode cX2_offerHours 20 = .ok (.iload_n 3, 1) := by decide +kernel
theorem dX2_offerHours_21 : decode cX2_offerHours 21 = .ok (.aload_n 0, 1) := by decide +kernel
theorem dX2_offerHours_22 : decode cX2_offerHours 22 = .ok (.getfield 15, 3) := by decide +kernel
theorem dX2_offerHours_25 : decode cX2_offerHours 25 = .ok (.getfield 63, 3) := by decide +kernel
theorem dX2_offerHours_28 : decode cX2_offerHours 28 = .ok (.iload_n 2, 1) := by decide +kernel
theorem dX2_offerHours_29 : decode cX2_offerHours 29 = .ok (.iaload, 1) := by decide +kernel
theorem dX2_offerHours_30 : decode cX2_offerHours 30 = .ok (.if_icmp .gt 53, 3) := by decide +kernel
theorem dX2_offerHours_33 : decode cX2_offerHours 33 = .ok (.aload_n 0, 1) := by decide +kernel
theorem dX2_offerHours_34 : decode cX2_offerHours 34 = .ok (.iload_n 2, 1) := by decide +kernel
theorem dX2_offerHours_35 : decode cX2_offerHours 35 = .ok (.iload_n 3, 1) := by decide +kernel
theorem dX2_offerHours_36 : decode cX2_offerHours 36 = .ok (.invokevirtual 49, 3) := by decide +kernel
theorem dX2_offerHours_39 : decode cX2_offerHours 39 = .ok (.ifCond .eq 38, 3) := by decide +kernel
theorem dX2_offerHours_42 : decode cX2_offerHours 42 = .ok (.aload_n 0, 1) := by decide +kernel
theorem dX2_offerHours_43 : decode cX2_offerHours 43 = .ok (.getfield 24, 3) := by decide +kernel
theorem dX2_offerHours_46 : decode cX2_offerHours 46 = .ok (.iload_n 1, 1) := by decide +kernel
theorem dX2_offerHours_47 : decode cX2_offerHours 47 = .ok (.iload_n 3, 1) := by decide +kernel
theorem dX2_offerHours_48 : decode cX2_offerHours 48 = .ok (.aload_n 0, 1) := by decide +kernel
theorem dX2_offerHours_49 : decode cX2_offerHours 49 = .ok (.getfield 15, 3) := by decide +kernel
theorem dX2_offerHours_52 : decode cX2_offerHours 52 = .ok (.getfield 60, 3) := by decide +kernel
theorem dX2_offerHours_55 : decode cX2_offerHours 55 = .ok (.iload_n 2, 1) := by decide +kernel
theorem dX2_offerHours_56 : decode cX2_offerHours 56 = .ok (.iaload, 1) := by decide +kernel
theorem dX2_offerHours_57 : decode cX2_offerHours 57 = .ok (.isub, 1) := by decide +kernel
theorem dX2_offerHours_58 : decode cX2_offerHours 58 = .ok (.aload_n 0, 1) := by decide +kernel
theorem dX2_offerHours_59 : decode cX2_offerHours 59 = .ok (.getfield 15, 3) := by decide +kernel
theorem dX2_offerHours_62 : decode cX2_offerHours 62 = .ok (.iload_n 2, 1) := by decide +kernel
theorem dX2_offerHours_63 : decode cX2_offerHours 63 = .ok (.iload_n 3, 1) := by decide +kernel
theorem dX2_offerHours_64 : decode cX2_offerHours 64 = .ok (.aload_n 0, 1) := by decide +kernel
theorem dX2_offerHours_65 : decode cX2_offerHours 65 = .ok (.getfield 9, 3) := by decide +kernel
theorem dX2_offerHours_68 : decode cX2_offerHours 68 = .ok (.getfield 72, 3) := by decide +kernel
theorem dX2_offerHours_71 : decode cX2_offerHours 71 = .ok (.invokevirtual 104, 3) := by decide +kernel
theorem dX2_offerHours_74 : decode cX2_offerHours 74 = .ok (.invokevirtual 135, 3) := by decide +kernel
theorem dX2_offerHours_77 : decode cX2_offerHours 77 = .ok (.iinc 3 1, 3) := by decide +kernel
theorem dX2_offerHours_80 : decode cX2_offerHours 80 = .ok (.goto (-60), 3) := by decide +kernel
theorem dX2_offerHours_83 : decode cX2_offerHours 83 = .ok (.return_, 1) := by decide +kernel
theorem dX3_init_0 : decode cX3_init 0 = .ok (.aload_n 0, 1) := by decide +kernel
theorem dX3_init_1 : decode cX3_init 1 = .ok (.invokespecial 3, 3) := by decide +kernel
theorem dX3_init_4 : decode cX3_init 4 = .ok (.aload_n 0, 1) := by decide +kernel
theorem dX3_init_5 : decode cX3_init 5 = .ok (.sipush 400, 3) := by decide +kernel
theorem dX3_init_8 : decode cX3_init 8 = .ok (.newarray .int, 2) := by decide +kernel
theorem dX3_init_10 : decode cX3_init 10 = .ok (.putfield 9, 3) := by decide +kernel
theorem dX3_init_13 : decode cX3_init 13 = .ok (.aload_n 0, 1) := by decide +kernel
theorem dX3_init_14 : decode cX3_init 14 = .ok (.sipush 400, 3) := by decide +kernel
theorem dX3_init_17 : decode cX3_init 17 = .ok (.newarray .int, 2) := by decide +kernel
theorem dX3_init_19 : decode cX3_init 19 = .ok (.putfield 15, 3) := by decide +kernel
theorem dX3_init_22 : decode cX3_init 22 = .ok (.aload_n 0, 1) := by decide +kernel
theorem dX3_init_23 : decode cX3_init 23 = .ok (.sipush 400, 3) := by decide +kernel
theorem dX3_init_26 : decode cX3_init 26 = .ok (.newarray .int, 2) := by decide +kernel
theorem dX3_init_28 : decode cX3_init 28 = .ok (.putfield 18, 3) := by decide +kernel
theorem dX3_init_31 : decode cX3_init 31 = .ok (.aload_n 0, 1) := by decide +kernel
theorem dX3_init_32 : decode cX3_init 32 = .ok (.sipush 168, 3) := by decide +kernel
theorem dX3_init_35 : decode cX3_init 35 = .ok (.newarray .int, 2) := by decide +kernel
theorem dX3_init_37 : decode cX3_init 37 = .ok (.putfield 21, 3) := by decide +kernel
theorem dX3_init_40 : decode cX3_init 40 = .ok (.aload_n 0, 1) := by decide +kernel
theorem dX3_init_41 : decode cX3_init 41 = .ok (.sipush 168, 3) := by decide +kernel
theorem dX3_init_44 : decode cX3_init 44 = .ok (.newarray .int, 2) := by decide +kernel
theorem dX3_init_46 : decode cX3_init 46 = .ok (.putfield 24, 3) := by decide +kernel
theorem dX3_init_49 : decode cX3_init 49 = .ok (.aload_n 0, 1) := by decide +kernel
theorem dX3_init_50 : decode cX3_init 50 = .ok (.iconst 0, 1) := by decide +kernel
theorem dX3_init_51 : decode cX3_init 51 = .ok (.putfield 27, 3) := by decide +kernel
theorem dX3_init_54 : decode cX3_init 54 = .ok (.aload_n 0, 1) := by decide +kernel
theorem dX3_init_55 : decode cX3_init 55 = .ok (.bipush 100, 2) := by decide +kernel
theorem dX3_init_57 : decode cX3_init 57 = .ok (.putfield 31, 3) := by decide +kernel
theorem dX3_init_60 : decode cX3_init 60 = .ok (.aload_n 0, 1) := by decide +kernel
theorem dX3_init_61 : decode cX3_init 61 = .ok (.getfield 21, 3) := by decide +kernel
theorem dX3_init_64 : decode cX3_init 64 = .ok (.bipush 100, 2) := by decide +kernel
theorem dX3_init_66 : decode cX3_init 66 = .ok (.invokestatic 34, 3) := by decide +kernel
theorem dX3_init_69 : decode cX3_init 69 = .ok (.return_, 1) := by decide +kernel
theorem dX3_tell_0 : decode cX3_tell 0 = .ok (.aload_n 0, 1) := by decide +kernel
theorem dX3_tell_1 : decode cX3_tell 1 = .ok (.getfield 9, 3) := by decide +kernel
theorem dX3_tell_4 : decode cX3_tell 4 = .ok (.aload_n 0, 1) := by decide +kernel
theorem dX3_tell_5 : decode cX3_tell 5 = .ok (.getfield 27, 3) := by decide +kernel
theorem dX3_tell_8 : decode cX3_tell 8 = .ok (.iload_n 1, 1) := by decide +kernel
theorem dX3_tell_9 : decode cX3_tell 9 = .ok (.iastore, 1) := by decide +kernel
theorem dX3_tell_10 : decode cX3_tell 10 = .ok (.aload_n 0, 1) := by decide +kernel
theorem dX3_tell_11 : decode cX3_tell 11 = .ok (.getfield 15, 3) := by decide +kernel
theorem dX3_tell_14 : decode cX3_tell 14 = .ok (.aload_n 0, 1) := by decide +kernel
theorem dX3_tell_15 : decode cX3_tell 15 = .ok (.getfield 27, 3) := by decide +kernel
theorem dX3_tell_18 : decode cX3_tell 18 = .ok (.iload_n 2, 1) := by decide +kernel
theorem dX3_tell_19 : decode cX3_tell 19 = .ok (.iastore, 1) := by decide +kernel
theorem dX3_tell_20 : decode cX3_tell 20 = .ok (.aload_n 0, 1) := by decide +kernel
theorem dX3_tell_21 : decode cX3_tell 21 = .ok (.getfield 18, 3) := by decide +kernel
theorem dX3_tell_24 : decode cX3_tell 24 = .ok (.aload_n 0, 1) := by decide +kernel
theorem dX3_tell_25 : decode cX3_tell 25 = .ok (.getfield 27, 3) := by decide +kernel
theorem dX3_tell_28 : decode cX3_tell 28 = .ok (.iload_n 3, 1) := by decide +kernel
theorem dX3_tell_29 : decode cX3_tell 29 = .ok (.iastore, 1) := by decide +kernel
theorem dX3_tell_30 : decode cX3_tell 30 = .ok (.aload_n 0, 1) := by decide +kernel
theorem dX3_tell_31 : decode cX3_tell 31 = .ok (.dup, 1) := by decide +kernel
theorem dX3_tell_32 : decode cX3_tell 32 = .ok (.getfield 27, 3) := by decide +kernel
theorem dX3_tell_35 : decode cX3_tell 35 = .ok (.iconst 1, 1) := by decide +kernel
theorem dX3_tell_36 : decode cX3_tell 36 = .ok (.iadd, 1) := by decide +kernel
theorem dX3_tell_37 : decode cX3_tell 37 = .ok (.putfield 27, 3) := by decide +kernel
theorem dX3_tell_40 : decode cX3_tell 40 = .ok (.return_, 1) := by decide +kernel
theorem dX3_asKnown_0 : decode cX3_asKnown 0 = .ok (.aload_n 0, 1) := by decide +kernel
theorem dX3_asKnown_1 : decode cX3_asKnown 1 = .ok (.getfield 27, 3) := by decide +kernel
theorem dX3_asKnown_4 : decode cX3_asKnown 4 = .ok (.iconst 1, 1) := by decide +kernel
theorem dX3_asKnown_5 : decode cX3_asKnown 5 = .ok (.isub, 1) := by decide +kernel
theorem dX3_asKnown_6 : decode cX3_asKnown 6 = .ok (.istore_n 3, 1) := by decide +kernel
theorem dX3_asKnown_7 : decode cX3_asKnown 7 = .ok (.iload_n 3, 1) := by decide +kernel
theorem dX3_asKnown_8 : decode cX3_asKnown 8 = .ok (.ifCond .lt 36, 3) := by decide +kernel
theorem dX3_asKnown_11 : decode cX3_asKnown 11 = .ok (.aload_n 0, 1) := by decide +kernel
theorem dX3_asKnown_12 : decode cX3_asKnown 12 = .ok (.getfield 9, 3) := by decide +kernel
theorem dX3_asKnown_15 : decode cX3_asKnown 15 = .ok (.iload_n 3, 1) := by decide +kernel
theorem dX3_asKnown_16 : decode cX3_asKnown 16 = .ok (.iaload, 1) := by decide +kernel
theorem dX3_asKnown_17 : decode cX3_asKnown 17 = .ok (.iload_n 1, 1) := by decide +kernel
theorem dX3_asKnown_18 : decode cX3_asKnown 18 = .ok (.if_icmp .ne 20, 3) := by decide +kernel
theorem dX3_asKnown_21 : decode cX3_asKnown 21 = .ok (.aload_n 0, 1) := by decide +kernel
theorem dX3_asKnown_22 : decode cX3_asKnown 22 = .ok (.getfield 18, 3) := by decide +kernel
theorem dX3_asKnown_25 : decode cX3_asKnown 25 = .ok (.iload_n 3, 1) := by decide +kernel
theorem dX3_asKnown_26 : decode cX3_asKnown 26 = .ok (.iaload, 1) := by decide +kernel
theorem dX3_asKnown_27 : decode cX3_asKnown 27 = .ok (.iload_n 2, 1) := by decide +kernel
theorem dX3_asKnown_28 : decode cX3_asKnown 28 = .ok (.if_icmp .gt 10, 3) := by decide +kernel
theorem dX3_asKnown_31 : decode cX3_asKnown 31 = .ok (.aload_n 0, 1) := by decide +kernel
theorem dX3_asKnown_32 : decode cX3_asKnown 32 = .ok (.getfield 15, 3) := by decide +kernel
theorem dX3_asKnown_35 : decode cX3_asKnown 35 = .ok (.iload_n 3, 1) := by decide +kernel
theorem dX3_asKnown_36 : decode cX3_asKnown 36 = .ok (.iaload, 1) := by decide +kernel
theorem dX3_asKnown_37 : decode cX3_asKnown 37 = .ok (.ireturn, 1) := by decide +kernel
theorem dX3_asKnown_38 : decode cX3_asKnown 38 = .ok (.iinc 3 (-1), 3) := by decide +kernel
theorem dX3_asKnown_41 : decode cX3_asKnown 41 = .ok (.goto (-34), 3) := by decide +kernel
theorem dX3_asKnown_44 : decode cX3_asKnown 44 = .ok (.aload_n 0, 1) := by decide +kernel
theorem dX3_asKnown_45 : decode cX3_asKnown 45 = .ok (.getfield 31, 3) := by decide +kernel
theorem dX3_asKnown_48 : decode cX3_asKnown 48 = .ok (.ireturn, 1) := by decide +kernel
theorem dX3_lay_0 : decode cX3_lay 0 = .ok (.aload_n 1, 1) := by decide +kernel
theorem dX3_lay_1 : decode cX3_lay 1 = .ok (.aload_n 0, 1) := by decide +kernel
theorem dX3_lay_2 : decode cX3_lay 2 = .ok (.getfield 31, 3) := by decide +kernel
theorem dX3_lay_5 : decode cX3_lay 5 = .ok (.invokestatic 34, 3) := by decide +kernel
theorem dX3_lay_8 : decode cX3_lay 8 = .ok (.iconst 0, 1) := by decide +kernel
theorem dX3_lay_9 : decode cX3_lay 9 = .ok (.istore_n 3, 1) := by decide +kernel
theorem dX3_lay_10 : decode cX3_lay 10 = .ok (.iload_n 3, 1) := by decide +kernel
theorem dX3_lay_11 : decode cX3_lay 11 = .ok (.aload_n 0, 1) := by decide +kernel
theorem dX3_lay_12 : decode cX3_lay 12 = .ok (.getfield 27, 3) := by decide +kernel
theorem dX3_lay_15 : decode cX3_lay 15 = .ok (.if_icmp .ge 33, 3) := by decide +kernel
theorem dX3_lay_18 : decode cX3_lay 18 = .ok (.aload_n 0, 1) := by decide +kernel
theorem dX3_lay_19 : decode cX3_lay 19 = .ok (.getfield 18, 3) := by decide +kernel
theorem dX3_lay_22 : decode cX3_lay 22 = .ok (.iload_n 3, 1) := by decide +kernel
theorem dX3_lay_23 : decode cX3_lay 23 = .ok (.iaload, 1) := by decide +kernel
theorem dX3_lay_24 : decode cX3_lay 24 = .ok (.iload_n 2, 1) := by decide +kernel
theorem dX3_lay_25 : decode cX3_lay 25 = .ok (.if_icmp .gt 17, 3) := by decide +kernel
theorem dX3_lay_28 : decode cX3_lay 28 = .ok (.aload_n 1, 1) := by decide +kernel
theorem dX3_lay_29 : decode cX3_lay 29 = .ok (.aload_n 0, 1) := by decide +kernel
theorem dX3_lay_30 : decode cX3_lay 30 = .ok (.getfield 9, 3) := by decide +kernel
theorem dX3_lay_33 : decode cX3_lay 33 = .ok (.iload_n 3, 1) := by decide +kernel
theorem dX3_lay_34 : decode cX3_lay 34 = .ok (.iaload, 1) := by decide +kernel
theorem dX3_lay_35 : decode cX3_lay 35 = .ok (.aload_n 0, 1) := by decide +kernel
theorem dX3_lay_36 : decode cX3_lay 36 = .ok (.getfield 15, 3) := by decide +kernel
theorem dX3_lay_39 : decode cX3_lay 39 = .ok (.iload_n 3, 1) := by decide +kernel
theorem dX3_lay_40 : decode cX3_lay 40 = .ok (.iaload, 1) := by decide +kernel
theorem dX3_lay_41 : decode cX3_lay 41 = .ok (.iastore, 1) := by decide +kernel
theorem dX3_lay_42 : decode cX3_lay 42 = .ok (.iinc 3 1, 3) := by decide +kernel
theorem dX3_lay_45 : decode cX3_lay 45 = .ok (.goto (-35), 3) := by decide +kernel
theorem dX3_lay_48 : decode cX3_lay 48 = .ok (.return_, 1) := by decide +kernel
theorem dX4_init_0 : decode cX4_init 0 = .ok (.aload_n 0, 1) := by decide +kernel
theorem dX4_init_1 : decode cX4_init 1 = .ok (.invokespecial 3, 3) := by decide +kernel
theorem dX4_init_4 : decode cX4_init 4 = .ok (.aload_n 0, 1) := by decide +kernel
theorem dX4_init_5 : decode cX4_init 5 = .ok (.sipush 300, 3) := by decide +kernel
theorem dX4_init_8 : decode cX4_init 8 = .ok (.newarray .int, 2) := by decide +kernel
theorem dX4_init_10 : decode cX4_init 10 = .ok (.putfield 9, 3) := by decide +kernel
theorem dX4_init_13 : decode cX4_init 13 = .ok (.aload_n 0, 1) := by decide +kernel
theorem dX4_init_14 : decode cX4_init 14 = .ok (.iconst 0, 1) := by decide +kernel
theorem dX4_init_15 : decode cX4_init 15 = .ok (.putfield 15, 3) := by decide +kernel
theorem dX4_init_18 : decode cX4_init 18 = .ok (.aload_n 0, 1) := by decide +kernel
theorem dX4_init_19 : decode cX4_init 19 = .ok (.iconst 0, 1) := by decide +kernel
theorem dX4_init_20 : decode cX4_init 20 = .ok (.putfield 19, 3) := by decide +kernel
theorem dX4_init_23 : decode cX4_init 23 = .ok (.aload_n 0, 1) := by decide +kernel
theorem dX4_init_24 : decode cX4_init 24 = .ok (.iconst 0, 1) := by decide +kernel
theorem dX4_init_25 : decode cX4_init 25 = .ok (.putfield 22, 3) := by decide +kernel
theorem dX4_init_28 : decode cX4_init 28 = .ok (.return_, 1) := by decide +kernel
theorem dX4_append_0 : decode cX4_append 0 = .ok (.bipush 24, 2) := by decide +kernel
theorem dX4_append_2 : decode cX4_append 2 = .ok (.istore_n 2, 1) := by decide +kernel
theorem dX4_append_3 : decode cX4_append 3 = .ok (.iload_n 2, 1) := by decide +kernel
theorem dX4_append_4 : decode cX4_append 4 = .ok (.ifCond .lt 45, 3) := by decide +kernel
theorem dX4_append_7 : decode cX4_append 7 = .ok (.aload_n 0, 1) := by decide +kernel
theorem dX4_append_8 : decode cX4_append 8 = .ok (.getfield 15, 3) := by decide +kernel
theorem dX4_append_11 : decode cX4_append 11 = .ok (.sipush 300, 3) := by decide +kernel
theorem dX4_append_14 : decode cX4_append 14 = .ok (.if_icmp .ge 35, 3) := by decide +kernel
theorem dX4_append_17 : decode cX4_append 17 = .ok (.aload_n 0, 1) := by decide +kernel
theorem dX4_append_18 : decode cX4_append 18 = .ok (.getfield 9, 3) := by decide +kernel
theorem dX4_append_21 : decode cX4_append 21 = .ok (.aload_n 0, 1) := by decide +kernel
theorem dX4_append_22 : decode cX4_append 22 = .ok (.getfield 15, 3) := by decide +kernel
theorem dX4_append_25 : decode cX4_append 25 = .ok (.iload_n 1, 1) := by decide +kernel
theorem dX4_append_26 : decode cX4_append 26 = .ok (.iload_n 2, 1) := by decide +kernel
theorem dX4_append_27 : decode cX4_append 27 = .ok (.ishr, 1) := by decide +kernel
theorem dX4_append_28 : decode cX4_append 28 = .ok (.sipush 255, 3) := by decide +kernel
theorem dX4_append_31 : decode cX4_append 31 = .ok (.iand, 1) := by decide +kernel
theorem dX4_append_32 : decode cX4_append 32 = .ok (.iastore, 1) := by decide +kernel
theorem dX4_append_33 : decode cX4_append 33 = .ok (.aload_n 0, 1) := by decide +kernel
theorem dX4_append_34 : decode cX4_append 34 = .ok (.dup, 1) := by decide +kernel
theorem dX4_append_35 : decode cX4_append 35 = .ok (.getfield 15, 3) := by decide +kernel
theorem dX4_append_38 : decode cX4_append 38 = .ok (.iconst 1, 1) := by decide +kernel
theorem dX4_append_39 : decode cX4_append 39 = .ok (.iadd, 1) := by decide +kernel
theorem dX4_append_40 : decode cX4_append 40 = .ok (.putfield 15, 3) := by decide +kernel
theorem dX4_append_43 : decode cX4_append 43 = .ok (.iinc 2 (-8), 3) := by decide +kernel
theorem dX4_append_46 : decode cX4_append 46 = .ok (.goto (-43), 3) := by decide +kernel
theorem dX4_append_49 : decode cX4_append 49 = .ok (.return_, 1) := by decide +kernel
theorem dX4_read_0 : decode cX4_read 0 = .ok (.aload_n 1, 1) := by decide +kernel
theorem dX4_read_1 : decode cX4_read 1 = .ok (.invokevirtual 25, 3) := by decide +kernel
theorem dX4_read_4 : decode cX4_read 4 = .ok (.aload_n 0, 1) := by decide +kernel
theorem dX4_read_5 : decode cX4_read 5 = .ok (.iconst 0, 1) := by decide +kernel
theorem dX4_read_6 : decode cX4_read 6 = .ok (.putfield 22, 3) := by decide +kernel
theorem dX4_read_9 : decode cX4_read 9 = .ok (.aload_n 0, 1) := by decide +kernel
theorem dX4_read_10 : decode cX4_read 10 = .ok (.invokevirtual 30, 3) := by decide +kernel
theorem dX4_read_13 : decode cX4_read 13 = .ok (.aload_n 0, 1) := by decide +kernel
theorem dX4_read_14 : decode cX4_read 14 = .ok (.getfield 19, 3) := by decide +kernel
theorem dX4_read_17 : decode cX4_read 17 = .ok (.aload_n 0, 1) := by decide +kernel
theorem dX4_read_18 : decode cX4_read 18 = .ok (.getfield 15, 3) := by decide +kernel
theorem dX4_read_21 : decode cX4_read 21 = .ok (.if_icmp .lt 5, 3) := by decide +kernel
theorem dX4_read_24 : decode cX4_read 24 = .ok (.iconst 1, 1) := by decide +kernel
theorem dX4_read_25 : decode cX4_read 25 = .ok (.ireturn, 1) := by decide +kernel
theorem dX4_read_26 : decode cX4_read 26 = .ok (.iconst 0, 1) := by decide +kernel
theorem dX4_read_27 : decode cX4_read 27 = .ok (.istore_n 2, 1) := by decide +kernel
theorem dX4_read_28 : decode cX4_read 28 = .ok (.iload_n 2, 1) := by decide +kernel
theorem dX4_read_29 : decode cX4_read 29 = .ok (.bipush 20, 2) := by decide +kernel
theorem dX4_read_31 : decode cX4_read 31 = .ok (.if_icmp .ge 53, 3) := by decide +kernel
theorem dX4_read_34 : decode cX4_read 34 = .ok (.aload_n 0, 1) := by decide +kernel
theorem dX4_read_35 : decode cX4_read 35 = .ok (.aload_n 1, 1) := by decide +kernel
theorem dX4_read_36 : decode cX4_read 36 = .ok (.invokevirtual 33, 3) := by decide +kernel
theorem dX4_read_39 : decode cX4_read 39 = .ok (.ifCond .ne 5, 3) := by decide +kernel
theorem dX4_read_42 : decode cX4_read 42 = .ok (.iconst 0, 1) := by decide +kernel
theorem dX4_read_43 : decode cX4_read 43 = .ok (.ireturn, 1) := by decide +kernel
theorem dX4_read_44 : decode cX4_read 44 = .ok (.aload_n 1, 1) := by decide +kernel
theorem dX4_read_45 : decode cX4_read 45 = .ok (.dup, 1) := by decide +kernel
theorem dX4_read_46 : decode cX4_read 46 = .ok (.getfield 37, 3) := by decide +kernel
theorem dX4_read_49 : decode cX4_read 49 = .ok (.iconst 1, 1) := by decide +kernel
theorem dX4_read_50 : decode cX4_read 50 = .ok (.iadd, 1) := by decide +kernel
theorem dX4_read_51 : decode cX4_read 51 = .ok (.putfield 37, 3) := by decide +kernel
theorem dX4_read_54 : decode cX4_read 54 = .ok (.aload_n 0, 1) := by decide +kernel
theorem dX4_read_55 : decode cX4_read 55 = .ok (.getfield 19, 3) := by decide +kernel
theorem dX4_read_58 : decode cX4_read 58 = .ok (.aload_n 0, 1) := by decide +kernel
theorem dX4_read_59 : decode cX4_read 59 = .ok (.getfield 15, 3) := by decide +kernel
theorem dX4_read_62 : decode cX4_read 62 = .ok (.if_icmp .lt 5, 3) := by decide +kernel
theorem dX4_read_65 : decode cX4_read 65 = .ok (.iconst 1, 1) := by decide +kernel
theorem dX4_read_66 : decode cX4_read 66 = .ok (.ireturn, 1) := by decide +kernel
theorem dX4_read_67 : decode cX4_read 67 = .ok (.aload_n 0, 1) := by decide +kernel
theorem dX4_read_68 : decode cX4_read 68 = .ok (.ldc 40, 2) := by decide +kernel
theorem dX4_read_70 : decode cX4_read 70 = .ok (.invokevirtual 42, 3) := by decide +kernel
theorem dX4_read_73 : decode cX4_read 73 = .ok (.ifCond .ne 5, 3) := by decide +kernel
theorem dX4_read_76 : decode cX4_read 76 = .ok (.iconst 0, 1) := by decide +kernel
theorem dX4_read_77 : decode cX4_read 77 = .ok (.ireturn, 1) := by decide +kernel
theorem dX4_read_78 : decode cX4_read 78 = .ok (.iinc 2 1, 3) := by decide +kernel
theorem dX4_read_81 : decode cX4_read 81 = .ok (.goto (-53), 3) := by decide +kernel
theorem dX4_read_84 : decode cX4_read 84 = .ok (.iconst 0, 1) := by decide +kernel
theorem dX4_read_85 : decode cX4_read 85 = .ok (.ireturn, 1) := by decide +kernel
theorem dX4_readRule_0 : decode cX4_readRule 0 = .ok (.aload_n 0, 1) := by decide +kernel
theorem dX4_readRule_1 : decode cX4_readRule 1 = .ok (.ldc 46, 2) := by decide +kernel
theorem dX4_readRule_3 : decode cX4_readRule 3 = .ok (.invokevirtual 42, 3) := by decide +kernel
theorem dX4_readRule_6 : decode cX4_readRule 6 = .ok (.ifCond .eq 9, 3) := by decide +kernel
theorem dX4_readRule_9 : decode cX4_readRule 9 = .ok (.aload_n 0, 1) := by decide +kernel
theorem dX4_readRule_10 : decode cX4_readRule 10 = .ok (.aload_n 1, 1) := by decide +kernel
theorem dX4_readRule_11 : decode cX4_readRule 11 = .ok (.invokevirtual 48, 3) := by decide +kernel
theorem dX4_readRule_14 : decode cX4_readRule 14 = .ok (.ireturn, 1) := by decide +kernel
theorem dX4_readRule_15 : decode cX4_readRule 15 = .ok (.aload_n 0, 1) := by decide +kernel
theorem dX4_readRule_16 : decode cX4_readRule 16 = .ok (.ldc 51, 2) := by decide +kernel
theorem dX4_readRule_18 : decode cX4_readRule 18 = .ok (.invokevirtual 42, 3) := by decide +kernel
theorem dX4_readRule_21 : decode cX4_readRule 21 = .ok (.ifCond .eq 9, 3) := by decide +kernel
theorem dX4_readRule_24 : decode cX4_readRule 24 = .ok (.aload_n 0, 1) := by decide +kernel
theorem dX4_readRule_25 : decode cX4_readRule 25 = .ok (.aload_n 1, 1) := by decide +kernel
theorem dX4_readRule_26 : decode cX4_readRule 26 = .ok (.invokevirtual 53, 3) := by decide +kernel
theorem dX4_readRule_29 : decode cX4_readRule 29 = .ok (.ireturn, 1) := by decide +kernel
theorem dX4_readRule_30 : decode cX4_readRule 30 = .ok (.aload_n 0, 1) := by decide +kernel
theorem dX4_readRule_31 : decode cX4_readRule 31 = .ok (.ldc 56, 2) := by decide +kernel
theorem dX4_readRule_33 : decode cX4_readRule 33 = .ok (.invokevirtual 42, 3) := by decide +kernel
theorem dX4_readRule_36 : decode cX4_readRule 36 = .ok (.ifCond .eq 15, 3) := by decide +kernel
theorem dX4_readRule_39 : decode cX4_readRule 39 = .ok (.aload_n 0, 1) := by decide +kernel
theorem dX4_readRule_40 : decode cX4_readRule 40 = .ok (.aload_n 1, 1) := by decide +kernel
theorem dX4_readRule_41 : decode cX4_readRule 41 = .ok (.invokevirtual 58, 3) := by decide +kernel
theorem dX4_readRule_44 : decode cX4_readRule 44 = .ok (.ifCond .eq 7, 3) := by decide +kernel
theorem dX4_readRule_47 : decode cX4_readRule 47 = .ok (.iconst 1, 1) := by decide +kernel
theorem dX4_readRule_48 : decode cX4_readRule 48 = .ok (.goto 4, 3) := by decide +kernel
theorem dX4_readRule_51 : decode cX4_readRule 51 = .ok (.iconst 0, 1) := by decide +kernel
theorem dX4_readRule_52 : decode cX4_readRule 52 = .ok (.ireturn, 1) := by decide +kernel
theorem dX4_readQuiet_0 : decode cX4_readQuiet 0 = .ok (.aload_n 0, 1) := by decide +kernel
theorem dX4_readQuiet_1 : decode cX4_readQuiet 1 = .ok (.iconst 3, 1) := by decide +kernel
theorem dX4_readQuiet_2 : decode cX4_readQuiet 2 = .ok (.invokevirtual 61, 3) := by decide +kernel
theorem dX4_readQuiet_5 : decode cX4_readQuiet 5 = .ok (.istore_n 2, 1) := by decide +kernel
theorem dX4_readQuiet_6 : decode cX4_readQuiet 6 = .ok (.iload_n 2, 1) := by decide +kernel
theorem dX4_readQuiet_7 : decode cX4_readQuiet 7 = .ok (.iconst (-1), 1) := by decide +kernel
theorem dX4_readQuiet_8 : decode cX4_readQuiet 8 = .ok (.if_icmp .eq 12, 3) := by decide +kernel
theorem dX4_readQuiet_11 : decode cX4_readQuiet 11 = .ok (.aload_n 0, 1) := by decide +kernel
theorem dX4_readQuiet_12 : decode cX4_readQuiet 12 = .ok (.ldc 65, 2) := by decide +kernel
theorem dX4_readQuiet_14 : decode cX4_readQuiet 14 = .ok (.invokevirtual 42, 3) := by decide +kernel
theorem dX4_readQuiet_17 : decode cX4_readQuiet 17 = .ok (.ifCond .ne 5, 3) := by decide +kernel
theorem dX4_readQuiet_20 : decode cX4_readQuiet 20 = .ok (.iconst 0, 1) := by decide +kernel
theorem dX4_readQuiet_21 : decode cX4_readQuiet 21 = .ok (.ireturn, 1) := by decide +kernel
theorem dX4_readQuiet_22 : decode cX4_readQuiet 22 = .ok (.aload_n 0, 1) := by decide +kernel
theorem dX4_readQuiet_23 : decode cX4_readQuiet 23 = .ok (.bipush 23, 2) := by decide +kernel
theorem dX4_readQuiet_25 : decode cX4_readQuiet 25 = .ok (.invokevirtual 61, 3) := by decide +kernel
theorem dX4_readQuiet_28 : decode cX4_readQuiet 28 = .ok (.istore_n 3, 1) := by decide +kernel
theorem dX4_readQuiet_29 : decode cX4_readQuiet 29 = .ok (.iload_n 3, 1) := by decide +kernel
theorem dX4_readQuiet_30 : decode cX4_readQuiet 30 = .ok (.iconst (-1), 1) := by decide +kernel
theorem dX4_readQuiet_31 : decode cX4_readQuiet 31 = .ok (.if_icmp .eq 12, 3) := by decide +kernel
theorem dX4_readQuiet_34 : decode cX4_readQuiet 34 = .ok (.aload_n 0, 1) := by decide +kernel
theorem dX4_readQuiet_35 : decode cX4_readQuiet 35 = .ok (.ldc 67, 2) := by decide +kernel
theorem dX4_readQuiet_37 : decode cX4_readQuiet 37 = .ok (.invokevirtual 42, 3) := by decide +kernel
theorem dX4_readQuiet_40 : decode cX4_readQuiet 40 = .ok (.ifCond .ne 5, 3) := by decide +kernel
theorem dX4_readQuiet_43 : decode cX4_readQuiet 43 = .ok (.iconst 0, 1) := by decide +kernel
theorem dX4_readQuiet_44 : decode cX4_readQuiet 44 = .ok (.ireturn, 1) := by decide +kernel
theorem dX4_readQuiet_45 : decode cX4_readQuiet 45 = .ok (.aload_n 0, 1) := by decide +kernel
theorem dX4_readQuiet_46 : decode cX4_readQuiet 46 = .ok (.bipush 23, 2) := by decide +kernel
theorem dX4_readQuiet_48 : decode cX4_readQuiet 48 = .ok (.invokevirtual 61, 3) := by decide +kernel
theorem dX4_readQuiet_51 : decode cX4_readQuiet 51 = .ok (.istore 4, 2) := by decide +kernel
theorem dX4_readQuiet_53 : decode cX4_readQuiet 53 = .ok (.iload 4, 2) := by decide +kernel
theorem dX4_readQuiet_55 : decode cX4_readQuiet 55 = .ok (.iconst (-1), 1) := by decide +kernel
theorem dX4_readQuiet_56 : decode cX4_readQuiet 56 = .ok (.if_icmp .ne 5, 3) := by decide +kernel
theorem dX4_readQuiet_59 : decode cX4_readQuiet 59 = .ok (.iconst 0, 1) := by decide +kernel
theorem dX4_readQuiet_60 : decode cX4_readQuiet 60 = .ok (.ireturn, 1) := by decide +kernel
theorem dX4_readQuiet_61 : decode cX4_readQuiet 61 = .ok (.aload_n 1, 1) := by decide +kernel
theorem dX4_readQuiet_62 : decode cX4_readQuiet 62 = .ok (.iload_n 2, 1) := by decide +kernel
theorem dX4_readQuiet_63 : decode cX4_readQuiet 63 = .ok (.iload_n 3, 1) := by decide +kernel
theorem dX4_readQuiet_64 : decode cX4_readQuiet 64 = .ok (.iload 4, 2) := by decide +kernel
theorem dX4_readQuiet_66 : decode cX4_readQuiet 66 = .ok (.invokevirtual 69, 3) := by decide +kernel
theorem dX4_readQuiet_69 : decode cX4_readQuiet 69 = .ok (.iconst 1, 1) := by decide +kernel
theorem dX4_readQuiet_70 : decode cX4_readQuiet 70 = .ok (.ireturn, 1) := by decide +kernel
theorem dX4_readDear_0 : decode cX4_readDear 0 = .ok (.aload_n 0, 1) := by decide +kernel
theorem dX4_readDear_1 : decode cX4_readDear 1 = .ok (.sipush 10000, 3) := by decide +kernel
theorem dX4_readDear_4 : decode cX4_readDear 4 = .ok (.invokevirtual 61, 3) := by decide +kernel
theorem dX4_readDear_7 : decode cX4_readDear 7 = .ok (.istore_n 2, 1) := by decide +kernel
theorem dX4_readDear_8 : decode cX4_readDear 8 = .ok (.iload_n 2, 1) := by decide +kernel
theorem dX4_readDear_9 : decode cX4_readDear 9 = .ok (.iconst (-1), 1) := by decide +kernel
theorem dX4_readDear_10 : decode cX4_readDear 10 = .ok (.if_icmp .ne 5, 3) := by decide +kernel
theorem dX4_readDear_13 : decode cX4_readDear 13 = .ok (.iconst 0, 1) := by decide +kernel
theorem dX4_readDear_14 : decode cX4_readDear 14 = .ok (.ireturn, 1) := by decide +kernel
theorem dX4_readDear_15 : decode cX4_readDear 15 = .ok (.aload_n 1, 1) := by decide +kernel
theorem dX4_readDear_16 : decode cX4_readDear 16 = .ok (.aload_n 1, 1) := by decide +kernel
theorem dX4_readDear_17 : decode cX4_readDear 17 = .ok (.getfield 73, 3) := by decide +kernel
theorem dX4_readDear_20 : decode cX4_readDear 20 = .ok (.iload_n 2, 1) := by decide +kernel
theorem dX4_readDear_21 : decode cX4_readDear 21 = .ok (.invokestatic 75, 3) := by decide +kernel
theorem dX4_readDear_24 : decode cX4_readDear 24 = .ok (.putfield 73, 3) := by decide +kernel
theorem dX4_readDear_27 : decode cX4_readDear 27 = .ok (.iconst 1, 1) := by decide +kernel
theorem dX4_readDear_28 : decode cX4_readDear 28 = .ok (.ireturn, 1) := by decide +kernel
theorem dX4_readBefore_0 : decode cX4_readBefore 0 = .ok (.aload_n 0, 1) := by decide +kernel
theorem dX4_readBefore_1 : decode cX4_readBefore 1 = .ok (.bipush 15, 2) := by decide +kernel
theorem dX4_readBefore_3 : decode cX4_readBefore 3 = .ok (.invokevirtual 61, 3) := by decide +kernel
theorem dX4_readBefore_6 : decode cX4_readBefore 6 = .ok (.istore_n 2, 1) := by decide +kernel
theorem dX4_readBefore_7 : decode cX4_readBefore 7 = .ok (.iload_n 2, 1) := by decide +kernel
theorem dX4_readBefore_8 : decode cX4_readBefore 8 = .ok (.iconst (-1), 1) := by decide +kernel
theorem dX4_readBefore_9 : decode cX4_readBefore 9 = .ok (.if_icmp .eq 20, 3) := by decide +kernel
theorem dX4_readBefore_12 : decode cX4_readBefore 12 = .ok (.aload_n 0, 1) := by decide +kernel
theorem dX4_readBefore_13 : decode cX4_readBefore 13 = .ok (.ldc 81, 2) := by decide +kernel
theorem dX4_readBefore_15 : decode cX4_readBefore 15 = .ok (.invokevirtual 42, 3) := by decide +kernel
theorem dX4_readBefore_18 : decode cX4_readBefore 18 = .ok (.ifCond .eq 11, 3) := by decide +kernel
theorem dX4_readBefore_21 : decode cX4_readBefore 21 = .ok (.aload_n 0, 1) := by decide +kernel
theorem dX4_readBefore_22 : decode cX4_readBefore 22 = .ok (.invokevirtual 83, 3) := by decide +kernel
theorem dX4_readBefore_25 : decode cX4_readBefore 25 = .ok (.iload_n 2, 1) := by decide +kernel
theorem dX4_readBefore_26 : decode cX4_readBefore 26 = .ok (.if_icmp .ne 5, 3) := by decide +kernel
theorem dX4_readBefore_29 : decode cX4_readBefore 29 = .ok (.iconst 0, 1) := by decide +kernel
theorem dX4_readBefore_30 : decode cX4_readBefore 30 = .ok (.ireturn, 1) := by decide +kernel
theorem dX4_readBefore_31 : decode cX4_readBefore 31 = .ok (.aload_n 0, 1) := by decide +kernel
theorem dX4_readBefore_32 : decode cX4_readBefore 32 = .ok (.bipush 15, 2) := by decide +kernel
theorem dX4_readBefore_34 : decode cX4_readBefore 34 = .ok (.invokevirtual 61, 3) := by decide +kernel
theorem dX4_readBefore_37 : decode cX4_readBefore 37 = .ok (.istore_n 3, 1) := by decide +kernel
theorem dX4_readBefore_38 : decode cX4_readBefore 38 = .ok (.iload_n 3, 1) := by decide +kernel
theorem dX4_readBefore_39 : decode cX4_readBefore 39 = .ok (.iconst (-1), 1) := by decide +kernel
theorem dX4_readBefore_40 : decode cX4_readBefore 40 = .ok (.if_icmp .ne 5, 3) := by decide +kernel
theorem dX4_readBefore_43 : decode cX4_readBefore 43 = .ok (.iconst 0, 1) := by decide +kernel
theorem dX4_readBefore_44 : decode cX4_readBefore 44 = .ok (.ireturn, 1) := by decide +kernel
theorem dX4_readBefore_45 : decode cX4_readBefore 45 = .ok (.aload_n 1, 1) := by decide +kernel
theorem dX4_readBefore_46 : decode cX4_readBefore 46 = .ok (.getfield 87, 3) := by decide +kernel
theorem dX4_readBefore_49 : decode cX4_readBefore 49 = .ok (.iload_n 2, 1) := by decide +kernel
theorem dX4_readBefore_50 : decode cX4_readBefore 50 = .ok (.dup2, 1) := by decide +kernel
theorem dX4_readBefore_51 : decode cX4_readBefore 51 = .ok (.iaload, 1) := by decide +kernel
theorem dX4_readBefore_52 : decode cX4_readBefore 52 = .ok (.iconst 1, 1) := by decide +kernel
theorem dX4_readBefore_53 : decode cX4_readBefore 53 = .ok (.iload_n 3, 1) := by decide +kernel
theorem dX4_readBefore_54 : decode cX4_readBefore 54 = .ok (.ishl, 1) := by decide +kernel
theorem dX4_readBefore_55 : decode cX4_readBefore 55 = .ok (.ior, 1) := by decide +kernel
theorem dX4_readBefore_56 : decode cX4_readBefore 56 = .ok (.iastore, 1) := by decide +kernel
theorem dX4_readBefore_57 : decode cX4_readBefore 57 = .ok (.iconst 1, 1) := by decide +kernel
theorem dX4_readBefore_58 : decode cX4_readBefore 58 = .ok (.ireturn, 1) := by decide +kernel
theorem dX4_take_0 : decode cX4_take 0 = .ok (.aload_n 0, 1) := by decide +kernel
theorem dX4_take_1 : decode cX4_take 1 = .ok (.getfield 22, 3) := by decide +kernel
theorem dX4_take_4 : decode cX4_take 4 = .ok (.aload_n 0, 1) := by decide +kernel
theorem dX4_take_5 : decode cX4_take 5 = .ok (.getfield 19, 3) := by decide +kernel
theorem dX4_take_8 : decode cX4_take 8 = .ok (.isub, 1) := by decide +kernel
theorem dX4_take_9 : decode cX4_take 9 = .ok (.aload_n 1, 1) := by decide +kernel
theorem dX4_take_10 : decode cX4_take 10 = .ok (.invokevirtual 89, 3) := by decide +kernel
theorem dX4_take_13 : decode cX4_take 13 = .ok (.if_icmp .eq 5, 3) := by decide +kernel
theorem dX4_take_16 : decode cX4_take 16 = .ok (.iconst 0, 1) := by decide +kernel
theorem dX4_take_17 : decode cX4_take 17 = .ok (.ireturn, 1) := by decide +kernel
theorem dX4_take_18 : decode cX4_take 18 = .ok (.iconst 0, 1) := by decide +kernel
theorem dX4_take_19 : decode cX4_take 19 = .ok (.istore_n 2, 1) := by decide +kernel
theorem dX4_take_20 : decode cX4_take 20 = .ok (.iload_n 2, 1) := by decide +kernel
theorem dX4_take_21 : decode cX4_take 21 = .ok (.aload_n 1, 1) := by decide +kernel
theorem dX4_take_22 : decode cX4_take 22 = .ok (.invokevirtual 89, 3) := by decide +kernel
theorem dX4_take_25 : decode cX4_take 25 = .ok (.if_icmp .ge 30, 3) := by decide +kernel
theorem dX4_take_28 : decode cX4_take 28 = .ok (.aload_n 0, 1) := by decide +kernel
theorem dX4_take_29 : decode cX4_take 29 = .ok (.getfield 9, 3) := by decide +kernel
theorem dX4_take_32 : decode cX4_take 32 = .ok (.aload_n 0, 1) := by decide +kernel
theorem dX4_take_33 : decode cX4_take 33 = .ok (.getfield 19, 3) := by decide +kernel
theorem dX4_take_36 : decode cX4_take 36 = .ok (.iload_n 2, 1) := by decide +kernel
theorem dX4_take_37 : decode cX4_take 37 = .ok (.iadd, 1) := by decide +kernel
theorem dX4_take_38 : decode cX4_take 38 = .ok (.iaload, 1) := by decide +kernel
theorem dX4_take_39 : decode cX4_take 39 = .ok (.aload_n 1, 1) := by decide +kernel
theorem dX4_take_40 : decode cX4_take 40 = .ok (.iload_n 2, 1) := by decide +kernel
theorem dX4_take_41 : decode cX4_take 41 = .ok (.invokevirtual 93, 3) := by decide +kernel
theorem dX4_take_44 : decode cX4_take 44 = .ok (.if_icmp .eq 5, 3) := by decide +kernel
theorem dX4_take_47 : decode cX4_take 47 = .ok (.iconst 0, 1) := by decide +kernel
theorem dX4_take_48 : decode cX4_take 48 = .ok (.ireturn, 1) := by decide +kernel
theorem dX4_take_49 : decode cX4_take 49 = .ok (.iinc 2 1, 3) := by decide +kernel
theorem dX4_take_52 : decode cX4_take 52 = .ok (.goto (-32), 3) := by decide +kernel
theorem dX4_take_55 : decode cX4_take 55 = .ok (.aload_n 0, 1) := by decide +kernel
theorem dX4_take_56 : decode cX4_take 56 = .ok (.invokevirtual 30, 3) := by decide +kernel
theorem dX4_take_59 : decode cX4_take 59 = .ok (.iconst 1, 1) := by decide +kernel
theorem dX4_take_60 : decode cX4_take 60 = .ok (.ireturn, 1) := by decide +kernel
theorem dX4_takeNumber_0 : decode cX4_takeNumber 0 = .ok (.aload_n 0, 1) := by decide +kernel
theorem dX4_takeNumber_1 : decode cX4_takeNumber 1 = .ok (.invokevirtual 83, 3) := by decide +kernel
theorem dX4_takeNumber_4 : decode cX4_takeNumber 4 = .ok (.istore_n 2, 1) := by decide +kernel
theorem dX4_takeNumber_5 : decode cX4_takeNumber 5 = .ok (.iload_n 2, 1) := by decide +kernel
theorem dX4_takeNumber_6 : decode cX4_takeNumber 6 = .ok (.iconst (-1), 1) := by decide +kernel
theorem dX4_takeNumber_7 : decode cX4_takeNumber 7 = .ok (.if_icmp .eq 8, 3) := by decide +kernel
theorem dX4_takeNumber_10 : decode cX4_takeNumber 10 = .ok (.iload_n 2, 1) := by decide +kernel
theorem dX4_takeNumber_11 : decode cX4_takeNumber 11 = .ok (.iload_n 1, 1) := by decide +kernel
theorem dX4_takeNumber_12 : decode cX4_takeNumber 12 = .ok (.if_icmp .le 5, 3) := by decide +kernel
theorem dX4_takeNumber_15 : decode cX4_takeNumber 15 = .ok (.iconst (-1), 1) := by decide +kernel
theorem dX4_takeNumber_16 : decode cX4_takeNumber 16 = .ok (.ireturn, 1) := by decide +kernel
theorem dX4_takeNumber_17 : decode cX4_takeNumber 17 = .ok (.aload_n 0, 1) := by decide +kernel
theorem dX4_takeNumber_18 : decode cX4_takeNumber 18 = .ok (.invokevirtual 30, 3) := by decide +kernel
theorem dX4_takeNumber_21 : decode cX4_takeNumber 21 = .ok (.iload_n 2, 1) := by decide +kernel
theorem dX4_takeNumber_22 : decode cX4_takeNumber 22 = .ok (.ireturn, 1) := by decide +kernel
theorem dX4_number_0 : decode cX4_number 0 = .ok (.aload_n 0, 1) := by decide +kernel
theorem dX4_number_1 : decode cX4_number 1 = .ok (.getfield 19, 3) := by decide +kernel
theorem dX4_number_4 : decode cX4_number 4 = .ok (.aload_n 0, 1) := by decide +kernel
theorem dX4_number_5 : decode cX4_number 5 = .ok (.getfield 15, 3) := by decide +kernel
theorem dX4_number_8 : decode cX4_number 8 = .ok (.if_icmp .ge 19, 3) := by decide +kernel
theorem dX4_number_11 : decode cX4_number 11 = .ok (.aload_n 0, 1) := by decide +kernel
theorem dX4_number_12 : decode cX4_number 12 = .ok (.getfield 9, 3) := by decide +kernel
theorem dX4_number_15 : decode cX4_number 15 = .ok (.aload_n 0, 1) := by decide +kernel
theorem dX4_number_16 : decode cX4_number 16 = .ok (.getfield 19, 3) := by decide +kernel
theorem dX4_number_19 : decode cX4_number 19 = .ok (.iaload, 1) := by decide +kernel
theorem dX4_number_20 : decode cX4_number 20 = .ok (.invokestatic 97, 3) := by decide +kernel
theorem dX4_number_23 : decode cX4_number 23 = .ok (.iconst 2, 1) := by decide +kernel
theorem dX4_number_24 : decode cX4_number 24 = .ok (.if_icmp .eq 5, 3) := by decide +kernel
theorem dX4_number_27 : decode cX4_number 27 = .ok (.iconst (-1), 1) := by decide +kernel
theorem dX4_number_28 : decode cX4_number 28 = .ok (.ireturn, 1) := by decide +kernel
theorem dX4_number_29 : decode cX4_number 29 = .ok (.iconst 0, 1) := by decide +kernel
theorem dX4_number_30 : decode cX4_number 30 = .ok (.istore_n 1, 1) := by decide +kernel
theorem dX4_number_31 : decode cX4_number 31 = .ok (.aload_n 0, 1) := by decide +kernel
theorem dX4_number_32 : decode cX4_number 32 = .ok (.getfield 19, 3) := by decide +kernel
theorem dX4_number_35 : decode cX4_number 35 = .ok (.istore_n 2, 1) := by decide +kernel
theorem dX4_number_36 : decode cX4_number 36 = .ok (.iload_n 2, 1) := by decide +kernel
theorem dX4_number_37 : decode cX4_number 37 = .ok (.aload_n 0, 1) := by decide +kernel
theorem dX4_number_38 : decode cX4_number 38 = .ok (.getfield 22, 3) := by decide +kernel
theorem dX4_number_41 : decode cX4_number 41 = .ok (.if_icmp .ge 29, 3) := by decide +kernel
theorem dX4_number_44 : decode cX4_number 44 = .ok (.ldc 100, 2) := by decide +kernel
theorem dX4_number_46 : decode cX4_number 46 = .ok (.iload_n 1, 1) := by decide +kernel
theorem dX4_number_47 : decode cX4_number 47 = .ok (.bipush 10, 2) := by decide +kernel
theorem dX4_number_49 : decode cX4_number 49 = .ok (.imul, 1) := by decide +kernel
theorem dX4_number_50 : decode cX4_number 50 = .ok (.aload_n 0, 1) := by decide +kernel
theorem dX4_number_51 : decode cX4_number 51 = .ok (.getfield 9, 3) := by decide +kernel
theorem dX4_number_54 : decode cX4_number 54 = .ok (.iload_n 2, 1) := by decide +kernel
theorem dX4_number_55 : decode cX4_number 55 = .ok (.iaload, 1) := by decide +kernel
theorem dX4_number_56 : decode cX4_number 56 = .ok (.iadd, 1) := by decide +kernel
theorem dX4_number_57 : decode cX4_number 57 = .ok (.bipush 48, 2) := by decide +kernel
theorem dX4_number_59 : decode cX4_number 59 = .ok (.isub, 1) := by decide +kernel
theorem dX4_number_60 : decode cX4_number 60 = .ok (.invokestatic 75, 3) := by decide +kernel
theorem dX4_number_63 : decode cX4_number 63 = .ok (.istore_n 1, 1) := by decide +kernel
theorem dX4_number_64 : decode cX4_number 64 = .ok (.iinc 2 1, 3) := by decide +kernel
theorem dX4_number_67 : decode cX4_number 67 = .ok (.goto (-31), 3) := by decide +kernel
theorem dX4_number_70 : decode cX4_number 70 = .ok (.iload_n 1, 1) := by decide +kernel
theorem dX4_number_71 : decode cX4_number 71 = .ok (.ireturn, 1) := by decide +kernel
theorem dX4_next_0 : decode cX4_next 0 = .ok (.aload_n 0, 1) := by decide +kernel
theorem dX4_next_1 : decode cX4_next 1 = .ok (.aload_n 0, 1) := by decide +kernel
theorem dX4_next_2 : decode cX4_next 2 = .ok (.getfield 22, 3) := by decide +kernel
theorem dX4_next_5 : decode cX4_next 5 = .ok (.putfield 19, 3) := by decide +kernel
theorem dX4_next_8 : decode cX4_next 8 = .ok (.aload_n 0, 1) := by decide +kernel
theorem dX4_next_9 : decode cX4_next 9 = .ok (.getfield 19, 3) := by decide +kernel
theorem dX4_next_12 : decode cX4_next 12 = .ok (.aload_n 0, 1) := by decide +kernel
theorem dX4_next_13 : decode cX4_next 13 = .ok (.getfield 15, 3) := by decide +kernel
theorem dX4_next_16 : decode cX4_next 16 = .ok (.if_icmp .ge 30, 3) := by decide +kernel
theorem dX4_next_19 : decode cX4_next 19 = .ok (.aload_n 0, 1) := by decide +kernel
theorem dX4_next_20 : decode cX4_next 20 = .ok (.getfield 9, 3) := by decide +kernel
theorem dX4_next_23 : decode cX4_next 23 = .ok (.aload_n 0, 1) := by decide +kernel
theorem dX4_next_24 : decode cX4_next 24 = .ok (.getfield 19, 3) := by decide +kernel
theorem dX4_next_27 : decode cX4_next 27 = .ok (.iaload, 1) := by decide +kernel
theorem dX4_next_28 : decode cX4_next 28 = .ok (.bipush 32, 2) := by decide +kernel
theorem dX4_next_30 : decode cX4_next 30 = .ok (.if_icmp .ne 16, 3) := by decide +kernel
theorem dX4_next_33 : decode cX4_next 33 = .ok (.aload_n 0, 1) := by decide +kernel
theorem dX4_next_34 : decode cX4_next 34 = .ok (.dup, 1) := by decide +kernel
theorem dX4_next_35 : decode cX4_next 35 = .ok (.getfield 19, 3) := by decide +kernel
theorem dX4_next_38 : decode cX4_next 38 = .ok (.iconst 1, 1) := by decide +kernel
theorem dX4_next_39 : decode cX4_next 39 = .ok (.iadd, 1) := by decide +kernel
theorem dX4_next_40 : decode cX4_next 40 = .ok (.putfield 19, 3) := by decide +kernel
theorem dX4_next_43 : decode cX4_next 43 = .ok (.goto (-35), 3) := by decide +kernel
theorem dX4_next_46 : decode cX4_next 46 = .ok (.aload_n 0, 1) := by decide +kernel
theorem dX4_next_47 : decode cX4_next 47 = .ok (.aload_n 0, 1) := by decide +kernel
theorem dX4_next_48 : decode cX4_next 48 = .ok (.getfield 19, 3) := by decide +kernel
theorem dX4_next_51 : decode cX4_next 51 = .ok (.putfield 22, 3) := by decide +kernel
theorem dX4_next_54 : decode cX4_next 54 = .ok (.aload_n 0, 1) := by decide +kernel
theorem dX4_next_55 : decode cX4_next 55 = .ok (.getfield 19, 3) := by decide +kernel
theorem dX4_next_58 : decode cX4_next 58 = .ok (.aload_n 0, 1) := by decide +kernel
theorem dX4_next_59 : decode cX4_next 59 = .ok (.getfield 15, 3) := by decide +kernel
theorem dX4_next_62 : decode cX4_next 62 = .ok (.if_icmp .lt 4, 3) := by decide +kernel
theorem dX4_next_65 : decode cX4_next 65 = .ok (.return_, 1) := by decide +kernel
theorem dX4_next_66 : decode cX4_next 66 = .ok (.aload_n 0, 1) := by decide +kernel
theorem dX4_next_67 : decode cX4_next 67 = .ok (.getfield 9, 3) := by decide +kernel
theorem dX4_next_70 : decode cX4_next 70 = .ok (.aload_n 0, 1) := by decide +kernel
theorem dX4_next_71 : decode cX4_next 71 = .ok (.getfield 19, 3) := by decide +kernel
theorem dX4_next_74 : decode cX4_next 74 = .ok (.iaload, 1) := by decide +kernel
theorem dX4_next_75 : decode cX4_next 75 = .ok (.invokestatic 97, 3) := by decide +kernel
theorem dX4_next_78 : decode cX4_next 78 = .ok (.istore_n 1, 1) := by decide +kernel
theorem dX4_next_79 : decode cX4_next 79 = .ok (.aload_n 0, 1) := by decide +kernel
theorem dX4_next_80 : decode cX4_next 80 = .ok (.dup, 1) := by decide +kernel
theorem dX4_next_81 : decode cX4_next 81 = .ok (.getfield 22, 3) := by decide +kernel
theorem dX4_next_84 : decode cX4_next 84 = .ok (.iconst 1, 1) := by decide +kernel
theorem dX4_next_85 : decode cX4_next 85 = .ok (.iadd, 1) := by decide +kernel
theorem dX4_next_86 : decode cX4_next 86 = .ok (.putfield 22, 3) := by decide +kernel
theorem dX4_next_89 : decode cX4_next 89 = .ok (.iload_n 1, 1) := by decide +kernel
theorem dX4_next_90 : decode cX4_next 90 = .ok (.ifCond .eq 43, 3) := by decide +kernel
theorem dX4_next_93 : decode cX4_next 93 = .ok (.aload_n 0, 1) := by decide +kernel
theorem dX4_next_94 : decode cX4_next 94 = .ok (.getfield 22, 3) := by decide +kernel
theorem dX4_next_97 : decode cX4_next 97 = .ok (.aload_n 0, 1) := by decide +kernel
theorem dX4_next_98 : decode cX4_next 98 = .ok (.getfield 15, 3) := by decide +kernel
theorem dX4_next_101 : decode cX4_next 101 = .ok (.if_icmp .ge 32, 3) := by decide +kernel
theorem dX4_next_104 : decode cX4_next 104 = .ok (.aload_n 0, 1) := by decide +kernel
theorem dX4_next_105 : decode cX4_next 105 = .ok (.getfield 9, 3) := by decide +kernel
theorem dX4_next_108 : decode cX4_next 108 = .ok (.aload_n 0, 1) := by decide +kernel
theorem dX4_next_109 : decode cX4_next 109 = .ok (.getfield 22, 3) := by decide +kernel
theorem dX4_next_112 : decode cX4_next 112 = .ok (.iaload, 1) := by decide +kernel
theorem dX4_next_113 : decode cX4_next 113 = .ok (.invokestatic 97, 3) := by decide +kernel
theorem dX4_next_116 : decode cX4_next 116 = .ok (.iload_n 1, 1) := by decide +kernel
theorem dX4_next_117 : decode cX4_next 117 = .ok (.if_icmp .ne 16, 3) := by decide +kernel
theorem dX4_next_120 : decode cX4_next 120 = .ok (.aload_n 0, 1) := by decide +kernel
theorem dX4_next_121 : decode cX4_next 121 = .ok (.dup, 1) := by decide +kernel
theorem dX4_next_122 : decode cX4_next 122 = .ok (.getfield 22, 3) := by decide +kernel
theorem dX4_next_125 : decode cX4_next 125 = .ok (.iconst 1, 1) := by decide +kernel
theorem dX4_next_126 : decode cX4_next 126 = .ok (.iadd, 1) := by decide +kernel
theorem dX4_next_127 : decode cX4_next 127 = .ok (.putfield 22, 3) := by decide +kernel
theorem dX4_next_130 : decode cX4_next 130 = .ok (.goto (-41), 3) := by decide +kernel
theorem dX4_next_133 : decode cX4_next 133 = .ok (.return_, 1) := by decide +kernel
theorem dX4_kindOf_0 : decode cX4_kindOf 0 = .ok (.iload_n 0, 1) := by decide +kernel
theorem dX4_kindOf_1 : decode cX4_kindOf 1 = .ok (.bipush 97, 2) := by decide +kernel
theorem dX4_kindOf_3 : decode cX4_kindOf 3 = .ok (.if_icmp .lt 11, 3) := by decide +kernel
theorem dX4_kindOf_6 : decode cX4_kindOf 6 = .ok (.iload_n 0, 1) := by decide +kernel
theorem dX4_kindOf_7 : decode cX4_kindOf 7 = .ok (.bipush 122, 2) := by decide +kernel
theorem dX4_kindOf_9 : decode cX4_kindOf 9 = .ok (.if_icmp .gt 5, 3) := by decide +kernel
theorem dX4_kindOf_12 : decode cX4_kindOf 12 = .ok (.iconst 1, 1) := by decide +kernel
theorem dX4_kindOf_13 : decode cX4_kindOf 13 = .ok (.ireturn, 1) := by decide +kernel
theorem dX4_kindOf_14 : decode cX4_kindOf 14 = .ok (.iload_n 0, 1) := by decide +kernel
theorem dX4_kindOf_15 : decode cX4_kindOf 15 = .ok (.bipush 48, 2) := by decide +kernel
theorem dX4_kindOf_17 : decode cX4_kindOf 17 = .ok (.if_icmp .lt 13, 3) := by decide +kernel
theorem dX4_kindOf_20 : decode cX4_kindOf 20 = .ok (.iload_n 0, 1) := by decide +kernel
theorem dX4_kindOf_21 : decode cX4_kindOf 21 = .ok (.bipush 57, 2) := by decide +kernel
theorem dX4_kindOf_23 : decode cX4_kindOf 23 = .ok (.if_icmp .gt 7, 3) := by decide +kernel
theorem dX4_kindOf_26 : decode cX4_kindOf 26 = .ok (.iconst 2, 1) := by decide +kernel
theorem dX4_kindOf_27 : decode cX4_kindOf 27 = .ok (.goto 4, 3) := by decide +kernel
theorem dX4_kindOf_30 : decode cX4_kindOf 30 = .ok (.iconst 0, 1) := by decide +kernel
theorem dX4_kindOf_31 : decode cX4_kindOf 31 = .ok (.ireturn, 1) := by decide +kernel
theorem dX5_init_0 : decode cX5_init 0 = .ok (.aload_n 0, 1) := by decide +kernel
theorem dX5_init_1 : decode cX5_init 1 = .ok (.invokespecial 3, 3) := by decide +kernel
theorem dX5_init_4 : decode cX5_init 4 = .ok (.aload_n 0, 1) := by decide +kernel
theorem dX5_init_5 : decode cX5_init 5 = .ok (.iconst 4, 1) := by decide +kernel
theorem dX5_init_6 : decode cX5_init 6 = .ok (.newarray .int, 2) := by decide +kernel
theorem dX5_init_8 : decode cX5_init 8 = .ok (.putfield 9, 3) := by decide +kernel
theorem dX5_init_11 : decode cX5_init 11 = .ok (.aload_n 0, 1) := by decide +kernel
theorem dX5_init_12 : decode cX5_init 12 = .ok (.bipush 16, 2) := by decide +kernel
theorem dX5_init_14 : decode cX5_init 14 = .ok (.newarray .int, 2) := by decide +kernel
theorem dX5_init_16 : decode cX5_init 16 = .ok (.putfield 15, 3) := by decide +kernel
theorem dX5_init_19 : decode cX5_init 19 = .ok (.aload_n 0, 1) := by decide +kernel
theorem dX5_init_20 : decode cX5_init 20 = .ok (.sipush 10000, 3) := by decide +kernel
theorem dX5_init_23 : decode cX5_init 23 = .ok (.putfield 18, 3) := by decide +kernel
theorem dX5_init_26 : decode cX5_init 26 = .ok (.aload_n 0, 1) := by decide +kernel
theorem dX5_init_27 : decode cX5_init 27 = .ok (.iconst 0, 1) := by decide +kernel
theorem dX5_init_28 : decode cX5_init 28 = .ok (.putfield 22, 3) := by decide +kernel
theorem dX5_init_31 : decode cX5_init 31 = .ok (.return_, 1) := by decide +kernel
theorem dX5_wipe_0 : decode cX5_wipe 0 = .ok (.aload_n 0, 1) := by decide +kernel
theorem dX5_wipe_1 : decode cX5_wipe 1 = .ok (.getfield 9, 3) := by decide +kernel
theorem dX5_wipe_4 : decode cX5_wipe 4 = .ok (.iconst 0, 1) := by decide +kernel
theorem dX5_wipe_5 : decode cX5_wipe 5 = .ok (.invokestatic 25, 3) := by decide +kernel
theorem dX5_wipe_8 : decode cX5_wipe 8 = .ok (.aload_n 0, 1) := by decide +kernel
theorem dX5_wipe_9 : decode cX5_wipe 9 = .ok (.getfield 15, 3) := by decide +kernel
