theorem dX0_init_0 : decode cX0_init 0 = .ok (.aload_n 0, 1) := by decide +kernel
theorem dX0_init_1 : decode cX0_init 1 = .ok (.invokespecial 3, 3) := by decide +kernel
theorem dX0_init_4 : decode cX0_init 4 = .ok (.aload_n 0, 1) := by decide +kernel
theorem dX0_init_5 : decode cX0_init 5 = .ok (.bipush 64, 2) := by decide +kernel
theorem dX0_init_7 : decode cX0_init 7 = .ok (.newarray .int, 2) := by decide +kernel
theorem dX0_init_9 : decode cX0_init 9 = .ok (.putfield 11, 3) := by decide +kernel
theorem dX0_init_12 : decode cX0_init 12 = .ok (.aload_n 0, 1) := by decide +kernel
theorem dX0_init_13 : decode cX0_init 13 = .ok (.sipush 216, 3) := by decide +kernel
theorem dX0_init_16 : decode cX0_init 16 = .ok (.newarray .int, 2) := by decide +kernel
theorem dX0_init_18 : decode cX0_init 18 = .ok (.putfield 17, 3) := by decide +kernel
theorem dX0_init_21 : decode cX0_init 21 = .ok (.iconst 0, 1) := by decide +kernel
theorem dX0_init_22 : decode cX0_init 22 = .ok (.istore_n 1, 1) := by decide +kernel
theorem dX0_init_23 : decode cX0_init 23 = .ok (.iload_n 1, 1) := by decide +kernel
theorem dX0_init_24 : decode cX0_init 24 = .ok (.aload_n 0, 1) := by decide +kernel
theorem dX0_init_25 : decode cX0_init 25 = .ok (.getfield 17, 3) := by decide +kernel
theorem dX0_init_28 : decode cX0_init 28 = .ok (.arraylength, 1) := by decide +kernel
theorem dX0_init_29 : decode cX0_init 29 = .ok (.if_icmp .ge 26, 3) := by decide +kernel
theorem dX0_init_32 : decode cX0_init 32 = .ok (.aload_n 0, 1) := by decide +kernel
theorem dX0_init_33 : decode cX0_init 33 = .ok (.getfield 17, 3) := by decide +kernel
theorem dX0_init_36 : decode cX0_init 36 = .ok (.iload_n 1, 1) := by decide +kernel
theorem dX0_init_37 : decode cX0_init 37 = .ok (.iload_n 1, 1) := by decide +kernel
theorem dX0_init_38 : decode cX0_init 38 = .ok (.bipush 12, 2) := by decide +kernel
theorem dX0_init_40 : decode cX0_init 40 = .ok (.idiv, 1) := by decide +kernel
theorem dX0_init_41 : decode cX0_init 41 = .ok (.iload_n 1, 1) := by decide +kernel
theorem dX0_init_42 : decode cX0_init 42 = .ok (.bipush 12, 2) := by decide +kernel
theorem dX0_init_44 : decode cX0_init 44 = .ok (.irem, 1) := by decide +kernel
theorem dX0_init_45 : decode cX0_init 45 = .ok (.invokestatic 20, 3) := by decide +kernel
theorem dX0_init_48 : decode cX0_init 48 = .ok (.iastore, 1) := by decide +kernel
theorem dX0_init_49 : decode cX0_init 49 = .ok (.iinc 1 1, 3) := by decide +kernel
theorem dX0_init_52 : decode cX0_init 52 = .ok (.goto (-29), 3) := by decide +kernel
theorem dX0_init_55 : decode cX0_init 55 = .ok (.return_, 1) := by decide +kernel
theorem dX0_forgetChain_0 : decode cX0_forgetChain 0 = .ok (.aload_n 0, 1) := by decide +kernel
theorem dX0_forgetChain_1 : decode cX0_forgetChain 1 = .ok (.iconst 0, 1) := by decide +kernel
theorem dX0_forgetChain_2 : decode cX0_forgetChain 2 = .ok (.putfield 24, 3) := by decide +kernel
theorem dX0_forgetChain_5 : decode cX0_forgetChain 5 = .ok (.return_, 1) := by decide +kernel
theorem dX0_keptAt_0 : decode cX0_keptAt 0 = .ok (.iload_n 1, 1) := by decide +kernel
theorem dX0_keptAt_1 : decode cX0_keptAt 1 = .ok (.ifCond .lt 26, 3) := by decide +kernel
theorem dX0_keptAt_4 : decode cX0_keptAt 4 = .ok (.iload_n 1, 1) := by decide +kernel
theorem dX0_keptAt_5 : decode cX0_keptAt 5 = .ok (.aload_n 0, 1) := by decide +kernel
theorem dX0_keptAt_6 : decode cX0_keptAt 6 = .ok (.getfield 24, 3) := by decide +kernel
theorem dX0_keptAt_9 : decode cX0_keptAt 9 = .ok (.if_icmp .ge 18, 3) := by decide +kernel
theorem dX0_keptAt_12 : decode cX0_keptAt 12 = .ok (.iload_n 1, 1) := by decide +kernel
theorem dX0_keptAt_13 : decode cX0_keptAt 13 = .ok (.bipush 64, 2) := by decide +kernel
theorem dX0_keptAt_15 : decode cX0_keptAt 15 = .ok (.if_icmp .ge 12, 3) := by decide +kernel
theorem dX0_keptAt_18 : decode cX0_keptAt 18 = .ok (.aload_n 0, 1) := by decide +kernel
theorem dX0_keptAt_19 : decode cX0_keptAt 19 = .ok (.getfield 11, 3) := by decide +kernel
theorem dX0_keptAt_22 : decode cX0_keptAt 22 = .ok (.iload_n 1, 1) := by decide +kernel
theorem dX0_keptAt_23 : decode cX0_keptAt 23 = .ok (.iaload, 1) := by decide +kernel
theorem dX0_keptAt_24 : decode cX0_keptAt 24 = .ok (.goto 4, 3) := by decide +kernel
theorem dX0_keptAt_27 : decode cX0_keptAt 27 = .ok (.iconst (-1), 1) := by decide +kernel
theorem dX0_keptAt_28 : decode cX0_keptAt 28 = .ok (.ireturn, 1) := by decide +kernel
theorem dX0_selected_0 : decode cX0_selected 0 = .ok (.iload_n 1, 1) := by decide +kernel
theorem dX0_selected_1 : decode cX0_selected 1 = .ok (.ifCond .lt 19, 3) := by decide +kernel
theorem dX0_selected_4 : decode cX0_selected 4 = .ok (.iload_n 1, 1) := by decide +kernel
theorem dX0_selected_5 : decode cX0_selected 5 = .ok (.bipush 18, 2) := by decide +kernel
theorem dX0_selected_7 : decode cX0_selected 7 = .ok (.if_icmp .ge 13, 3) := by decide +kernel
theorem dX0_selected_10 : decode cX0_selected 10 = .ok (.iload_n 2, 1) := by decide +kernel
theorem dX0_selected_11 : decode cX0_selected 11 = .ok (.ifCond .lt 9, 3) := by decide +kernel
theorem dX0_selected_14 : decode cX0_selected 14 = .ok (.iload_n 2, 1) := by decide +kernel
theorem dX0_selected_15 : decode cX0_selected 15 = .ok (.bipush 12, 2) := by decide +kernel
theorem dX0_selected_17 : decode cX0_selected 17 = .ok (.if_icmp .lt 5, 3) := by decide +kernel
theorem dX0_selected_20 : decode cX0_selected 20 = .ok (.iconst 0, 1) := by decide +kernel
theorem dX0_selected_21 : decode cX0_selected 21 = .ok (.ireturn, 1) := by decide +kernel
theorem dX0_selected_22 : decode cX0_selected 22 = .ok (.aload_n 0, 1) := by decide +kernel
theorem dX0_selected_23 : decode cX0_selected 23 = .ok (.getfield 17, 3) := by decide +kernel
theorem dX0_selected_26 : decode cX0_selected 26 = .ok (.iload_n 1, 1) := by decide +kernel
theorem dX0_selected_27 : decode cX0_selected 27 = .ok (.bipush 12, 2) := by decide +kernel
theorem dX0_selected_29 : decode cX0_selected 29 = .ok (.imul, 1) := by decide +kernel
theorem dX0_selected_30 : decode cX0_selected 30 = .ok (.iload_n 2, 1) := by decide +kernel
theorem dX0_selected_31 : decode cX0_selected 31 = .ok (.iadd, 1) := by decide +kernel
theorem dX0_selected_32 : decode cX0_selected 32 = .ok (.iaload, 1) := by decide +kernel
theorem dX0_selected_33 : decode cX0_selected 33 = .ok (.ireturn, 1) := by decide +kernel
theorem dX0_answer_0 : decode cX0_answer 0 = .ok (.aload_n 0, 1) := by decide +kernel
theorem dX0_answer_1 : decode cX0_answer 1 = .ok (.aload_n 1, 1) := by decide +kernel
theorem dX0_answer_2 : decode cX0_answer 2 = .ok (.aload_n 0, 1) := by decide +kernel
theorem dX0_answer_3 : decode cX0_answer 3 = .ok (.aload_n 1, 1) := by decide +kernel
theorem dX0_answer_4 : decode cX0_answer 4 = .ok (.getfield 28, 3) := by decide +kernel
theorem dX0_answer_7 : decode cX0_answer 7 = .ok (.iload_n 2, 1) := by decide +kernel
theorem dX0_answer_8 : decode cX0_answer 8 = .ok (.invokevirtual 33, 3) := by decide +kernel
theorem dX0_answer_11 : decode cX0_answer 11 = .ok (.iload_n 3, 1) := by decide +kernel
theorem dX0_answer_12 : decode cX0_answer 12 = .ok (.iload 4, 2) := by decide +kernel
theorem dX0_answer_14 : decode cX0_answer 14 = .ok (.invokevirtual 34, 3) := by decide +kernel
theorem dX0_answer_17 : decode cX0_answer 17 = .ok (.ireturn, 1) := by decide +kernel
theorem dX0_above_0 : decode cX0_above 0 = .ok (.aload_n 0, 1) := by decide +kernel
theorem dX0_above_1 : decode cX0_above 1 = .ok (.aload_n 2, 1) := by decide +kernel
theorem dX0_above_2 : decode cX0_above 2 = .ok (.aload_n 0, 1) := by decide +kernel
theorem dX0_above_3 : decode cX0_above 3 = .ok (.iload_n 1, 1) := by decide +kernel
theorem dX0_above_4 : decode cX0_above 4 = .ok (.invokestatic 38, 3) := by decide +kernel
theorem dX0_above_7 : decode cX0_above 7 = .ok (.iload_n 3, 1) := by decide +kernel
theorem dX0_above_8 : decode cX0_above 8 = .ok (.invokevirtual 33, 3) := by decide +kernel
theorem dX0_above_11 : decode cX0_above 11 = .ok (.iload 4, 2) := by decide +kernel
theorem dX0_above_13 : decode cX0_above 13 = .ok (.iload 5, 2) := by decide +kernel
theorem dX0_above_15 : decode cX0_above 15 = .ok (.invokevirtual 34, 3) := by decide +kernel
theorem dX0_above_18 : decode cX0_above 18 = .ok (.ireturn, 1) := by decide +kernel
theorem dX0_by_0 : decode cX0_by 0 = .ok (.aload_n 0, 1) := by decide +kernel
theorem dX0_by_1 : decode cX0_by 1 = .ok (.aload_n 2, 1) := by decide +kernel
theorem dX0_by_2 : decode cX0_by 2 = .ok (.aload_n 0, 1) := by decide +kernel
theorem dX0_by_3 : decode cX0_by 3 = .ok (.iload_n 1, 1) := by decide +kernel
theorem dX0_by_4 : decode cX0_by 4 = .ok (.iload_n 3, 1) := by decide +kernel
theorem dX0_by_5 : decode cX0_by 5 = .ok (.invokevirtual 33, 3) := by decide +kernel
theorem dX0_by_8 : decode cX0_by 8 = .ok (.iload 4, 2) := by decide +kernel
theorem dX0_by_10 : decode cX0_by 10 = .ok (.iload 5, 2) := by decide +kernel
theorem dX0_by_12 : decode cX0_by 12 = .ok (.invokevirtual 34, 3) := by decide +kernel
theorem dX0_by_15 : decode cX0_by 15 = .ok (.ireturn, 1) := by decide +kernel
theorem dX0_run_0 : decode cX0_run 0 = .ok (.iload_n 2, 1) := by decide +kernel
theorem dX0_run_1 : decode cX0_run 1 = .ok (.ifCond .eq 10, 3) := by decide +kernel
theorem dX0_run_4 : decode cX0_run 4 = .ok (.iload 4, 2) := by decide +kernel
theorem dX0_run_6 : decode cX0_run 6 = .ok (.bipush 40, 2) := by decide +kernel
theorem dX0_run_8 : decode cX0_run 8 = .ok (.if_icmp .le 5, 3) := by decide +kernel
theorem dX0_run_11 : decode cX0_run 11 = .ok (.iconst 0, 1) := by decide +kernel
theorem dX0_run_12 : decode cX0_run 12 = .ok (.ireturn, 1) := by decide +kernel
theorem dX0_run_13 : decode cX0_run 13 = .ok (.aload_n 0, 1) := by decide +kernel
theorem dX0_run_14 : decode cX0_run 14 = .ok (.iload_n 2, 1) := by decide +kernel
theorem dX0_run_15 : decode cX0_run 15 = .ok (.invokevirtual 42, 3) := by decide +kernel
theorem dX0_run_18 : decode cX0_run 18 = .ok (.iload_n 2, 1) := by decide +kernel
theorem dX0_run_19 : decode cX0_run 19 = .ok (.bipush 60, 2) := by decide +kernel
theorem dX0_run_21 : decode cX0_run 21 = .ok (.if_icmp .ge 15, 3) := by decide +kernel
theorem dX0_run_24 : decode cX0_run 24 = .ok (.aload_n 0, 1) := by decide +kernel
theorem dX0_run_25 : decode cX0_run 25 = .ok (.aload_n 1, 1) := by decide +kernel
theorem dX0_run_26 : decode cX0_run 26 = .ok (.iload_n 2, 1) := by decide +kernel
theorem dX0_run_27 : decode cX0_run 27 = .ok (.iload_n 3, 1) := by decide +kernel
theorem dX0_run_28 : decode cX0_run 28 = .ok (.iload 4, 2) := by decide +kernel
theorem dX0_run_30 : decode cX0_run 30 = .ok (.iconst 1, 1) := by decide +kernel
theorem dX0_run_31 : decode cX0_run 31 = .ok (.iadd, 1) := by decide +kernel
theorem dX0_run_32 : decode cX0_run 32 = .ok (.invokevirtual 46, 3) := by decide +kernel
theorem dX0_run_35 : decode cX0_run 35 = .ok (.ireturn, 1) := by decide +kernel
theorem dX0_run_36 : decode cX0_run 36 = .ok (.iload_n 2, 1) := by decide +kernel
theorem dX0_run_37 : decode cX0_run 37 = .ok (.bipush 100, 2) := by decide +kernel
theorem dX0_run_39 : decode cX0_run 39 = .ok (.if_icmp .ge 15, 3) := by decide +kernel
theorem dX0_run_42 : decode cX0_run 42 = .ok (.aload_n 0, 1) := by decide +kernel
theorem dX0_run_43 : decode cX0_run 43 = .ok (.aload_n 1, 1) := by decide +kernel
theorem dX0_run_44 : decode cX0_run 44 = .ok (.iload_n 2, 1) := by decide +kernel
theorem dX0_run_45 : decode cX0_run 45 = .ok (.iload_n 3, 1) := by decide +kernel
theorem dX0_run_46 : decode cX0_run 46 = .ok (.iload 4, 2) := by decide +kernel
theorem dX0_run_48 : decode cX0_run 48 = .ok (.iconst 1, 1) := by decide +kernel
theorem dX0_run_49 : decode cX0_run 49 = .ok (.iadd, 1) := by decide +kernel
theorem dX0_run_50 : decode cX0_run 50 = .ok (.invokevirtual 49, 3) := by decide +kernel
theorem dX0_run_53 : decode cX0_run 53 = .ok (.ireturn, 1) := by decide +kernel
theorem dX0_run_54 : decode cX0_run 54 = .ok (.iload_n 2, 1) := by decide +kernel
theorem dX0_run_55 : decode cX0_run 55 = .ok (.sipush 140, 3) := by decide +kernel
theorem dX0_run_58 : decode cX0_run 58 = .ok (.if_icmp .ge 15, 3) := by decide +kernel
theorem dX0_run_61 : decode cX0_run 61 = .ok (.aload_n 0, 1) := by decide +kernel
theorem dX0_run_62 : decode cX0_run 62 = .ok (.aload_n 1, 1) := by decide +kernel
theorem dX0_run_63 : decode cX0_run 63 = .ok (.iload_n 2, 1) := by decide +kernel
theorem dX0_run_64 : decode cX0_run 64 = .ok (.iload_n 3, 1) := by decide +kernel
theorem dX0_run_65 : decode cX0_run 65 = .ok (.iload 4, 2) := by decide +kernel
theorem dX0_run_67 : decode cX0_run 67 = .ok (.iconst 1, 1) := by decide +kernel
theorem dX0_run_68 : decode cX0_run 68 = .ok (.iadd, 1) := by decide +kernel
theorem dX0_run_69 : decode cX0_run 69 = .ok (.invokevirtual 52, 3) := by decide +kernel
theorem dX0_run_72 : decode cX0_run 72 = .ok (.ireturn, 1) := by decide +kernel
theorem dX0_run_73 : decode cX0_run 73 = .ok (.iload_n 2, 1) := by decide +kernel
theorem dX0_run_74 : decode cX0_run 74 = .ok (.sipush 180, 3) := by decide +kernel
theorem dX0_run_77 : decode cX0_run 77 = .ok (.if_icmp .ge 17, 3) := by decide +kernel
theorem dX0_run_80 : decode cX0_run 80 = .ok (.aload_n 0, 1) := by decide +kernel
theorem dX0_run_81 : decode cX0_run 81 = .ok (.aload_n 1, 1) := by decide +kernel
theorem dX0_run_82 : decode cX0_run 82 = .ok (.iload_n 2, 1) := by decide +kernel
theorem dX0_run_83 : decode cX0_run 83 = .ok (.iload_n 3, 1) := by decide +kernel
theorem dX0_run_84 : decode cX0_run 84 = .ok (.iload 4, 2) := by decide +kernel
theorem dX0_run_86 : decode cX0_run 86 = .ok (.iconst 1, 1) := by decide +kernel
theorem dX0_run_87 : decode cX0_run 87 = .ok (.iadd, 1) := by decide +kernel
theorem dX0_run_88 : decode cX0_run 88 = .ok (.invokevirtual 55, 3) := by decide +kernel
theorem dX0_run_91 : decode cX0_run 91 = .ok (.goto 14, 3) := by decide +kernel
theorem dX0_run_94 : decode cX0_run 94 = .ok (.aload_n 0, 1) := by decide +kernel
theorem dX0_run_95 : decode cX0_run 95 = .ok (.aload_n 1, 1) := by decide +kernel
theorem dX0_run_96 : decode cX0_run 96 = .ok (.iload_n 2, 1) := by decide +kernel
theorem dX0_run_97 : decode cX0_run 97 = .ok (.iload_n 3, 1) := by decide +kernel
theorem dX0_run_98 : decode cX0_run 98 = .ok (.iload 4, 2) := by decide +kernel
theorem dX0_run_100 : decode cX0_run 100 = .ok (.iconst 1, 1) := by decide +kernel
theorem dX0_run_101 : decode cX0_run 101 = .ok (.iadd, 1) := by decide +kernel
theorem dX0_run_102 : decode cX0_run 102 = .ok (.invokevirtual 58, 3) := by decide +kernel
theorem dX0_run_105 : decode cX0_run 105 = .ok (.ireturn, 1) := by decide +kernel
theorem dX0_begin_0 : decode cX0_begin 0 = .ok (.aload_n 0, 1) := by decide +kernel
theorem dX0_begin_1 : decode cX0_begin 1 = .ok (.getfield 24, 3) := by decide +kernel
theorem dX0_begin_4 : decode cX0_begin 4 = .ok (.ifCond .lt 22, 3) := by decide +kernel
theorem dX0_begin_7 : decode cX0_begin 7 = .ok (.aload_n 0, 1) := by decide +kernel
theorem dX0_begin_8 : decode cX0_begin 8 = .ok (.getfield 24, 3) := by decide +kernel
theorem dX0_begin_11 : decode cX0_begin 11 = .ok (.bipush 64, 2) := by decide +kernel
theorem dX0_begin_13 : decode cX0_begin 13 = .ok (.if_icmp .ge 13, 3) := by decide +kernel
theorem dX0_begin_16 : decode cX0_begin 16 = .ok (.aload_n 0, 1) := by decide +kernel
theorem dX0_begin_17 : decode cX0_begin 17 = .ok (.getfield 11, 3) := by decide +kernel
theorem dX0_begin_20 : decode cX0_begin 20 = .ok (.aload_n 0, 1) := by decide +kernel
theorem dX0_begin_21 : decode cX0_begin 21 = .ok (.getfield 24, 3) := by decide +kernel
theorem dX0_begin_24 : decode cX0_begin 24 = .ok (.iload_n 1, 1) := by decide +kernel
theorem dX0_begin_25 : decode cX0_begin 25 = .ok (.iastore, 1) := by decide +kernel
theorem dX0_begin_26 : decode cX0_begin 26 = .ok (.aload_n 0, 1) := by decide +kernel
theorem dX0_begin_27 : decode cX0_begin 27 = .ok (.dup, 1) := by decide +kernel
theorem dX0_begin_28 : decode cX0_begin 28 = .ok (.getfield 24, 3) := by decide +kernel
theorem dX0_begin_31 : decode cX0_begin 31 = .ok (.iconst 1, 1) := by decide +kernel
theorem dX0_begin_32 : decode cX0_begin 32 = .ok (.iadd, 1) := by decide +kernel
theorem dX0_begin_33 : decode cX0_begin 33 = .ok (.putfield 24, 3) := by decide +kernel
theorem dX0_begin_36 : decode cX0_begin 36 = .ok (.return_, 1) := by decide +kernel
theorem dX0_runOfInterface_0 : decode cX0_runOfInterface 0 = .ok (.iload_n 2, 1) := by decide +kernel
theorem dX0_runOfInterface_1 : decode cX0_runOfInterface 1 = .ok (.lookupswitch 281 #[(10, 91), (11, 103), (20, 127), (21, 149), (30, 162), (40, 188), (41, 200), (50, 224), (51, 248), (52, 269)], 91) := by decide +kernel
theorem dX0_runOfInterface_92 : decode cX0_runOfInterface 92 = .ok (.aload_n 0, 1) := by decide +kernel
theorem dX0_runOfInterface_93 : decode cX0_runOfInterface 93 = .ok (.aload_n 1, 1) := by decide +kernel
theorem dX0_runOfInterface_94 : decode cX0_runOfInterface 94 = .ok (.iconst 0, 1) := by decide +kernel
theorem dX0_runOfInterface_95 : decode cX0_runOfInterface 95 = .ok (.iload_n 3, 1) := by decide +kernel
theorem dX0_runOfInterface_96 : decode cX0_runOfInterface 96 = .ok (.iload 4, 2) := by decide +kernel
theorem dX0_runOfInterface_98 : decode cX0_runOfInterface 98 = .ok (.invokevirtual 61, 3) := by decide +kernel
theorem dX0_runOfInterface_101 : decode cX0_runOfInterface 101 = .ok (.iconst 1, 1) := by decide +kernel
theorem dX0_runOfInterface_102 : decode cX0_runOfInterface 102 = .ok (.iadd, 1) := by decide +kernel
theorem dX0_runOfInterface_103 : decode cX0_runOfInterface 103 = .ok (.ireturn, 1) := by decide +kernel
theorem dX0_runOfInterface_104 : decode cX0_runOfInterface 104 = .ok (.aload_n 0, 1) := by decide +kernel
theorem dX0_runOfInterface_105 : decode cX0_runOfInterface 105 = .ok (.aload_n 1, 1) := by decide +kernel
theorem dX0_runOfInterface_106 : decode cX0_runOfInterface 106 = .ok (.iconst 1, 1) := by decide +kernel
theorem dX0_runOfInterface_107 : decode cX0_runOfInterface 107 = .ok (.iload_n 3, 1) := by decide +kernel
theorem dX0_runOfInterface_108 : decode cX0_runOfInterface 108 = .ok (.iload 4, 2) := by decide +kernel
theorem dX0_runOfInterface_110 : decode cX0_runOfInterface 110 = .ok (.invokevirtual 61, 3) := by decide +kernel
theorem dX0_runOfInterface_113 : decode cX0_runOfInterface 113 = .ok (.iconst 3, 1) := by decide +kernel
theorem dX0_runOfInterface_114 : decode cX0_runOfInterface 114 = .ok (.imul, 1) := by decide +kernel
theorem dX0_runOfInterface_115 : decode cX0_runOfInterface 115 = .ok (.aload_n 0, 1) := by decide +kernel
theorem dX0_runOfInterface_116 : decode cX0_runOfInterface 116 = .ok (.aload_n 1, 1) := by decide +kernel
theorem dX0_runOfInterface_117 : decode cX0_runOfInterface 117 = .ok (.iconst 0, 1) := by decide +kernel
theorem dX0_runOfInterface_118 : decode cX0_runOfInterface 118 = .ok (.iload_n 3, 1) := by decide +kernel
theorem dX0_runOfInterface_119 : decode cX0_runOfInterface 119 = .ok (.iconst 1, 1) := by decide +kernel
theorem dX0_runOfInterface_120 : decode cX0_runOfInterface 120 = .ok (.iadd, 1) := by decide +kernel
theorem dX0_runOfInterface_121 : decode cX0_runOfInterface 121 = .ok (.iload 4, 2) := by decide +kernel
theorem dX0_runOfInterface_123 : decode cX0_runOfInterface 123 = .ok (.invokevirtual 61, 3) := by decide +kernel
theorem dX0_runOfInterface_126 : decode cX0_runOfInterface 126 = .ok (.isub, 1) := by decide +kernel
theorem dX0_runOfInterface_127 : decode cX0_runOfInterface 127 = .ok (.ireturn, 1) := by decide +kernel
theorem dX0_runOfInterface_128 : decode cX0_runOfInterface 128 = .ok (.aload_n 0, 1) := by decide +kernel
theorem dX0_runOfInterface_129 : decode cX0_runOfInterface 129 = .ok (.aload_n 1, 1) := by decide +kernel
theorem dX0_runOfInterface_130 : decode cX0_runOfInterface 130 = .ok (.iconst 3, 1) := by decide +kernel
theorem dX0_runOfInterface_131 : decode cX0_runOfInterface 131 = .ok (.iload_n 3, 1) := by decide +kernel
theorem dX0_runOfInterface_132 : decode cX0_runOfInterface 132 = .ok (.iload 4, 2) := by decide +kernel
theorem dX0_runOfInterface_134 : decode cX0_runOfInterface 134 = .ok (.invokevirtual 61, 3) := by decide +kernel
theorem dX0_runOfInterface_137 : decode cX0_runOfInterface 137 = .ok (.aload_n 0, 1) := by decide +kernel
theorem dX0_runOfInterface_138 : decode cX0_runOfInterface 138 = .ok (.aload_n 1, 1) := by decide +kernel
theorem dX0_runOfInterface_139 : decode cX0_runOfInterface 139 = .ok (.iconst 3, 1) := by decide +kernel
theorem dX0_runOfInterface_140 : decode cX0_runOfInterface 140 = .ok (.iload_n 3, 1) := by decide +kernel
theorem dX0_runOfInterface_141 : decode cX0_runOfInterface 141 = .ok (.iconst 1, 1) := by decide +kernel
theorem dX0_runOfInterface_142 : decode cX0_runOfInterface 142 = .ok (.iadd, 1) := by decide +kernel
theorem dX0_runOfInterface_143 : decode cX0_runOfInterface 143 = .ok (.iload 4, 2) := by decide +kernel
theorem dX0_runOfInterface_145 : decode cX0_runOfInterface 145 = .ok (.invokevirtual 61, 3) := by decide +kernel
theorem dX0_runOfInterface_148 : decode cX0_runOfInterface 148 = .ok (.iadd, 1) := by decide +kernel
theorem dX0_runOfInterface_149 : decode cX0_runOfInterface 149 = .ok (.ireturn, 1) := by decide +kernel
theorem dX0_runOfInterface_150 : decode cX0_runOfInterface 150 = .ok (.aload_n 0, 1) := by decide +kernel
theorem dX0_runOfInterface_151 : decode cX0_runOfInterface 151 = .ok (.aload_n 1, 1) := by decide +kernel
theorem dX0_runOfInterface_152 : decode cX0_runOfInterface 152 = .ok (.iconst 4, 1) := by decide +kernel
theorem dX0_runOfInterface_153 : decode cX0_runOfInterface 153 = .ok (.iload_n 3, 1) := by decide +kernel
theorem dX0_runOfInterface_154 : decode cX0_runOfInterface 154 = .ok (.iload 4, 2) := by decide +kernel
theorem dX0_runOfInterface_156 : decode cX0_runOfInterface 156 = .ok (.invokevirtual 61, 3) := by decide +kernel
theorem dX0_runOfInterface_159 : decode cX0_runOfInterface 159 = .ok (.bipush 85, 2) := by decide +kernel
theorem dX0_runOfInterface_161 : decode cX0_runOfInterface 161 = .ok (.ixor, 1) := by decide +kernel
theorem dX0_runOfInterface_162 : decode cX0_runOfInterface 162 = .ok (.ireturn, 1) := by decide +kernel
theorem dX0_runOfInterface_163 : decode cX0_runOfInterface 163 = .ok (.aload_n 0, 1) := by decide +kernel
theorem dX0_runOfInterface_164 : decode cX0_runOfInterface 164 = .ok (.bipush 13, 2) := by decide +kernel
theorem dX0_runOfInterface_166 : decode cX0_runOfInterface 166 = .ok (.aload_n 1, 1) := by decide +kernel
theorem dX0_runOfInterface_167 : decode cX0_runOfInterface 167 = .ok (.iconst 2, 1) := by decide +kernel
theorem dX0_runOfInterface_168 : decode cX0_runOfInterface 168 = .ok (.iload_n 3, 1) := by decide +kernel
theorem dX0_runOfInterface_169 : decode cX0_runOfInterface 169 = .ok (.iload 4, 2) := by decide +kernel
theorem dX0_runOfInterface_171 : decode cX0_runOfInterface 171 = .ok (.invokevirtual 64, 3) := by decide +kernel
theorem dX0_runOfInterface_174 : decode cX0_runOfInterface 174 = .ok (.aload_n 0, 1) := by decide +kernel
theorem dX0_runOfInterface_175 : decode cX0_runOfInterface 175 = .ok (.bipush 14, 2) := by decide +kernel
theorem dX0_runOfInterface_177 : decode cX0_runOfInterface 177 = .ok (.aload_n 1, 1) := by decide +kernel
theorem dX0_runOfInterface_178 : decode cX0_runOfInterface 178 = .ok (.iconst 2, 1) := by decide +kernel
theorem dX0_runOfInterface_179 : decode cX0_runOfInterface 179 = .ok (.iload_n 3, 1) := by decide +kernel
theorem dX0_runOfInterface_180 : decode cX0_runOfInterface 180 = .ok (.iconst 1, 1) := by decide +kernel
theorem dX0_runOfInterface_181 : decode cX0_runOfInterface 181 = .ok (.iadd, 1) := by decide +kernel
theorem dX0_runOfInterface_182 : decode cX0_runOfInterface 182 = .ok (.iload 4, 2) := by decide +kernel
theorem dX0_runOfInterface_184 : decode cX0_runOfInterface 184 = .ok (.invokevirtual 64, 3) := by decide +kernel
theorem dX0_runOfInterface_187 : decode cX0_runOfInterface 187 = .ok (.iadd, 1) := by decide +kernel
theorem dX0_runOfInterface_188 : decode cX0_runOfInterface 188 = .ok (.ireturn, 1) := by decide +kernel
theorem dX0_runOfInterface_189 : decode cX0_runOfInterface 189 = .ok (.aload_n 0, 1) := by decide +kernel
theorem dX0_runOfInterface_190 : decode cX0_runOfInterface 190 = .ok (.aload_n 1, 1) := by decide +kernel
theorem dX0_runOfInterface_191 : decode cX0_runOfInterface 191 = .ok (.iconst 5, 1) := by decide +kernel
theorem dX0_runOfInterface_192 : decode cX0_runOfInterface 192 = .ok (.iload_n 3, 1) := by decide +kernel
theorem dX0_runOfInterface_193 : decode cX0_runOfInterface 193 = .ok (.iload 4, 2) := by decide +kernel
theorem dX0_runOfInterface_195 : decode cX0_runOfInterface 195 = .ok (.invokevirtual 61, 3) := by decide +kernel
theorem dX0_runOfInterface_198 : decode cX0_runOfInterface 198 = .ok (.iload_n 3, 1) := by decide +kernel
theorem dX0_runOfInterface_199 : decode cX0_runOfInterface 199 = .ok (.iadd, 1) := by decide +kernel
theorem dX0_runOfInterface_200 : decode cX0_runOfInterface 200 = .ok (.ireturn, 1) := by decide +kernel
theorem dX0_runOfInterface_201 : decode cX0_runOfInterface 201 = .ok (.aload_n 0, 1) := by decide +kernel
theorem dX0_runOfInterface_202 : decode cX0_runOfInterface 202 = .ok (.aload_n 1, 1) := by decide +kernel
theorem dX0_runOfInterface_203 : decode cX0_runOfInterface 203 = .ok (.bipush 6, 2) := by decide +kernel
theorem dX0_runOfInterface_205 : decode cX0_runOfInterface 205 = .ok (.iload_n 3, 1) := by decide +kernel
theorem dX0_runOfInterface_206 : decode cX0_runOfInterface 206 = .ok (.iload 4, 2) := by decide +kernel
theorem dX0_runOfInterface_208 : decode cX0_runOfInterface 208 = .ok (.invokevirtual 61, 3) := by decide +kernel
theorem dX0_runOfInterface_211 : decode cX0_runOfInterface 211 = .ok (.iconst 2, 1) := by decide +kernel
theorem dX0_runOfInterface_212 : decode cX0_runOfInterface 212 = .ok (.imul, 1) := by decide +kernel
theorem dX0_runOfInterface_213 : decode cX0_runOfInterface 213 = .ok (.aload_n 0, 1) := by decide +kernel
theorem dX0_runOfInterface_214 : decode cX0_runOfInterface 214 = .ok (.aload_n 1, 1) := by decide +kernel
theorem dX0_runOfInterface_215 : decode cX0_runOfInterface 215 = .ok (.bipush 6, 2) := by decide +kernel
theorem dX0_runOfInterface_217 : decode cX0_runOfInterface 217 = .ok (.iconst 1, 1) := by decide +kernel
theorem dX0_runOfInterface_218 : decode cX0_runOfInterface 218 = .ok (.iload 4, 2) := by decide +kernel
theorem dX0_runOfInterface_220 : decode cX0_runOfInterface 220 = .ok (.invokevirtual 61, 3) := by decide +kernel
theorem dX0_runOfInterface_223 : decode cX0_runOfInterface 223 = .ok (.iadd, 1) := by decide +kernel
theorem dX0_runOfInterface_224 : decode cX0_runOfInterface 224 = .ok (.ireturn, 1) := by decide +kernel
theorem dX0_runOfInterface_225 : decode cX0_runOfInterface 225 = .ok (.aload_n 0, 1) := by decide +kernel
theorem dX0_runOfInterface_226 : decode cX0_runOfInterface 226 = .ok (.bipush 16, 2) := by decide +kernel
theorem dX0_runOfInterface_228 : decode cX0_runOfInterface 228 = .ok (.aload_n 1, 1) := by decide +kernel
theorem dX0_runOfInterface_229 : decode cX0_runOfInterface 229 = .ok (.bipush 7, 2) := by decide +kernel
theorem dX0_runOfInterface_231 : decode cX0_runOfInterface 231 = .ok (.iload_n 3, 1) := by decide +kernel
theorem dX0_runOfInterface_232 : decode cX0_runOfInterface 232 = .ok (.iload 4, 2) := by decide +kernel
theorem dX0_runOfInterface_234 : decode cX0_runOfInterface 234 = .ok (.invokevirtual 64, 3) := by decide +kernel
theorem dX0_runOfInterface_237 : decode cX0_runOfInterface 237 = .ok (.aload_n 0, 1) := by decide +kernel
theorem dX0_runOfInterface_238 : decode cX0_runOfInterface 238 = .ok (.aload_n 1, 1) := by decide +kernel
theorem dX0_runOfInterface_239 : decode cX0_runOfInterface 239 = .ok (.bipush 8, 2) := by decide +kernel
theorem dX0_runOfInterface_241 : decode cX0_runOfInterface 241 = .ok (.iload_n 3, 1) := by decide +kernel
theorem dX0_runOfInterface_242 : decode cX0_runOfInterface 242 = .ok (.iload 4, 2) := by decide +kernel
theorem dX0_runOfInterface_244 : decode cX0_runOfInterface 244 = .ok (.invokevirtual 61, 3) := by decide +kernel
theorem dX0_runOfInterface_247 : decode cX0_runOfInterface 247 = .ok (.isub, 1) := by decide +kernel
theorem dX0_runOfInterface_248 : decode cX0_runOfInterface 248 = .ok (.ireturn, 1) := by decide +kernel
theorem dX0_runOfInterface_249 : decode cX0_runOfInterface 249 = .ok (.aload_n 0, 1) := by decide +kernel
theorem dX0_runOfInterface_250 : decode cX0_runOfInterface 250 = .ok (.aload_n 1, 1) := by decide +kernel
theorem dX0_runOfInterface_251 : decode cX0_runOfInterface 251 = .ok (.bipush 52, 2) := by decide +kernel
theorem dX0_runOfInterface_253 : decode cX0_runOfInterface 253 = .ok (.iload_n 3, 1) := by decide +kernel
theorem dX0_runOfInterface_254 : decode cX0_runOfInterface 254 = .ok (.iload 4, 2) := by decide +kernel
theorem dX0_runOfInterface_256 : decode cX0_runOfInterface 256 = .ok (.invokevirtual 34, 3) := by decide +kernel
theorem dX0_runOfInterface_259 : decode cX0_runOfInterface 259 = .ok (.aload_n 0, 1) := by decide +kernel
theorem dX0_runOfInterface_260 : decode cX0_runOfInterface 260 = .ok (.aload_n 1, 1) := by decide +kernel
theorem dX0_runOfInterface_261 : decode cX0_runOfInterface 261 = .ok (.iconst 5, 1) := by decide +kernel
theorem dX0_runOfInterface_262 : decode cX0_runOfInterface 262 = .ok (.iconst 2, 1) := by decide +kernel
theorem dX0_runOfInterface_263 : decode cX0_runOfInterface 263 = .ok (.iload 4, 2) := by decide +kernel
theorem dX0_runOfInterface_265 : decode cX0_runOfInterface 265 = .ok (.invokevirtual 61, 3) := by decide +kernel
theorem dX0_runOfInterface_268 : decode cX0_runOfInterface 268 = .ok (.iadd, 1) := by decide +kernel
theorem dX0_runOfInterface_269 : decode cX0_runOfInterface 269 = .ok (.ireturn, 1) := by decide +kernel
theorem dX0_runOfInterface_270 : decode cX0_runOfInterface 270 = .ok (.aload_n 0, 1) := by decide +kernel
theorem dX0_runOfInterface_271 : decode cX0_runOfInterface 271 = .ok (.aload_n 1, 1) := by decide +kernel
theorem dX0_runOfInterface_272 : decode cX0_runOfInterface 272 = .ok (.iconst 5, 1) := by decide +kernel
theorem dX0_runOfInterface_273 : decode cX0_runOfInterface 273 = .ok (.iload_n 3, 1) := by decide +kernel
theorem dX0_runOfInterface_274 : decode cX0_runOfInterface 274 = .ok (.iload 4, 2) := by decide +kernel
theorem dX0_runOfInterface_276 : decode cX0_runOfInterface 276 = .ok (.invokevirtual 61, 3) := by decide +kernel
theorem dX0_runOfInterface_279 : decode cX0_runOfInterface 279 = .ok (.iconst 5, 1) := by decide +kernel
theorem dX0_runOfInterface_280 : decode cX0_runOfInterface 280 = .ok (.imul, 1) := by decide +kernel
theorem dX0_runOfInterface_281 : decode cX0_runOfInterface 281 = .ok (.ireturn, 1) := by decide +kernel
theorem dX0_runOfInterface_282 : decode cX0_runOfInterface 282 = .ok (.iconst 0, 1) := by decide +kernel
theorem dX0_runOfInterface_283 : decode cX0_runOfInterface 283 = .ok (.ireturn, 1) := by decide +kernel
theorem dX0_runOfRootOrUnit_0 : decode cX0_runOfRootOrUnit 0 = .ok (.iload_n 2, 1) := by decide +kernel
theorem dX0_runOfRootOrUnit_1 : decode cX0_runOfRootOrUnit 1 = .ok (.tableswitch 169 60 70 #[59, 74, 91, 109, 116, 169, 169, 169, 169, 169, 149], 59) := by decide +kernel
theorem dX0_runOfRootOrUnit_60 : decode cX0_runOfRootOrUnit 60 = .ok (.aload_n 1, 1) := by decide +kernel
theorem dX0_runOfRootOrUnit_61 : decode cX0_runOfRootOrUnit 61 = .ok (.dup, 1) := by decide +kernel
theorem dX0_runOfRootOrUnit_62 : decode cX0_runOfRootOrUnit 62 = .ok (.getfield 68, 3) := by decide +kernel
theorem dX0_runOfRootOrUnit_65 : decode cX0_runOfRootOrUnit 65 = .ok (.iload_n 3, 1) := by decide +kernel
theorem dX0_runOfRootOrUnit_66 : decode cX0_runOfRootOrUnit 66 = .ok (.iadd, 1) := by decide +kernel
theorem dX0_runOfRootOrUnit_67 : decode cX0_runOfRootOrUnit 67 = .ok (.putfield 68, 3) := by decide +kernel
theorem dX0_runOfRootOrUnit_70 : decode cX0_runOfRootOrUnit 70 = .ok (.aload_n 1, 1) := by decide +kernel
theorem dX0_runOfRootOrUnit_71 : decode cX0_runOfRootOrUnit 71 = .ok (.getfield 68, 3) := by decide +kernel
theorem dX0_runOfRootOrUnit_74 : decode cX0_runOfRootOrUnit 74 = .ok (.ireturn, 1) := by decide +kernel
theorem dX0_runOfRootOrUnit_75 : decode cX0_runOfRootOrUnit 75 = .ok (.aload_n 1, 1) := by decide +kernel
theorem dX0_runOfRootOrUnit_76 : decode cX0_runOfRootOrUnit 76 = .ok (.dup, 1) := by decide +kernel
theorem dX0_runOfRootOrUnit_77 : decode cX0_runOfRootOrUnit 77 = .ok (.getfield 68, 3) := by decide +kernel
theorem dX0_runOfRootOrUnit_80 : decode cX0_runOfRootOrUnit 80 = .ok (.iconst 3, 1) := by decide +kernel
theorem dX0_runOfRootOrUnit_81 : decode cX0_runOfRootOrUnit 81 = .ok (.iload_n 3, 1) := by decide +kernel
theorem dX0_runOfRootOrUnit_82 : decode cX0_runOfRootOrUnit 82 = .ok (.imul, 1) := by decide +kernel
theorem dX0_runOfRootOrUnit_83 : decode cX0_runOfRootOrUnit 83 = .ok (.isub, 1) := by decide +kernel
theorem dX0_runOfRootOrUnit_84 : decode cX0_runOfRootOrUnit 84 = .ok (.putfield 68, 3) := by decide +kernel
theorem dX0_runOfRootOrUnit_87 : decode cX0_runOfRootOrUnit 87 = .ok (.aload_n 1, 1) := by decide +kernel
theorem dX0_runOfRootOrUnit_88 : decode cX0_runOfRootOrUnit 88 = .ok (.getfield 68, 3) := by decide +kernel
theorem dX0_runOfRootOrUnit_91 : decode cX0_runOfRootOrUnit 91 = .ok (.ireturn, 1) := by decide +kernel
theorem dX0_runOfRootOrUnit_92 : decode cX0_runOfRootOrUnit 92 = .ok (.aload_n 1, 1) := by decide +kernel
theorem dX0_runOfRootOrUnit_93 : decode cX0_runOfRootOrUnit 93 = .ok (.aload_n 1, 1) := by decide +kernel
theorem dX0_runOfRootOrUnit_94 : decode cX0_runOfRootOrUnit 94 = .ok (.getfield 68, 3) := by decide +kernel
theorem dX0_runOfRootOrUnit_97 : decode cX0_runOfRootOrUnit 97 = .ok (.bipush 31, 2) := by decide +kernel
theorem dX0_runOfRootOrUnit_99 : decode cX0_runOfRootOrUnit 99 = .ok (.imul, 1) := by decide +kernel
theorem dX0_runOfRootOrUnit_100 : decode cX0_runOfRootOrUnit 100 = .ok (.iload_n 3, 1) := by decide +kernel
theorem dX0_runOfRootOrUnit_101 : decode cX0_runOfRootOrUnit 101 = .ok (.iadd, 1) := by decide +kernel
theorem dX0_runOfRootOrUnit_102 : decode cX0_runOfRootOrUnit 102 = .ok (.putfield 68, 3) := by decide +kernel
theorem dX0_runOfRootOrUnit_105 : decode cX0_runOfRootOrUnit 105 = .ok (.aload_n 1, 1) := by decide +kernel
theorem dX0_runOfRootOrUnit_106 : decode cX0_runOfRootOrUnit 106 = .ok (.getfield 68, 3) := by decide +kernel
theorem dX0_runOfRootOrUnit_109 : decode cX0_runOfRootOrUnit 109 = .ok (.ireturn, 1) := by decide +kernel
theorem dX0_runOfRootOrUnit_110 : decode cX0_runOfRootOrUnit 110 = .ok (.aload_n 1, 1) := by decide +kernel
theorem dX0_runOfRootOrUnit_111 : decode cX0_runOfRootOrUnit 111 = .ok (.getfield 68, 3) := by decide +kernel
theorem dX0_runOfRootOrUnit_114 : decode cX0_runOfRootOrUnit 114 = .ok (.iload_n 3, 1) := by decide +kernel
theorem dX0_runOfRootOrUnit_115 : decode cX0_runOfRootOrUnit 115 = .ok (.ixor, 1) := by decide +kernel
theorem dX0_runOfRootOrUnit_116 : decode cX0_runOfRootOrUnit 116 = .ok (.ireturn, 1) := by decide +kernel
theorem dX0_runOfRootOrUnit_117 : decode cX0_runOfRootOrUnit 117 = .ok (.aload_n 0, 1) := by decide +kernel
theorem dX0_runOfRootOrUnit_118 : decode cX0_runOfRootOrUnit 118 = .ok (.aload_n 1, 1) := by decide +kernel
theorem dX0_runOfRootOrUnit_119 : decode cX0_runOfRootOrUnit 119 = .ok (.bipush 9, 2) := by decide +kernel
theorem dX0_runOfRootOrUnit_121 : decode cX0_runOfRootOrUnit 121 = .ok (.iload_n 3, 1) := by decide +kernel
theorem dX0_runOfRootOrUnit_122 : decode cX0_runOfRootOrUnit 122 = .ok (.iload 4, 2) := by decide +kernel
theorem dX0_runOfRootOrUnit_124 : decode cX0_runOfRootOrUnit 124 = .ok (.invokevirtual 61, 3) := by decide +kernel
theorem dX0_runOfRootOrUnit_127 : decode cX0_runOfRootOrUnit 127 = .ok (.aload_n 0, 1) := by decide +kernel
theorem dX0_runOfRootOrUnit_128 : decode cX0_runOfRootOrUnit 128 = .ok (.aload_n 1, 1) := by decide +kernel
theorem dX0_runOfRootOrUnit_129 : decode cX0_runOfRootOrUnit 129 = .ok (.bipush 10, 2) := by decide +kernel
theorem dX0_runOfRootOrUnit_131 : decode cX0_runOfRootOrUnit 131 = .ok (.iconst 1, 1) := by decide +kernel
theorem dX0_runOfRootOrUnit_132 : decode cX0_runOfRootOrUnit 132 = .ok (.iload 4, 2) := by decide +kernel
theorem dX0_runOfRootOrUnit_134 : decode cX0_runOfRootOrUnit 134 = .ok (.invokevirtual 61, 3) := by decide +kernel
theorem dX0_runOfRootOrUnit_137 : decode cX0_runOfRootOrUnit 137 = .ok (.iadd, 1) := by decide +kernel
theorem dX0_runOfRootOrUnit_138 : decode cX0_runOfRootOrUnit 138 = .ok (.aload_n 0, 1) := by decide +kernel
theorem dX0_runOfRootOrUnit_139 : decode cX0_runOfRootOrUnit 139 = .ok (.aload_n 1, 1) := by decide +kernel
theorem dX0_runOfRootOrUnit_140 : decode cX0_runOfRootOrUnit 140 = .ok (.bipush 63, 2) := by decide +kernel
theorem dX0_runOfRootOrUnit_142 : decode cX0_runOfRootOrUnit 142 = .ok (.iload_n 3, 1) := by decide +kernel
theorem dX0_runOfRootOrUnit_143 : decode cX0_runOfRootOrUnit 143 = .ok (.iload 4, 2) := by decide +kernel
theorem dX0_runOfRootOrUnit_145 : decode cX0_runOfRootOrUnit 145 = .ok (.invokevirtual 34, 3) := by decide +kernel
theorem dX0_runOfRootOrUnit_148 : decode cX0_runOfRootOrUnit 148 = .ok (.iadd, 1) := by decide +kernel
theorem dX0_runOfRootOrUnit_149 : decode cX0_runOfRootOrUnit 149 = .ok (.ireturn, 1) := by decide +kernel
theorem dX0_runOfRootOrUnit_150 : decode cX0_runOfRootOrUnit 150 = .ok (.aload_n 1, 1) := by decide +kernel
theorem dX0_runOfRootOrUnit_151 : decode cX0_runOfRootOrUnit 151 = .ok (.dup, 1) := by decide +kernel
theorem dX0_runOfRootOrUnit_152 : decode cX0_runOfRootOrUnit 152 = .ok (.getfield 71, 3) := by decide +kernel
theorem dX0_runOfRootOrUnit_155 : decode cX0_runOfRootOrUnit 155 = .ok (.iconst 1, 1) := by decide +kernel
theorem dX0_runOfRootOrUnit_156 : decode cX0_runOfRootOrUnit 156 = .ok (.iadd, 1) := by decide +kernel
theorem dX0_runOfRootOrUnit_157 : decode cX0_runOfRootOrUnit 157 = .ok (.putfield 71, 3) := by decide +kernel
theorem dX0_runOfRootOrUnit_160 : decode cX0_runOfRootOrUnit 160 = .ok (.aload_n 1, 1) := by decide +kernel
theorem dX0_runOfRootOrUnit_161 : decode cX0_runOfRootOrUnit 161 = .ok (.getfield 71, 3) := by decide +kernel
theorem dX0_runOfRootOrUnit_164 : decode cX0_runOfRootOrUnit 164 = .ok (.bipush 7, 2) := by decide +kernel
theorem dX0_runOfRootOrUnit_166 : decode cX0_runOfRootOrUnit 166 = .ok (.imul, 1) := by decide +kernel
theorem dX0_runOfRootOrUnit_167 : decode cX0_runOfRootOrUnit 167 = .ok (.iload_n 3, 1) := by decide +kernel
theorem dX0_runOfRootOrUnit_168 : decode cX0_runOfRootOrUnit 168 = .ok (.iadd, 1) := by decide +kernel
theorem dX0_runOfRootOrUnit_169 : decode cX0_runOfRootOrUnit 169 = .ok (.ireturn, 1) := by decide +kernel
theorem dX0_runOfRootOrUnit_170 : decode cX0_runOfRootOrUnit 170 = .ok (.iconst 0, 1) := by decide +kernel
theorem dX0_runOfRootOrUnit_171 : decode cX0_runOfRootOrUnit 171 = .ok (.ireturn, 1) := by decide +kernel
theorem dX0_runOfPumpToFine_0 : decode cX0_runOfPumpToFine 0 = .ok (.iload_n 2, 1) := by decide +kernel
theorem dX0_runOfPumpToFine_1 : decode cX0_runOfPumpToFine 1 = .ok (.lookupswitch 189 #[(100, 75), (101, 82), (110, 98), (111, 123), (112, 137), (120, 144), (130, 161), (131, 174)], 75) := by decide +kernel
theorem dX0_runOfPumpToFine_76 : decode cX0_runOfPumpToFine 76 = .ok (.aload_n 1, 1) := by decide +kernel
theorem dX0_runOfPumpToFine_77 : decode cX0_runOfPumpToFine 77 = .ok (.getfield 68, 3) := by decide +kernel
theorem dX0_runOfPumpToFine_80 : decode cX0_runOfPumpToFine 80 = .ok (.iload_n 3, 1) := by decide +kernel
theorem dX0_runOfPumpToFine_81 : decode cX0_runOfPumpToFine 81 = .ok (.iadd, 1) := by decide +kernel
theorem dX0_runOfPumpToFine_82 : decode cX0_runOfPumpToFine 82 = .ok (.ireturn, 1) := by decide +kernel
theorem dX0_runOfPumpToFine_83 : decode cX0_runOfPumpToFine 83 = .ok (.aload_n 0, 1) := by decide +kernel
theorem dX0_runOfPumpToFine_84 : decode cX0_runOfPumpToFine 84 = .ok (.iconst 0, 1) := by decide +kernel
theorem dX0_runOfPumpToFine_85 : decode cX0_runOfPumpToFine 85 = .ok (.aload_n 1, 1) := by decide +kernel
theorem dX0_runOfPumpToFine_86 : decode cX0_runOfPumpToFine 86 = .ok (.bipush 9, 2) := by decide +kernel
theorem dX0_runOfPumpToFine_88 : decode cX0_runOfPumpToFine 88 = .ok (.iload_n 3, 1) := by decide +kernel
theorem dX0_runOfPumpToFine_89 : decode cX0_runOfPumpToFine 89 = .ok (.iconst 2, 1) := by decide +kernel
theorem dX0_runOfPumpToFine_90 : decode cX0_runOfPumpToFine 90 = .ok (.iadd, 1) := by decide +kernel
theorem dX0_runOfPumpToFine_91 : decode cX0_runOfPumpToFine 91 = .ok (.iload 4, 2) := by decide +kernel
theorem dX0_runOfPumpToFine_93 : decode cX0_runOfPumpToFine 93 = .ok (.invokevirtual 74, 3) := by decide +kernel
theorem dX0_runOfPumpToFine_96 : decode cX0_runOfPumpToFine 96 = .ok (.iconst 1, 1) := by decide +kernel
theorem dX0_runOfPumpToFine_97 : decode cX0_runOfPumpToFine 97 = .ok (.iadd, 1) := by decide +kernel
theorem dX0_runOfPumpToFine_98 : decode cX0_runOfPumpToFine 98 = .ok (.ireturn, 1) := by decide +kernel
theorem dX0_runOfPumpToFine_99 : decode cX0_runOfPumpToFine 99 = .ok (.aload_n 0, 1) := by decide +kernel
theorem dX0_runOfPumpToFine_100 : decode cX0_runOfPumpToFine 100 = .ok (.iconst 1, 1) := by decide +kernel
theorem dX0_runOfPumpToFine_101 : decode cX0_runOfPumpToFine 101 = .ok (.aload_n 1, 1) := by decide +kernel
theorem dX0_runOfPumpToFine_102 : decode cX0_runOfPumpToFine 102 = .ok (.bipush 10, 2) := by decide +kernel
theorem dX0_runOfPumpToFine_104 : decode cX0_runOfPumpToFine 104 = .ok (.iload_n 3, 1) := by decide +kernel
theorem dX0_runOfPumpToFine_105 : decode cX0_runOfPumpToFine 105 = .ok (.iload 4, 2) := by decide +kernel
theorem dX0_runOfPumpToFine_107 : decode cX0_runOfPumpToFine 107 = .ok (.invokevirtual 74, 3) := by decide +kernel
theorem dX0_runOfPumpToFine_110 : decode cX0_runOfPumpToFine 110 = .ok (.iconst 2, 1) := by decide +kernel
theorem dX0_runOfPumpToFine_111 : decode cX0_runOfPumpToFine 111 = .ok (.imul, 1) := by decide +kernel
theorem dX0_runOfPumpToFine_112 : decode cX0_runOfPumpToFine 112 = .ok (.aload_n 0, 1) := by decide +kernel
theorem dX0_runOfPumpToFine_113 : decode cX0_runOfPumpToFine 113 = .ok (.aload_n 1, 1) := by decide +kernel
theorem dX0_runOfPumpToFine_114 : decode cX0_runOfPumpToFine 114 = .ok (.bipush 112, 2) := by decide +kernel
theorem dX0_runOfPumpToFine_116 : decode cX0_runOfPumpToFine 116 = .ok (.iload_n 3, 1) := by decide +kernel
theorem dX0_runOfPumpToFine_117 : decode cX0_runOfPumpToFine 117 = .ok (.iload 4, 2) := by decide +kernel
theorem dX0_runOfPumpToFine_119 : decode cX0_runOfPumpToFine 119 = .ok (.invokevirtual 34, 3) := by decide +kernel
theorem dX0_runOfPumpToFine_122 : decode cX0_runOfPumpToFine 122 = .ok (.iadd, 1) := by decide +kernel
theorem dX0_runOfPumpToFine_123 : decode cX0_runOfPumpToFine 123 = .ok (.ireturn, 1) := by decide +kernel
theorem dX0_runOfPumpToFine_124 : decode cX0_runOfPumpToFine 124 = .ok (.aload_n 0, 1) := by decide +kernel
theorem dX0_runOfPumpToFine_125 : decode cX0_runOfPumpToFine 125 = .ok (.bipush 14, 2) := by decide +kernel
theorem dX0_runOfPumpToFine_127 : decode cX0_runOfPumpToFine 127 = .ok (.aload_n 1, 1) := by decide +kernel
theorem dX0_runOfPumpToFine_128 : decode cX0_runOfPumpToFine 128 = .ok (.iconst 4, 1) := by decide +kernel
theorem dX0_runOfPumpToFine_129 : decode cX0_runOfPumpToFine 129 = .ok (.iload_n 3, 1) := by decide +kernel
theorem dX0_runOfPumpToFine_130 : decode cX0_runOfPumpToFine 130 = .ok (.iload 4, 2) := by decide +kernel
theorem dX0_runOfPumpToFine_132 : decode cX0_runOfPumpToFine 132 = .ok (.invokevirtual 64, 3) := by decide +kernel
theorem dX0_runOfPumpToFine_135 : decode cX0_runOfPumpToFine 135 = .ok (.iconst 1, 1) := by decide +kernel
theorem dX0_runOfPumpToFine_136 : decode cX0_runOfPumpToFine 136 = .ok (.isub, 1) := by decide +kernel
theorem dX0_runOfPumpToFine_137 : decode cX0_runOfPumpToFine 137 = .ok (.ireturn, 1) := by decide +kernel
theorem dX0_runOfPumpToFine_138 : decode cX0_runOfPumpToFine 138 = .ok (.aload_n 1, 1) := by decide +kernel
theorem dX0_runOfPumpToFine_139 : decode cX0_runOfPumpToFine 139 = .ok (.getfield 71, 3) := by decide +kernel
theorem dX0_runOfPumpToFine_142 : decode cX0_runOfPumpToFine 142 = .ok (.iload_n 3, 1) := by decide +kernel
theorem dX0_runOfPumpToFine_143 : decode cX0_runOfPumpToFine 143 = .ok (.isub, 1) := by decide +kernel
theorem dX0_runOfPumpToFine_144 : decode cX0_runOfPumpToFine 144 = .ok (.ireturn, 1) := by decide +kernel
theorem dX0_runOfPumpToFine_145 : decode cX0_runOfPumpToFine 145 = .ok (.aload_n 0, 1) := by decide +kernel
theorem dX0_runOfPumpToFine_146 : decode cX0_runOfPumpToFine 146 = .ok (.aload_n 1, 1) := by decide +kernel
theorem dX0_runOfPumpToFine_147 : decode cX0_runOfPumpToFine 147 = .ok (.iconst 5, 1) := by decide +kernel
theorem dX0_runOfPumpToFine_148 : decode cX0_runOfPumpToFine 148 = .ok (.iload_n 3, 1) := by decide +kernel
theorem dX0_runOfPumpToFine_149 : decode cX0_runOfPumpToFine 149 = .ok (.iload 4, 2) := by decide +kernel
theorem dX0_runOfPumpToFine_151 : decode cX0_runOfPumpToFine 151 = .ok (.invokevirtual 61, 3) := by decide +kernel
theorem dX0_runOfPumpToFine_154 : decode cX0_runOfPumpToFine 154 = .ok (.iconst 3, 1) := by decide +kernel
theorem dX0_runOfPumpToFine_155 : decode cX0_runOfPumpToFine 155 = .ok (.imul, 1) := by decide +kernel
theorem dX0_runOfPumpToFine_156 : decode cX0_runOfPumpToFine 156 = .ok (.aload_n 1, 1) := by decide +kernel
theorem dX0_runOfPumpToFine_157 : decode cX0_runOfPumpToFine 157 = .ok (.getfield 68, 3) := by decide +kernel
theorem dX0_runOfPumpToFine_160 : decode cX0_runOfPumpToFine 160 = .ok (.iadd, 1) := by decide +kernel
theorem dX0_runOfPumpToFine_161 : decode cX0_runOfPumpToFine 161 = .ok (.ireturn, 1) := by decide +kernel
theorem dX0_runOfPumpToFine_162 : decode cX0_runOfPumpToFine 162 = .ok (.aload_n 0, 1) := by decide +kernel
theorem dX0_runOfPumpToFine_163 : decode cX0_runOfPumpToFine 163 = .ok (.iconst 3, 1) := by decide +kernel
theorem dX0_runOfPumpToFine_164 : decode cX0_runOfPumpToFine 164 = .ok (.aload_n 1, 1) := by decide +kernel
theorem dX0_runOfPumpToFine_165 : decode cX0_runOfPumpToFine 165 = .ok (.iconst 0, 1) := by decide +kernel
theorem dX0_runOfPumpToFine_166 : decode cX0_runOfPumpToFine 166 = .ok (.iload_n 3, 1) := by decide +kernel
theorem dX0_runOfPumpToFine_167 : decode cX0_runOfPumpToFine 167 = .ok (.iload 4, 2) := by decide +kernel
theorem dX0_runOfPumpToFine_169 : decode cX0_runOfPumpToFine 169 = .ok (.invokevirtual 74, 3) := by decide +kernel
theorem dX0_runOfPumpToFine_172 : decode cX0_runOfPumpToFine 172 = .ok (.iconst 3, 1) := by decide +kernel
theorem dX0_runOfPumpToFine_173 : decode cX0_runOfPumpToFine 173 = .ok (.imul, 1) := by decide +kernel
theorem dX0_runOfPumpToFine_174 : decode cX0_runOfPumpToFine 174 = .ok (.ireturn, 1) := by decide +kernel
theorem dX0_runOfPumpToFine_175 : decode cX0_runOfPumpToFine 175 = .ok (.aload_n 0, 1) := by decide +kernel
theorem dX0_runOfPumpToFine_176 : decode cX0_runOfPumpToFine 176 = .ok (.iconst 3, 1) := by decide +kernel
theorem dX0_runOfPumpToFine_177 : decode cX0_runOfPumpToFine 177 = .ok (.aload_n 1, 1) := by decide +kernel
theorem dX0_runOfPumpToFine_178 : decode cX0_runOfPumpToFine 178 = .ok (.iconst 1, 1) := by decide +kernel
theorem dX0_runOfPumpToFine_179 : decode cX0_runOfPumpToFine 179 = .ok (.iload_n 3, 1) := by decide +kernel
theorem dX0_runOfPumpToFine_180 : decode cX0_runOfPumpToFine 180 = .ok (.iconst 1, 1) := by decide +kernel
theorem dX0_runOfPumpToFine_181 : decode cX0_runOfPumpToFine 181 = .ok (.iadd, 1) := by decide +kernel
theorem dX0_runOfPumpToFine_182 : decode cX0_runOfPumpToFine 182 = .ok (.iload 4, 2) := by decide +kernel
theorem dX0_runOfPumpToFine_184 : decode cX0_runOfPumpToFine 184 = .ok (.invokevirtual 74, 3) := by decide +kernel
theorem dX0_runOfPumpToFine_187 : decode cX0_runOfPumpToFine 187 = .ok (.iconst 5, 1) := by decide +kernel
theorem dX0_runOfPumpToFine_188 : decode cX0_runOfPumpToFine 188 = .ok (.iadd, 1) := by decide +kernel
theorem dX0_runOfPumpToFine_189 : decode cX0_runOfPumpToFine 189 = .ok (.ireturn, 1) := by decide +kernel
theorem dX0_runOfPumpToFine_190 : decode cX0_runOfPumpToFine 190 = .ok (.iconst 0, 1) := by decide +kernel
theorem dX0_runOfPumpToFine_191 : decode cX0_runOfPumpToFine 191 = .ok (.ireturn, 1) := by decide +kernel
theorem dX0_runOfRelayToMute_0 : decode cX0_runOfRelayToMute 0 = .ok (.iload_n 2, 1) := by decide +kernel
theorem dX0_runOfRelayToMute_1 : decode cX0_runOfRelayToMute 1 = .ok (.tableswitch 257 140 163 #[111, 118, 141, 257, 257, 257, 257, 257, 257, 257, 157, 172, 194, 257, 257, 257, 257, 257, 257, 257, 208, 210, 227, 232], 111) := by decide +kernel
theorem dX0_runOfRelayToMute_112 : decode cX0_runOfRelayToMute 112 = .ok (.aload_n 1, 1) := by decide +kernel
theorem dX0_runOfRelayToMute_113 : decode cX0_runOfRelayToMute 113 = .ok (.getfield 68, 3) := by decide +kernel
theorem dX0_runOfRelayToMute_116 : decode cX0_runOfRelayToMute 116 = .ok (.iload_n 3, 1) := by decide +kernel
theorem dX0_runOfRelayToMute_117 : decode cX0_runOfRelayToMute 117 = .ok (.isub, 1) := by decide +kernel
theorem dX0_runOfRelayToMute_118 : decode cX0_runOfRelayToMute 118 = .ok (.ireturn, 1) := by decide +kernel
theorem dX0_runOfRelayToMute_119 : decode cX0_runOfRelayToMute 119 = .ok (.aload_n 0, 1) := by decide +kernel
theorem dX0_runOfRelayToMute_120 : decode cX0_runOfRelayToMute 120 = .ok (.iconst 4, 1) := by decide +kernel
theorem dX0_runOfRelayToMute_121 : decode cX0_runOfRelayToMute 121 = .ok (.aload_n 1, 1) := by decide +kernel
theorem dX0_runOfRelayToMute_122 : decode cX0_runOfRelayToMute 122 = .ok (.iconst 2, 1) := by decide +kernel
theorem dX0_runOfRelayToMute_123 : decode cX0_runOfRelayToMute 123 = .ok (.iload_n 3, 1) := by decide +kernel
theorem dX0_runOfRelayToMute_124 : decode cX0_runOfRelayToMute 124 = .ok (.iload 4, 2) := by decide +kernel
theorem dX0_runOfRelayToMute_126 : decode cX0_runOfRelayToMute 126 = .ok (.invokevirtual 74, 3) := by decide +kernel
theorem dX0_runOfRelayToMute_129 : decode cX0_runOfRelayToMute 129 = .ok (.aload_n 0, 1) := by decide +kernel
theorem dX0_runOfRelayToMute_130 : decode cX0_runOfRelayToMute 130 = .ok (.bipush 13, 2) := by decide +kernel
theorem dX0_runOfRelayToMute_132 : decode cX0_runOfRelayToMute 132 = .ok (.aload_n 1, 1) := by decide +kernel
theorem dX0_runOfRelayToMute_133 : decode cX0_runOfRelayToMute 133 = .ok (.iconst 2, 1) := by decide +kernel
theorem dX0_runOfRelayToMute_134 : decode cX0_runOfRelayToMute 134 = .ok (.iconst 1, 1) := by decide +kernel
theorem dX0_runOfRelayToMute_135 : decode cX0_runOfRelayToMute 135 = .ok (.iload 4, 2) := by decide +kernel
theorem dX0_runOfRelayToMute_137 : decode cX0_runOfRelayToMute 137 = .ok (.invokevirtual 64, 3) := by decide +kernel
theorem dX0_runOfRelayToMute_140 : decode cX0_runOfRelayToMute 140 = .ok (.isub, 1) := by decide +kernel
theorem dX0_runOfRelayToMute_141 : decode cX0_runOfRelayToMute 141 = .ok (.ireturn, 1) := by decide +kernel
theorem dX0_runOfRelayToMute_142 : decode cX0_runOfRelayToMute 142 = .ok (.aload_n 0, 1) := by decide +kernel
theorem dX0_runOfRelayToMute_143 : decode cX0_runOfRelayToMute 143 = .ok (.iconst 4, 1) := by decide +kernel
theorem dX0_runOfRelayToMute_144 : decode cX0_runOfRelayToMute 144 = .ok (.aload_n 1, 1) := by decide +kernel
theorem dX0_runOfRelayToMute_145 : decode cX0_runOfRelayToMute 145 = .ok (.bipush 10, 2) := by decide +kernel
theorem dX0_runOfRelayToMute_147 : decode cX0_runOfRelayToMute 147 = .ok (.iload_n 3, 1) := by decide +kernel
theorem dX0_runOfRelayToMute_148 : decode cX0_runOfRelayToMute 148 = .ok (.iconst 1, 1) := by decide +kernel
theorem dX0_runOfRelayToMute_149 : decode cX0_runOfRelayToMute 149 = .ok (.iadd, 1) := by decide +kernel
theorem dX0_runOfRelayToMute_150 : decode cX0_runOfRelayToMute 150 = .ok (.iload 4, 2) := by decide +kernel
theorem dX0_runOfRelayToMute_152 : decode cX0_runOfRelayToMute 152 = .ok (.invokevirtual 74, 3) := by decide +kernel
theorem dX0_runOfRelayToMute_155 : decode cX0_runOfRelayToMute 155 = .ok (.iconst 4, 1) := by decide +kernel
theorem dX0_runOfRelayToMute_156 : decode cX0_runOfRelayToMute 156 = .ok (.iadd, 1) := by decide +kernel
theorem dX0_runOfRelayToMute_157 : decode cX0_runOfRelayToMute 157 = .ok (.ireturn, 1) := by decide +kernel
theorem dX0_runOfRelayToMute_158 : decode cX0_runOfRelayToMute 158 = .ok (.aload_n 0, 1) := by decide +kernel
theorem dX0_runOfRelayToMute_159 : decode cX0_runOfRelayToMute 159 = .ok (.aload_n 1, 1) := by decide +kernel
theorem dX0_runOfRelayToMute_160 : decode cX0_runOfRelayToMute 160 = .ok (.iconst 5, 1) := by decide +kernel
theorem dX0_runOfRelayToMute_161 : decode cX0_runOfRelayToMute 161 = .ok (.iload_n 3, 1) := by decide +kernel
theorem dX0_runOfRelayToMute_162 : decode cX0_runOfRelayToMute 162 = .ok (.iload 4, 2) := by decide +kernel
theorem dX0_runOfRelayToMute_164 : decode cX0_runOfRelayToMute 164 = .ok (.invokevirtual 61, 3) := by decide +kernel
theorem dX0_runOfRelayToMute_167 : decode cX0_runOfRelayToMute 167 = .ok (.aload_n 1, 1) := by decide +kernel
theorem dX0_runOfRelayToMute_168 : decode cX0_runOfRelayToMute 168 = .ok (.getfield 68, 3) := by decide +kernel
theorem dX0_runOfRelayToMute_171 : decode cX0_runOfRelayToMute 171 = .ok (.iadd, 1) := by decide +kernel
theorem dX0_runOfRelayToMute_172 : decode cX0_runOfRelayToMute 172 = .ok (.ireturn, 1) := by decide +kernel
theorem dX0_runOfRelayToMute_173 : decode cX0_runOfRelayToMute 173 = .ok (.aload_n 0, 1) := by decide +kernel
theorem dX0_runOfRelayToMute_174 : decode cX0_runOfRelayToMute 174 = .ok (.iconst 5, 1) := by decide +kernel
theorem dX0_runOfRelayToMute_175 : decode cX0_runOfRelayToMute 175 = .ok (.aload_n 1, 1) := by decide +kernel
theorem dX0_runOfRelayToMute_176 : decode cX0_runOfRelayToMute 176 = .ok (.bipush 9, 2) := by decide +kernel
theorem dX0_runOfRelayToMute_178 : decode cX0_runOfRelayToMute 178 = .ok (.iload_n 3, 1) := by decide +kernel
theorem dX0_runOfRelayToMute_179 : decode cX0_runOfRelayToMute 179 = .ok (.iload 4, 2) := by decide +kernel
theorem dX0_runOfRelayToMute_181 : decode cX0_runOfRelayToMute 181 = .ok (.invokevirtual 74, 3) := by decide +kernel
theorem dX0_runOfRelayToMute_184 : decode cX0_runOfRelayToMute 184 = .ok (.aload_n 0, 1) := by decide +kernel
theorem dX0_runOfRelayToMute_185 : decode cX0_runOfRelayToMute 185 = .ok (.aload_n 1, 1) := by decide +kernel
theorem dX0_runOfRelayToMute_186 : decode cX0_runOfRelayToMute 186 = .ok (.iconst 2, 1) := by decide +kernel
theorem dX0_runOfRelayToMute_187 : decode cX0_runOfRelayToMute 187 = .ok (.iconst 0, 1) := by decide +kernel
theorem dX0_runOfRelayToMute_188 : decode cX0_runOfRelayToMute 188 = .ok (.iload 4, 2) := by decide +kernel
theorem dX0_runOfRelayToMute_190 : decode cX0_runOfRelayToMute 190 = .ok (.invokevirtual 61, 3) := by decide +kernel
theorem dX0_runOfRelayToMute_193 : decode cX0_runOfRelayToMute 193 = .ok (.ixor, 1) := by decide +kernel
theorem dX0_runOfRelayToMute_194 : decode cX0_runOfRelayToMute 194 = .ok (.ireturn, 1) := by decide +kernel
theorem dX0_runOfRelayToMute_195 : decode cX0_runOfRelayToMute 195 = .ok (.aload_n 0, 1) := by decide +kernel
theorem dX0_runOfRelayToMute_196 : decode cX0_runOfRelayToMute 196 = .ok (.bipush 15, 2) := by decide +kernel
theorem dX0_runOfRelayToMute_198 : decode cX0_runOfRelayToMute 198 = .ok (.aload_n 1, 1) := by decide +kernel
theorem dX0_runOfRelayToMute_199 : decode cX0_runOfRelayToMute 199 = .ok (.iconst 4, 1) := by decide +kernel
theorem dX0_runOfRelayToMute_200 : decode cX0_runOfRelayToMute 200 = .ok (.iload_n 3, 1) := by decide +kernel
theorem dX0_runOfRelayToMute_201 : decode cX0_runOfRelayToMute 201 = .ok (.iload 4, 2) := by decide +kernel
theorem dX0_runOfRelayToMute_203 : decode cX0_runOfRelayToMute 203 = .ok (.invokevirtual 64, 3) := by decide +kernel
theorem dX0_runOfRelayToMute_206 : decode cX0_runOfRelayToMute 206 = .ok (.iconst 1, 1) := by decide +kernel
theorem dX0_runOfRelayToMute_207 : decode cX0_runOfRelayToMute 207 = .ok (.iadd, 1) := by decide +kernel
theorem dX0_runOfRelayToMute_208 : decode cX0_runOfRelayToMute 208 = .ok (.ireturn, 1) := by decide +kernel
theorem dX0_runOfRelayToMute_209 : decode cX0_runOfRelayToMute 209 = .ok (.iload_n 3, 1) := by decide +kernel
theorem dX0_runOfRelayToMute_210 : decode cX0_runOfRelayToMute 210 = .ok (.ireturn, 1) := by decide +kernel
theorem dX0_runOfRelayToMute_211 : decode cX0_runOfRelayToMute 211 = .ok (.aload_n 0, 1) := by decide +kernel
theorem dX0_runOfRelayToMute_212 : decode cX0_runOfRelayToMute 212 = .ok (.bipush 17, 2) := by decide +kernel
theorem dX0_runOfRelayToMute_214 : decode cX0_runOfRelayToMute 214 = .ok (.aload_n 1, 1) := by decide +kernel
theorem dX0_runOfRelayToMute_215 : decode cX0_runOfRelayToMute 215 = .ok (.bipush 8, 2) := by decide +kernel
theorem dX0_runOfRelayToMute_217 : decode cX0_runOfRelayToMute 217 = .ok (.iload_n 3, 1) := by decide +kernel
theorem dX0_runOfRelayToMute_218 : decode cX0_runOfRelayToMute 218 = .ok (.iload 4, 2) := by decide +kernel
theorem dX0_runOfRelayToMute_220 : decode cX0_runOfRelayToMute 220 = .ok (.invokevirtual 64, 3) := by decide +kernel
theorem dX0_runOfRelayToMute_223 : decode cX0_runOfRelayToMute 223 = .ok (.sipush 255, 3) := by decide +kernel
theorem dX0_runOfRelayToMute_226 : decode cX0_runOfRelayToMute 226 = .ok (.iand, 1) := by decide +kernel
theorem dX0_runOfRelayToMute_227 : decode cX0_runOfRelayToMute 227 = .ok (.ireturn, 1) := by decide +kernel
theorem dX0_runOfRelayToMute_228 : decode cX0_runOfRelayToMute 228 = .ok (.iload_n 3, 1) := by decide +kernel
theorem dX0_runOfRelayToMute_229 : decode cX0_runOfRelayToMute 229 = .ok (.bipush 99, 2) := by decide +kernel
theorem dX0_runOfRelayToMute_231 : decode cX0_runOfRelayToMute 231 = .ok (.iadd, 1) := by decide +kernel
theorem dX0_runOfRelayToMute_232 : decode cX0_runOfRelayToMute 232 = .ok (.ireturn, 1) := by decide +kernel
theorem dX0_runOfRelayToMute_233 : decode cX0_runOfRelayToMute 233 = .ok (.aload_n 0, 1) := by decide +kernel
theorem dX0_runOfRelayToMute_234 : decode cX0_runOfRelayToMute 234 = .ok (.aload_n 1, 1) := by decide +kernel
theorem dX0_runOfRelayToMute_235 : decode cX0_runOfRelayToMute 235 = .ok (.sipush 162, 3) := by decide +kernel
theorem dX0_runOfRelayToMute_238 : decode cX0_runOfRelayToMute 238 = .ok (.iload_n 3, 1) := by decide +kernel
theorem dX0_runOfRelayToMute_239 : decode cX0_runOfRelayToMute 239 = .ok (.iload 4, 2) := by decide +kernel
theorem dX0_runOfRelayToMute_241 : decode cX0_runOfRelayToMute 241 = .ok (.invokevirtual 34, 3) := by decide +kernel
theorem dX0_runOfRelayToMute_244 : decode cX0_runOfRelayToMute 244 = .ok (.aload_n 0, 1) := by decide +kernel
theorem dX0_runOfRelayToMute_245 : decode cX0_runOfRelayToMute 245 = .ok (.bipush 6, 2) := by decide +kernel
theorem dX0_runOfRelayToMute_247 : decode cX0_runOfRelayToMute 247 = .ok (.aload_n 1, 1) := by decide +kernel
theorem dX0_runOfRelayToMute_248 : decode cX0_runOfRelayToMute 248 = .ok (.bipush 9, 2) := by decide +kernel
theorem dX0_runOfRelayToMute_250 : decode cX0_runOfRelayToMute 250 = .ok (.iconst 1, 1) := by decide +kernel
theorem dX0_runOfRelayToMute_251 : decode cX0_runOfRelayToMute 251 = .ok (.iload 4, 2) := by decide +kernel
theorem dX0_runOfRelayToMute_253 : decode cX0_runOfRelayToMute 253 = .ok (.invokevirtual 74, 3) := by decide +kernel
theorem dX0_runOfRelayToMute_256 : decode cX0_runOfRelayToMute 256 = .ok (.iadd, 1) := by decide +kernel
theorem dX0_runOfRelayToMute_257 : decode cX0_runOfRelayToMute 257 = .ok (.ireturn, 1) := by decide +kernel
theorem dX0_runOfRelayToMute_258 : decode cX0_runOfRelayToMute 258 = .ok (.iconst 0, 1) := by decide +kernel
theorem dX0_runOfRelayToMute_259 : decode cX0_runOfRelayToMute 259 = .ok (.ireturn, 1) := by decide +kernel
theorem dX0_runOfBoostToLedger_0 : decode cX0_runOfBoostToLedger 0 = .ok (.iload_n 2, 1) := by decide +kernel
theorem dX0_runOfBoostToLedger_1 : decode cX0_runOfBoostToLedger 1 = .ok (.tableswitch 235 180 204 #[115, 130, 235, 235, 235, 235, 235, 235, 235, 235, 152, 235, 235, 235, 235, 235, 235, 235, 235, 235, 165, 172, 197, 235, 221], 115) := by decide +kernel
theorem dX0_runOfBoostToLedger_116 : decode cX0_runOfBoostToLedger 116 = .ok (.aload_n 0, 1) := by decide +kernel
theorem dX0_runOfBoostToLedger_117 : decode cX0_runOfBoostToLedger 117 = .ok (.bipush 8, 2) := by decide +kernel
theorem dX0_runOfBoostToLedger_119 : decode cX0_runOfBoostToLedger 119 = .ok (.aload_n 1, 1) := by decide +kernel
theorem dX0_runOfBoostToLedger_120 : decode cX0_runOfBoostToLedger 120 = .ok (.bipush 9, 2) := by decide +kernel
theorem dX0_runOfBoostToLedger_122 : decode cX0_runOfBoostToLedger 122 = .ok (.iload_n 3, 1) := by decide +kernel
theorem dX0_runOfBoostToLedger_123 : decode cX0_runOfBoostToLedger 123 = .ok (.iload 4, 2) := by decide +kernel
theorem dX0_runOfBoostToLedger_125 : decode cX0_runOfBoostToLedger 125 = .ok (.invokevirtual 74, 3) := by decide +kernel
theorem dX0_runOfBoostToLedger_128 : decode cX0_runOfBoostToLedger 128 = .ok (.iconst 1, 1) := by decide +kernel
theorem dX0_runOfBoostToLedger_129 : decode cX0_runOfBoostToLedger 129 = .ok (.isub, 1) := by decide +kernel
theorem dX0_runOfBoostToLedger_130 : decode cX0_runOfBoostToLedger 130 = .ok (.ireturn, 1) := by decide +kernel
theorem dX0_runOfBoostToLedger_131 : decode cX0_runOfBoostToLedger 131 = .ok (.aload_n 0, 1) := by decide +kernel
theorem dX0_runOfBoostToLedger_132 : decode cX0_runOfBoostToLedger 132 = .ok (.bipush 8, 2) := by decide +kernel
theorem dX0_runOfBoostToLedger_134 : decode cX0_runOfBoostToLedger 134 = .ok (.aload_n 1, 1) := by decide +kernel
theorem dX0_runOfBoostToLedger_135 : decode cX0_runOfBoostToLedger 135 = .ok (.iconst 2, 1) := by decide +kernel
theorem dX0_runOfBoostToLedger_136 : decode cX0_runOfBoostToLedger 136 = .ok (.iload_n 3, 1) := by decide +kernel
theorem dX0_runOfBoostToLedger_137 : decode cX0_runOfBoostToLedger 137 = .ok (.iload 4, 2) := by decide +kernel
theorem dX0_runOfBoostToLedger_139 : decode cX0_runOfBoostToLedger 139 = .ok (.invokevirtual 74, 3) := by decide +kernel
theorem dX0_runOfBoostToLedger_142 : decode cX0_runOfBoostToLedger 142 = .ok (.aload_n 0, 1) := by decide +kernel
theorem dX0_runOfBoostToLedger_143 : decode cX0_runOfBoostToLedger 143 = .ok (.aload_n 1, 1) := by decide +kernel
theorem dX0_runOfBoostToLedger_144 : decode cX0_runOfBoostToLedger 144 = .ok (.iconst 1, 1) := by decide +kernel
theorem dX0_runOfBoostToLedger_145 : decode cX0_runOfBoostToLedger 145 = .ok (.iconst 2, 1) := by decide +kernel
theorem dX0_runOfBoostToLedger_146 : decode cX0_runOfBoostToLedger 146 = .ok (.iload 4, 2) := by decide +kernel
theorem dX0_runOfBoostToLedger_148 : decode cX0_runOfBoostToLedger 148 = .ok (.invokevirtual 61, 3) := by decide +kernel
theorem dX0_runOfBoostToLedger_151 : decode cX0_runOfBoostToLedger 151 = .ok (.iadd, 1) := by decide +kernel
theorem dX0_runOfBoostToLedger_152 : decode cX0_runOfBoostToLedger 152 = .ok (.ireturn, 1) := by decide +kernel
theorem dX0_runOfBoostToLedger_153 : decode cX0_runOfBoostToLedger 153 = .ok (.aload_n 0, 1) := by decide +kernel
theorem dX0_runOfBoostToLedger_154 : decode cX0_runOfBoostToLedger 154 = .ok (.aload_n 1, 1) := by decide +kernel
theorem dX0_runOfBoostToLedger_155 : decode cX0_runOfBoostToLedger 155 = .ok (.bipush 10, 2) := by decide +kernel
theorem dX0_runOfBoostToLedger_157 : decode cX0_runOfBoostToLedger 157 = .ok (.iload_n 3, 1) := by decide +kernel
theorem dX0_runOfBoostToLedger_158 : decode cX0_runOfBoostToLedger 158 = .ok (.iload 4, 2) := by decide +kernel
theorem dX0_runOfBoostToLedger_160 : decode cX0_runOfBoostToLedger 160 = .ok (.invokevirtual 61, 3) := by decide +kernel
theorem dX0_runOfBoostToLedger_163 : decode cX0_runOfBoostToLedger 163 = .ok (.iconst 2, 1) := by decide +kernel
theorem dX0_runOfBoostToLedger_164 : decode cX0_runOfBoostToLedger 164 = .ok (.imul, 1) := by decide +kernel
theorem dX0_runOfBoostToLedger_165 : decode cX0_runOfBoostToLedger 165 = .ok (.ireturn, 1) := by decide +kernel
theorem dX0_runOfBoostToLedger_166 : decode cX0_runOfBoostToLedger 166 = .ok (.aload_n 1, 1) := by decide +kernel
theorem dX0_runOfBoostToLedger_167 : decode cX0_runOfBoostToLedger 167 = .ok (.getfield 71, 3) := by decide +kernel
theorem dX0_runOfBoostToLedger_170 : decode cX0_runOfBoostToLedger 170 = .ok (.iload_n 3, 1) := by decide +kernel
theorem dX0_runOfBoostToLedger_171 : decode cX0_runOfBoostToLedger 171 = .ok (.iadd, 1) := by decide +kernel
theorem dX0_runOfBoostToLedger_172 : decode cX0_runOfBoostToLedger 172 = .ok (.ireturn, 1) := by decide +kernel
theorem dX0_runOfBoostToLedger_173 : decode cX0_runOfBoostToLedger 173 = .ok (.aload_n 0, 1) := by decide +kernel
theorem dX0_runOfBoostToLedger_174 : decode cX0_runOfBoostToLedger 174 = .ok (.bipush 17, 2) := by decide +kernel
theorem dX0_runOfBoostToLedger_176 : decode cX0_runOfBoostToLedger 176 = .ok (.aload_n 1, 1) := by decide +kernel
theorem dX0_runOfBoostToLedger_177 : decode cX0_runOfBoostToLedger 177 = .ok (.bipush 7, 2) := by decide +kernel
theorem dX0_runOfBoostToLedger_179 : decode cX0_runOfBoostToLedger 179 = .ok (.iload_n 3, 1) := by decide +kernel
theorem dX0_runOfBoostToLedger_180 : decode cX0_runOfBoostToLedger 180 = .ok (.iload 4, 2) := by decide +kernel
theorem dX0_runOfBoostToLedger_182 : decode cX0_runOfBoostToLedger 182 = .ok (.invokevirtual 64, 3) := by decide +kernel
theorem dX0_runOfBoostToLedger_185 : decode cX0_runOfBoostToLedger 185 = .ok (.aload_n 0, 1) := by decide +kernel
theorem dX0_runOfBoostToLedger_186 : decode cX0_runOfBoostToLedger 186 = .ok (.aload_n 1, 1) := by decide +kernel
theorem dX0_runOfBoostToLedger_187 : decode cX0_runOfBoostToLedger 187 = .ok (.sipush 200, 3) := by decide +kernel
theorem dX0_runOfBoostToLedger_190 : decode cX0_runOfBoostToLedger 190 = .ok (.iload_n 3, 1) := by decide +kernel
theorem dX0_runOfBoostToLedger_191 : decode cX0_runOfBoostToLedger 191 = .ok (.iload 4, 2) := by decide +kernel
theorem dX0_runOfBoostToLedger_193 : decode cX0_runOfBoostToLedger 193 = .ok (.invokevirtual 34, 3) := by decide +kernel
theorem dX0_runOfBoostToLedger_196 : decode cX0_runOfBoostToLedger 196 = .ok (.iadd, 1) := by decide +kernel
theorem dX0_runOfBoostToLedger_197 : decode cX0_runOfBoostToLedger 197 = .ok (.ireturn, 1) := by decide +kernel
theorem dX0_runOfBoostToLedger_198 : decode cX0_runOfBoostToLedger 198 = .ok (.aload_n 0, 1) := by decide +kernel
theorem dX0_runOfBoostToLedger_199 : decode cX0_runOfBoostToLedger 199 = .ok (.bipush 15, 2) := by decide +kernel
theorem dX0_runOfBoostToLedger_201 : decode cX0_runOfBoostToLedger 201 = .ok (.aload_n 1, 1) := by decide +kernel
theorem dX0_runOfBoostToLedger_202 : decode cX0_runOfBoostToLedger 202 = .ok (.iconst 2, 1) := by decide +kernel
theorem dX0_runOfBoostToLedger_203 : decode cX0_runOfBoostToLedger 203 = .ok (.iload_n 3, 1) := by decide +kernel
theorem dX0_runOfBoostToLedger_204 : decode cX0_runOfBoostToLedger 204 = .ok (.iload 4, 2) := by decide +kernel
theorem dX0_runOfBoostToLedger_206 : decode cX0_runOfBoostToLedger 206 = .ok (.invokevirtual 64, 3) := by decide +kernel
theorem dX0_runOfBoostToLedger_209 : decode cX0_runOfBoostToLedger 209 = .ok (.aload_n 0, 1) := by decide +kernel
theorem dX0_runOfBoostToLedger_210 : decode cX0_runOfBoostToLedger 210 = .ok (.bipush 10, 2) := by decide +kernel
theorem dX0_runOfBoostToLedger_212 : decode cX0_runOfBoostToLedger 212 = .ok (.aload_n 1, 1) := by decide +kernel
theorem dX0_runOfBoostToLedger_213 : decode cX0_runOfBoostToLedger 213 = .ok (.iconst 2, 1) := by decide +kernel
theorem dX0_runOfBoostToLedger_214 : decode cX0_runOfBoostToLedger 214 = .ok (.iload_n 3, 1) := by decide +kernel
theorem dX0_runOfBoostToLedger_215 : decode cX0_runOfBoostToLedger 215 = .ok (.iload 4, 2) := by decide +kernel
theorem dX0_runOfBoostToLedger_217 : decode cX0_runOfBoostToLedger 217 = .ok (.invokevirtual 74, 3) := by decide +kernel
theorem dX0_runOfBoostToLedger_220 : decode cX0_runOfBoostToLedger 220 = .ok (.iadd, 1) := by decide +kernel
theorem dX0_runOfBoostToLedger_221 : decode cX0_runOfBoostToLedger 221 = .ok (.ireturn, 1) := by decide +kernel
theorem dX0_runOfBoostToLedger_222 : decode cX0_runOfBoostToLedger 222 = .ok (.aload_n 0, 1) := by decide +kernel
theorem dX0_runOfBoostToLedger_223 : decode cX0_runOfBoostToLedger 223 = .ok (.bipush 10, 2) := by decide +kernel
theorem dX0_runOfBoostToLedger_225 : decode cX0_runOfBoostToLedger 225 = .ok (.aload_n 1, 1) := by decide +kernel
theorem dX0_runOfBoostToLedger_226 : decode cX0_runOfBoostToLedger 226 = .ok (.iconst 5, 1) := by decide +kernel
theorem dX0_runOfBoostToLedger_227 : decode cX0_runOfBoostToLedger 227 = .ok (.iload_n 3, 1) := by decide +kernel
theorem dX0_runOfBoostToLedger_228 : decode cX0_runOfBoostToLedger 228 = .ok (.iload 4, 2) := by decide +kernel
theorem dX0_runOfBoostToLedger_230 : decode cX0_runOfBoostToLedger 230 = .ok (.invokevirtual 74, 3) := by decide +kernel
theorem dX0_runOfBoostToLedger_233 : decode cX0_runOfBoostToLedger 233 = .ok (.iconst 1, 1) := by decide +kernel
theorem dX0_runOfBoostToLedger_234 : decode cX0_runOfBoostToLedger 234 = .ok (.iadd, 1) := by decide +kernel
theorem dX0_runOfBoostToLedger_235 : decode cX0_runOfBoostToLedger 235 = .ok (.ireturn, 1) := by decide +kernel
theorem dX0_runOfBoostToLedger_236 : decode cX0_runOfBoostToLedger 236 = .ok (.iconst 0, 1) := by decide +kernel
theorem dX0_runOfBoostToLedger_237 : decode cX0_runOfBoostToLedger 237 = .ok (.ireturn, 1) := by decide +kernel
theorem dX1_init_0 : decode cX1_init 0 = .ok (.aload_n 0, 1) := by decide +kernel
theorem dX1_init_1 : decode cX1_init 1 = .ok (.invokespecial 1, 3) := by decide +kernel
theorem dX1_init_4 : decode cX1_init 4 = .ok (.aload_n 0, 1) := by decide +kernel
theorem dX1_init_5 : decode cX1_init 5 = .ok (.iload_n 1, 1) := by decide +kernel
theorem dX1_init_6 : decode cX1_init 6 = .ok (.putfield 7, 3) := by decide +kernel
theorem dX1_init_9 : decode cX1_init 9 = .ok (.aload_n 0, 1) := by decide +kernel
theorem dX1_init_10 : decode cX1_init 10 = .ok (.iload_n 2, 1) := by decide +kernel
theorem dX1_init_11 : decode cX1_init 11 = .ok (.putfield 13, 3) := by decide +kernel
theorem dX1_init_14 : decode cX1_init 14 = .ok (.aload_n 0, 1) := by decide +kernel
theorem dX1_init_15 : decode cX1_init 15 = .ok (.iload_n 1, 1) := by decide +kernel
theorem dX1_init_16 : decode cX1_init 16 = .ok (.invokestatic 16, 3) := by decide +kernel
theorem dX1_init_19 : decode cX1_init 19 = .ok (.putfield 22, 3) := by decide +kernel
theorem dX1_init_22 : decode cX1_init 22 = .ok (.aload_n 0, 1) := by decide +kernel
theorem dX1_init_23 : decode cX1_init 23 = .ok (.aload_n 0, 1) := by decide +kernel
theorem dX1_init_24 : decode cX1_init 24 = .ok (.getfield 22, 3) := by decide +kernel
theorem dX1_init_27 : decode cX1_init 27 = .ok (.invokestatic 25, 3) := by decide +kernel
theorem dX1_init_30 : decode cX1_init 30 = .ok (.putfield 28, 3) := by decide +kernel
theorem dX1_init_33 : decode cX1_init 33 = .ok (.return_, 1) := by decide +kernel
theorem dX1_bears_0 : decode cX1_bears 0 = .ok (.aload_n 0, 1) := by decide +kernel
theorem dX1_bears_1 : decode cX1_bears 1 = .ok (.getfield 22, 3) := by decide +kernel
theorem dX1_bears_4 : decode cX1_bears 4 = .ok (.iload_n 1, 1) := by decide +kernel
theorem dX1_bears_5 : decode cX1_bears 5 = .ok (.invokestatic 31, 3) := by decide +kernel
theorem dX1_bears_8 : decode cX1_bears 8 = .ok (.ireturn, 1) := by decide +kernel
theorem dX1_hasAct_0 : decode cX1_hasAct 0 = .ok (.iload_n 2, 1) := by decide +kernel
theorem dX1_hasAct_1 : decode cX1_hasAct 1 = .ok (.ifCond .ne 10, 3) := by decide +kernel
theorem dX1_hasAct_4 : decode cX1_hasAct 4 = .ok (.aload_n 0, 1) := by decide +kernel
theorem dX1_hasAct_5 : decode cX1_hasAct 5 = .ok (.getfield 28, 3) := by decide +kernel
theorem dX1_hasAct_8 : decode cX1_hasAct 8 = .ok (.goto 7, 3) := by decide +kernel
theorem dX1_hasAct_11 : decode cX1_hasAct 11 = .ok (.iload_n 2, 1) := by decide +kernel
theorem dX1_hasAct_12 : decode cX1_hasAct 12 = .ok (.invokestatic 35, 3) := by decide +kernel
theorem dX1_hasAct_15 : decode cX1_hasAct 15 = .ok (.iload_n 1, 1) := by decide +kernel
theorem dX1_hasAct_16 : decode cX1_hasAct 16 = .ok (.invokestatic 31, 3) := by decide +kernel
theorem dX1_hasAct_19 : decode cX1_hasAct 19 = .ok (.ireturn, 1) := by decide +kernel
theorem dX1_actOfTaking_0 : decode cX1_actOfTaking 0 = .ok (.aload_n 0, 1) := by decide +kernel
theorem dX1_actOfTaking_1 : decode cX1_actOfTaking 1 = .ok (.iconst 3, 1) := by decide +kernel
theorem dX1_actOfTaking_2 : decode cX1_actOfTaking 2 = .ok (.invokevirtual 38, 3) := by decide +kernel
theorem dX1_actOfTaking_5 : decode cX1_actOfTaking 5 = .ok (.ifCond .eq 5, 3) := by decide +kernel
theorem dX1_actOfTaking_8 : decode cX1_actOfTaking 8 = .ok (.iconst 4, 1) := by decide +kernel
theorem dX1_actOfTaking_9 : decode cX1_actOfTaking 9 = .ok (.ireturn, 1) := by decide +kernel
theorem dX1_actOfTaking_10 : decode cX1_actOfTaking 10 = .ok (.aload_n 0, 1) := by decide +kernel
theorem dX1_actOfTaking_11 : decode cX1_actOfTaking 11 = .ok (.iconst 2, 1) := by decide +kernel
theorem dX1_actOfTaking_12 : decode cX1_actOfTaking 12 = .ok (.invokevirtual 38, 3) := by decide +kernel
theorem dX1_actOfTaking_15 : decode cX1_actOfTaking 15 = .ok (.ifCond .eq 7, 3) := by decide +kernel
theorem dX1_actOfTaking_18 : decode cX1_actOfTaking 18 = .ok (.iconst 1, 1) := by decide +kernel
theorem dX1_actOfTaking_19 : decode cX1_actOfTaking 19 = .ok (.goto 5, 3) := by decide +kernel
theorem dX1_actOfTaking_22 : decode cX1_actOfTaking 22 = .ok (.bipush 6, 2) := by decide +kernel
theorem dX1_actOfTaking_24 : decode cX1_actOfTaking 24 = .ok (.ireturn, 1) := by decide +kernel
theorem dX1_addLinkTo_0 : decode cX1_addLinkTo 0 = .ok (.new 42, 3) := by decide +kernel
theorem dX1_addLinkTo_3 : decode cX1_addLinkTo 3 = .ok (.dup, 1) := by decide +kernel
theorem dX1_addLinkTo_4 : decode cX1_addLinkTo 4 = .ok (.aload_n 1, 1) := by decide +kernel
theorem dX1_addLinkTo_5 : decode cX1_addLinkTo 5 = .ok (.invokespecial 44, 3) := by decide +kernel
theorem dX1_addLinkTo_8 : decode cX1_addLinkTo 8 = .ok (.astore_n 2, 1) := by decide +kernel
theorem dX1_addLinkTo_9 : decode cX1_addLinkTo 9 = .ok (.aload_n 0, 1) := by decide +kernel
theorem dX1_addLinkTo_10 : decode cX1_addLinkTo 10 = .ok (.getfield 47, 3) := by decide +kernel
theorem dX1_addLinkTo_13 : decode cX1_addLinkTo 13 = .ok (.ifnonnull 11, 3) := by decide +kernel
theorem dX1_addLinkTo_16 : decode cX1_addLinkTo 16 = .ok (.aload_n 0, 1) := by decide +kernel
theorem dX1_addLinkTo_17 : decode cX1_addLinkTo 17 = .ok (.aload_n 2, 1) := by decide +kernel
theorem dX1_addLinkTo_18 : decode cX1_addLinkTo 18 = .ok (.putfield 51, 3) := by decide +kernel
theorem dX1_addLinkTo_21 : decode cX1_addLinkTo 21 = .ok (.goto 11, 3) := by decide +kernel
theorem dX1_addLinkTo_24 : decode cX1_addLinkTo 24 = .ok (.aload_n 0, 1) := by decide +kernel
theorem dX1_addLinkTo_25 : decode cX1_addLinkTo 25 = .ok (.getfield 47, 3) := by decide +kernel
theorem dX1_addLinkTo_28 : decode cX1_addLinkTo 28 = .ok (.aload_n 2, 1) := by decide +kernel
theorem dX1_addLinkTo_29 : decode cX1_addLinkTo 29 = .ok (.putfield 54, 3) := by decide +kernel
theorem dX1_addLinkTo_32 : decode cX1_addLinkTo 32 = .ok (.aload_n 0, 1) := by decide +kernel
theorem dX1_addLinkTo_33 : decode cX1_addLinkTo 33 = .ok (.aload_n 2, 1) := by decide +kernel
theorem dX1_addLinkTo_34 : decode cX1_addLinkTo 34 = .ok (.putfield 47, 3) := by decide +kernel
theorem dX1_addLinkTo_37 : decode cX1_addLinkTo 37 = .ok (.aload_n 0, 1) := by decide +kernel
theorem dX1_addLinkTo_38 : decode cX1_addLinkTo 38 = .ok (.dup, 1) := by decide +kernel
theorem dX1_addLinkTo_39 : decode cX1_addLinkTo 39 = .ok (.getfield 57, 3) := by decide +kernel
theorem dX1_addLinkTo_42 : decode cX1_addLinkTo 42 = .ok (.iconst 1, 1) := by decide +kernel
theorem dX1_addLinkTo_43 : decode cX1_addLinkTo 43 = .ok (.iadd, 1) := by decide +kernel
theorem dX1_addLinkTo_44 : decode cX1_addLinkTo 44 = .ok (.putfield 57, 3) := by decide +kernel
theorem dX1_addLinkTo_47 : decode cX1_addLinkTo 47 = .ok (.aload_n 1, 1) := by decide +kernel
theorem dX1_addLinkTo_48 : decode cX1_addLinkTo 48 = .ok (.dup, 1) := by decide +kernel
theorem dX1_addLinkTo_49 : decode cX1_addLinkTo 49 = .ok (.getfield 60, 3) := by decide +kernel
theorem dX1_addLinkTo_52 : decode cX1_addLinkTo 52 = .ok (.iconst 1, 1) := by decide +kernel
theorem dX1_addLinkTo_53 : decode cX1_addLinkTo 53 = .ok (.iadd, 1) := by decide +kernel
theorem dX1_addLinkTo_54 : decode cX1_addLinkTo 54 = .ok (.putfield 60, 3) := by decide +kernel
theorem dX1_addLinkTo_57 : decode cX1_addLinkTo 57 = .ok (.return_, 1) := by decide +kernel
theorem dX1_isProperty_0 : decode cX1_isProperty 0 = .ok (.iload_n 0, 1) := by decide +kernel
theorem dX1_isProperty_1 : decode cX1_isProperty 1 = .ok (.ifCond .lt 12, 3) := by decide +kernel
theorem dX1_isProperty_4 : decode cX1_isProperty 4 = .ok (.iload_n 0, 1) := by decide +kernel
theorem dX1_isProperty_5 : decode cX1_isProperty 5 = .ok (.iconst 5, 1) := by decide +kernel
theorem dX1_isProperty_6 : decode cX1_isProperty 6 = .ok (.if_icmp .gt 7, 3) := by decide +kernel
theorem dX1_isProperty_9 : decode cX1_isProperty 9 = .ok (.iconst 1, 1) := by decide +kernel
theorem dX1_isProperty_10 : decode cX1_isProperty 10 = .ok (.goto 4, 3) := by decide +kernel
theorem dX1_isProperty_13 : decode cX1_isProperty 13 = .ok (.iconst 0, 1) := by decide +kernel
theorem dX1_isProperty_14 : decode cX1_isProperty 14 = .ok (.ireturn, 1) := by decide +kernel
theorem dX1_property_0 : decode cX1_property 0 = .ok (.iload_n 1, 1) := by decide +kernel
theorem dX1_property_1 : decode cX1_property 1 = .ok (.tableswitch 69 0 5 #[39, 44, 49, 54, 59, 64], 39) := by decide +kernel
theorem dX1_property_40 : decode cX1_property 40 = .ok (.aload_n 0, 1) := by decide +kernel
theorem dX1_property_41 : decode cX1_property 41 = .ok (.getfield 7, 3) := by decide +kernel
theorem dX1_property_44 : decode cX1_property 44 = .ok (.ireturn, 1) := by decide +kernel
theorem dX1_property_45 : decode cX1_property 45 = .ok (.aload_n 0, 1) := by decide +kernel
theorem dX1_property_46 : decode cX1_property 46 = .ok (.getfield 13, 3) := by decide +kernel
theorem dX1_property_49 : decode cX1_property 49 = .ok (.ireturn, 1) := by decide +kernel
theorem dX1_property_50 : decode cX1_property 50 = .ok (.aload_n 0, 1) := by decide +kernel
theorem dX1_property_51 : decode cX1_property 51 = .ok (.getfield 63, 3) := by decide +kernel
theorem dX1_property_54 : decode cX1_property 54 = .ok (.ireturn, 1) := by decide +kernel
theorem dX1_property_55 : decode cX1_property 55 = .ok (.aload_n 0, 1) := by decide +kernel
theorem dX1_property_56 : decode cX1_property 56 = .ok (.getfield 57, 3) := by decide +kernel
theorem dX1_property_59 : decode cX1_property 59 = .ok (.ireturn, 1) := by decide +kernel
theorem dX1_property_60 : decode cX1_property 60 = .ok (.aload_n 0, 1) := by decide +kernel
theorem dX1_property_61 : decode cX1_property 61 = .ok (.getfield 60, 3) := by decide +kernel
theorem dX1_property_64 : decode cX1_property 64 = .ok (.ireturn, 1) := by decide +kernel
theorem dX1_property_65 : decode cX1_property 65 = .ok (.aload_n 0, 1) := by decide +kernel
theorem dX1_property_66 : decode cX1_property 66 = .ok (.getfield 66, 3) := by decide +kernel
theorem dX1_property_69 : decode cX1_property 69 = .ok (.ireturn, 1) := by decide +kernel
theorem dX1_property_70 : decode cX1_property 70 = .ok (.iconst 0, 1) := by decide +kernel
theorem dX1_property_71 : decode cX1_property 71 = .ok (.ireturn, 1) := by decide +kernel
theorem dX2_isKind_0 : decode cX2_isKind 0 = .ok (.iload_n 0, 1) := by decide +kernel
theorem dX2_isKind_1 : decode cX2_isKind 1 = .ok (.ifCond .lt 13, 3) := by decide +kernel
theorem dX2_isKind_4 : decode cX2_isKind 4 = .ok (.iload_n 0, 1) := by decide +kernel
theorem dX2_isKind_5 : decode cX2_isKind 5 = .ok (.bipush 11, 2) := by decide +kernel
theorem dX2_isKind_7 : decode cX2_isKind 7 = .ok (.if_icmp .ge 7, 3) := by decide +kernel
theorem dX2_isKind_10 : decode cX2_isKind 10 = .ok (.iconst 1, 1) := by decide +kernel
theorem dX2_isKind_11 : decode cX2_isKind 11 = .ok (.goto 4, 3) := by decide +kernel
theorem dX2_isKind_14 : decode cX2_isKind 14 = .ok (.iconst 0, 1) := by decide +kernel
theorem dX2_isKind_15 : decode cX2_isKind 15 = .ok (.ireturn, 1) := by decide +kernel
theorem dX2_isAct_0 : decode cX2_isAct 0 = .ok (.iload_n 0, 1) := by decide +kernel
theorem dX2_isAct_1 : decode cX2_isAct 1 = .ok (.ifCond .lt 13, 3) := by decide +kernel
theorem dX2_isAct_4 : decode cX2_isAct 4 = .ok (.iload_n 0, 1) := by decide +kernel
theorem dX2_isAct_5 : decode cX2_isAct 5 = .ok (.bipush 12, 2) := by decide +kernel
theorem dX2_isAct_7 : decode cX2_isAct 7 = .ok (.if_icmp .ge 7, 3) := by decide +kernel
theorem dX2_isAct_10 : decode cX2_isAct 10 = .ok (.iconst 1, 1) := by decide +kernel
theorem dX2_isAct_11 : decode cX2_isAct 11 = .ok (.goto 4, 3) := by decide +kernel
theorem dX2_isAct_14 : decode cX2_isAct 14 = .ok (.iconst 0, 1) := by decide +kernel
theorem dX2_isAct_15 : decode cX2_isAct 15 = .ok (.ireturn, 1) := by decide +kernel
theorem dX2_isWay_0 : decode cX2_isWay 0 = .ok (.iload_n 0, 1) := by decide +kernel
theorem dX2_isWay_1 : decode cX2_isWay 1 = .ok (.ifCond .lt 13, 3) := by decide +kernel
theorem dX2_isWay_4 : decode cX2_isWay 4 = .ok (.iload_n 0, 1) := by decide +kernel
theorem dX2_isWay_5 : decode cX2_isWay 5 = .ok (.bipush 7, 2) := by decide +kernel
theorem dX2_isWay_7 : decode cX2_isWay 7 = .ok (.if_icmp .ge 7, 3) := by decide +kernel
theorem dX2_isWay_10 : decode cX2_isWay 10 = .ok (.iconst 1, 1) := by decide +kernel
theorem dX2_isWay_11 : decode cX2_isWay 11 = .ok (.goto 4, 3) := by decide +kernel
theorem dX2_isWay_14 : decode cX2_isWay 14 = .ok (.iconst 0, 1) := by decide +kernel
theorem dX2_isWay_15 : decode cX2_isWay 15 = .ok (.ireturn, 1) := by decide +kernel
theorem dX2_isType_0 : decode cX2_isType 0 = .ok (.iload_n 0, 1) := by decide +kernel
theorem dX2_isType_1 : decode cX2_isType 1 = .ok (.ifCond .lt 13, 3) := by decide +kernel
theorem dX2_isType_4 : decode cX2_isType 4 = .ok (.iload_n 0, 1) := by decide +kernel
theorem dX2_isType_5 : decode cX2_isType 5 = .ok (.bipush 18, 2) := by decide +kernel
theorem dX2_isType_7 : decode cX2_isType 7 = .ok (.if_icmp .ge 7, 3) := by decide +kernel
theorem dX2_isType_10 : decode cX2_isType 10 = .ok (.iconst 1, 1) := by decide +kernel
theorem dX2_isType_11 : decode cX2_isType 11 = .ok (.goto 4, 3) := by decide +kernel
theorem dX2_isType_14 : decode cX2_isType 14 = .ok (.iconst 0, 1) := by decide +kernel
theorem dX2_isType_15 : decode cX2_isType 15 = .ok (.ireturn, 1) := by decide +kernel
theorem dX2_contains_0 : decode cX2_contains 0 = .ok (.iload_n 0, 1) := by decide +kernel
theorem dX2_contains_1 : decode cX2_contains 1 = .ok (.iconst 1, 1) := by decide +kernel
theorem dX2_contains_2 : decode cX2_contains 2 = .ok (.iload_n 1, 1) := by decide +kernel
theorem dX2_contains_3 : decode cX2_contains 3 = .ok (.ishl, 1) := by decide +kernel
theorem dX2_contains_4 : decode cX2_contains 4 = .ok (.iand, 1) := by decide +kernel
theorem dX2_contains_5 : decode cX2_contains 5 = .ok (.ifCond .eq 7, 3) := by decide +kernel
theorem dX2_contains_8 : decode cX2_contains 8 = .ok (.iconst 1, 1) := by decide +kernel
theorem dX2_contains_9 : decode cX2_contains 9 = .ok (.goto 4, 3) := by decide +kernel
theorem dX2_contains_12 : decode cX2_contains 12 = .ok (.iconst 0, 1) := by decide +kernel
theorem dX2_contains_13 : decode cX2_contains 13 = .ok (.ireturn, 1) := by decide +kernel
theorem dX2_parentOf_0 : decode cX2_parentOf 0 = .ok (.iload_n 0, 1) := by decide +kernel
theorem dX2_parentOf_1 : decode cX2_parentOf 1 = .ok (.invokestatic 11, 3) := by decide +kernel
theorem dX2_parentOf_4 : decode cX2_parentOf 4 = .ok (.ifCond .eq 11, 3) := by decide +kernel
theorem dX2_parentOf_7 : decode cX2_parentOf 7 = .ok (.getstatic 15, 3) := by decide +kernel
theorem dX2_parentOf_10 : decode cX2_parentOf 10 = .ok (.iload_n 0, 1) := by decide +kernel
theorem dX2_parentOf_11 : decode cX2_parentOf 11 = .ok (.iaload, 1) := by decide +kernel
theorem dX2_parentOf_12 : decode cX2_parentOf 12 = .ok (.goto 4, 3) := by decide +kernel
theorem dX2_parentOf_15 : decode cX2_parentOf 15 = .ok (.iconst (-1), 1) := by decide +kernel
theorem dX2_parentOf_16 : decode cX2_parentOf 16 = .ok (.ireturn, 1) := by decide +kernel
theorem dX2_namedBy_0 : decode cX2_namedBy 0 = .ok (.iload_n 0, 1) := by decide +kernel
theorem dX2_namedBy_1 : decode cX2_namedBy 1 = .ok (.invokestatic 11, 3) := by decide +kernel
theorem dX2_namedBy_4 : decode cX2_namedBy 4 = .ok (.ifCond .eq 11, 3) := by decide +kernel
theorem dX2_namedBy_7 : decode cX2_namedBy 7 = .ok (.getstatic 19, 3) := by decide +kernel
theorem dX2_namedBy_10 : decode cX2_namedBy 10 = .ok (.iload_n 0, 1) := by decide +kernel
theorem dX2_namedBy_11 : decode cX2_namedBy 11 = .ok (.iaload, 1) := by decide +kernel
theorem dX2_namedBy_12 : decode cX2_namedBy 12 = .ok (.goto 4, 3) := by decide +kernel
theorem dX2_namedBy_15 : decode cX2_namedBy 15 = .ok (.iconst 0, 1) := by decide +kernel
theorem dX2_namedBy_16 : decode cX2_namedBy 16 = .ok (.ireturn, 1) := by decide +kernel
theorem dX2_actsOfWay_0 : decode cX2_actsOfWay 0 = .ok (.iload_n 0, 1) := by decide +kernel
theorem dX2_actsOfWay_1 : decode cX2_actsOfWay 1 = .ok (.invokestatic 22, 3) := by decide +kernel
theorem dX2_actsOfWay_4 : decode cX2_actsOfWay 4 = .ok (.ifCond .eq 11, 3) := by decide +kernel
theorem dX2_actsOfWay_7 : decode cX2_actsOfWay 7 = .ok (.getstatic 25, 3) := by decide +kernel
theorem dX2_actsOfWay_10 : decode cX2_actsOfWay 10 = .ok (.iload_n 0, 1) := by decide +kernel
theorem dX2_actsOfWay_11 : decode cX2_actsOfWay 11 = .ok (.iaload, 1) := by decide +kernel
theorem dX2_actsOfWay_12 : decode cX2_actsOfWay 12 = .ok (.goto 4, 3) := by decide +kernel
theorem dX2_actsOfWay_15 : decode cX2_actsOfWay 15 = .ok (.iconst 0, 1) := by decide +kernel
theorem dX2_actsOfWay_16 : decode cX2_actsOfWay 16 = .ok (.ireturn, 1) := by decide +kernel
theorem dX2_bodyOf_0 : decode cX2_bodyOf 0 = .ok (.iload_n 0, 1) := by decide +kernel
theorem dX2_bodyOf_1 : decode cX2_bodyOf 1 = .ok (.invokestatic 11, 3) := by decide +kernel
theorem dX2_bodyOf_4 : decode cX2_bodyOf 4 = .ok (.ifCond .eq 23, 3) := by decide +kernel
theorem dX2_bodyOf_7 : decode cX2_bodyOf 7 = .ok (.iload_n 1, 1) := by decide +kernel
theorem dX2_bodyOf_8 : decode cX2_bodyOf 8 = .ok (.invokestatic 28, 3) := by decide +kernel
theorem dX2_bodyOf_11 : decode cX2_bodyOf 11 = .ok (.ifCond .eq 16, 3) := by decide +kernel
theorem dX2_bodyOf_14 : decode cX2_bodyOf 14 = .ok (.getstatic 31, 3) := by decide +kernel
theorem dX2_bodyOf_17 : decode cX2_bodyOf 17 = .ok (.iload_n 0, 1) := by decide +kernel
theorem dX2_bodyOf_18 : decode cX2_bodyOf 18 = .ok (.bipush 12, 2) := by decide +kernel
theorem dX2_bodyOf_20 : decode cX2_bodyOf 20 = .ok (.imul, 1) := by decide +kernel
theorem dX2_bodyOf_21 : decode cX2_bodyOf 21 = .ok (.iload_n 1, 1) := by decide +kernel
theorem dX2_bodyOf_22 : decode cX2_bodyOf 22 = .ok (.iadd, 1) := by decide +kernel
theorem dX2_bodyOf_23 : decode cX2_bodyOf 23 = .ok (.iaload, 1) := by decide +kernel
theorem dX2_bodyOf_24 : decode cX2_bodyOf 24 = .ok (.goto 4, 3) := by decide +kernel
theorem dX2_bodyOf_27 : decode cX2_bodyOf 27 = .ok (.iconst 0, 1) := by decide +kernel
theorem dX2_bodyOf_28 : decode cX2_bodyOf 28 = .ok (.ireturn, 1) := by decide +kernel
theorem dX2_faceOfWay_0 : decode cX2_faceOfWay 0 = .ok (.iload_n 0, 1) := by decide +kernel
theorem dX2_faceOfWay_1 : decode cX2_faceOfWay 1 = .ok (.iconst 2, 1) := by decide +kernel
theorem dX2_faceOfWay_2 : decode cX2_faceOfWay 2 = .ok (.isub, 1) := by decide +kernel
theorem dX2_faceOfWay_3 : decode cX2_faceOfWay 3 = .ok (.bipush 13, 2) := by decide +kernel
theorem dX2_faceOfWay_5 : decode cX2_faceOfWay 5 = .ok (.iadd, 1) := by decide +kernel
theorem dX2_faceOfWay_6 : decode cX2_faceOfWay 6 = .ok (.ireturn, 1) := by decide +kernel
theorem dX2_facesOf_0 : decode cX2_facesOf 0 = .ok (.iconst 0, 1) := by decide +kernel
theorem dX2_facesOf_1 : decode cX2_facesOf 1 = .ok (.istore_n 1, 1) := by decide +kernel
theorem dX2_facesOf_2 : decode cX2_facesOf 2 = .ok (.iload_n 0, 1) := by decide +kernel
theorem dX2_facesOf_3 : decode cX2_facesOf 3 = .ok (.istore_n 2, 1) := by decide +kernel
theorem dX2_facesOf_4 : decode cX2_facesOf 4 = .ok (.iconst 0, 1) := by decide +kernel
theorem dX2_facesOf_5 : decode cX2_facesOf 5 = .ok (.istore_n 3, 1) := by decide +kernel
theorem dX2_facesOf_6 : decode cX2_facesOf 6 = .ok (.iload_n 3, 1) := by decide +kernel
theorem dX2_facesOf_7 : decode cX2_facesOf 7 = .ok (.bipush 18, 2) := by decide +kernel
theorem dX2_facesOf_9 : decode cX2_facesOf 9 = .ok (.if_icmp .ge 26, 3) := by decide +kernel
theorem dX2_facesOf_12 : decode cX2_facesOf 12 = .ok (.iload_n 2, 1) := by decide +kernel
theorem dX2_facesOf_13 : decode cX2_facesOf 13 = .ok (.iconst (-1), 1) := by decide +kernel
theorem dX2_facesOf_14 : decode cX2_facesOf 14 = .ok (.if_icmp .eq 21, 3) := by decide +kernel
theorem dX2_facesOf_17 : decode cX2_facesOf 17 = .ok (.iload_n 1, 1) := by decide +kernel
theorem dX2_facesOf_18 : decode cX2_facesOf 18 = .ok (.iload_n 2, 1) := by decide +kernel
theorem dX2_facesOf_19 : decode cX2_facesOf 19 = .ok (.invokestatic 34, 3) := by decide +kernel
theorem dX2_facesOf_22 : decode cX2_facesOf 22 = .ok (.ior, 1) := by decide +kernel
theorem dX2_facesOf_23 : decode cX2_facesOf 23 = .ok (.istore_n 1, 1) := by decide +kernel
theorem dX2_facesOf_24 : decode cX2_facesOf 24 = .ok (.iload_n 2, 1) := by decide +kernel
theorem dX2_facesOf_25 : decode cX2_facesOf 25 = .ok (.invokestatic 38, 3) := by decide +kernel
theorem dX2_facesOf_28 : decode cX2_facesOf 28 = .ok (.istore_n 2, 1) := by decide +kernel
theorem dX2_facesOf_29 : decode cX2_facesOf 29 = .ok (.iinc 3 1, 3) := by decide +kernel
theorem dX2_facesOf_32 : decode cX2_facesOf 32 = .ok (.goto (-26), 3) := by decide +kernel
theorem dX2_facesOf_35 : decode cX2_facesOf 35 = .ok (.iload_n 1, 1) := by decide +kernel
theorem dX2_facesOf_36 : decode cX2_facesOf 36 = .ok (.istore_n 3, 1) := by decide +kernel
theorem dX2_facesOf_37 : decode cX2_facesOf 37 = .ok (.iconst 2, 1) := by decide +kernel
theorem dX2_facesOf_38 : decode cX2_facesOf 38 = .ok (.istore 4, 2) := by decide +kernel
theorem dX2_facesOf_40 : decode cX2_facesOf 40 = .ok (.iload 4, 2) := by decide +kernel
theorem dX2_facesOf_42 : decode cX2_facesOf 42 = .ok (.bipush 7, 2) := by decide +kernel
theorem dX2_facesOf_44 : decode cX2_facesOf 44 = .ok (.if_icmp .ge 29, 3) := by decide +kernel
theorem dX2_facesOf_47 : decode cX2_facesOf 47 = .ok (.iload_n 1, 1) := by decide +kernel
theorem dX2_facesOf_48 : decode cX2_facesOf 48 = .ok (.iload 4, 2) := by decide +kernel
theorem dX2_facesOf_50 : decode cX2_facesOf 50 = .ok (.invokestatic 41, 3) := by decide +kernel
theorem dX2_facesOf_53 : decode cX2_facesOf 53 = .ok (.ifCond .eq 14, 3) := by decide +kernel
theorem dX2_facesOf_56 : decode cX2_facesOf 56 = .ok (.iload_n 3, 1) := by decide +kernel
theorem dX2_facesOf_57 : decode cX2_facesOf 57 = .ok (.iload 4, 2) := by decide +kernel
theorem dX2_facesOf_59 : decode cX2_facesOf 59 = .ok (.invokestatic 45, 3) := by decide +kernel
theorem dX2_facesOf_62 : decode cX2_facesOf 62 = .ok (.invokestatic 34, 3) := by decide +kernel
theorem dX2_facesOf_65 : decode cX2_facesOf 65 = .ok (.ior, 1) := by decide +kernel
theorem dX2_facesOf_66 : decode cX2_facesOf 66 = .ok (.istore_n 3, 1) := by decide +kernel
theorem dX2_facesOf_67 : decode cX2_facesOf 67 = .ok (.iinc 4 1, 3) := by decide +kernel
theorem dX2_facesOf_70 : decode cX2_facesOf 70 = .ok (.goto (-30), 3) := by decide +kernel
theorem dX2_facesOf_73 : decode cX2_facesOf 73 = .ok (.iload_n 3, 1) := by decide +kernel
theorem dX2_facesOf_74 : decode cX2_facesOf 74 = .ok (.ireturn, 1) := by decide +kernel
theorem dX2_waysOf_0 : decode cX2_waysOf 0 = .ok (.iconst 3, 1) := by decide +kernel
theorem dX2_waysOf_1 : decode cX2_waysOf 1 = .ok (.iload_n 0, 1) := by decide +kernel
theorem dX2_waysOf_2 : decode cX2_waysOf 2 = .ok (.invokestatic 48, 3) := by decide +kernel
theorem dX2_waysOf_5 : decode cX2_waysOf 5 = .ok (.ior, 1) := by decide +kernel
theorem dX2_waysOf_6 : decode cX2_waysOf 6 = .ok (.ireturn, 1) := by decide +kernel
theorem dX2_actsOfWays_0 : decode cX2_actsOfWays 0 = .ok (.iconst 0, 1) := by decide +kernel
theorem dX2_actsOfWays_1 : decode cX2_actsOfWays 1 = .ok (.istore_n 1, 1) := by decide +kernel
theorem dX2_actsOfWays_2 : decode cX2_actsOfWays 2 = .ok (.iconst 0, 1) := by decide +kernel
theorem dX2_actsOfWays_3 : decode cX2_actsOfWays 3 = .ok (.istore_n 2, 1) := by decide +kernel
theorem dX2_actsOfWays_4 : decode cX2_actsOfWays 4 = .ok (.iload_n 2, 1) := by decide +kernel
theorem dX2_actsOfWays_5 : decode cX2_actsOfWays 5 = .ok (.bipush 7, 2) := by decide +kernel
theorem dX2_actsOfWays_7 : decode cX2_actsOfWays 7 = .ok (.if_icmp .ge 24, 3) := by decide +kernel
theorem dX2_actsOfWays_10 : decode cX2_actsOfWays 10 = .ok (.iload_n 0, 1) := by decide +kernel
theorem dX2_actsOfWays_11 : decode cX2_actsOfWays 11 = .ok (.iload_n 2, 1) := by decide +kernel
theorem dX2_actsOfWays_12 : decode cX2_actsOfWays 12 = .ok (.invokestatic 41, 3) := by decide +kernel
theorem dX2_actsOfWays_15 : decode cX2_actsOfWays 15 = .ok (.ifCond .eq 10, 3) := by decide +kernel
theorem dX2_actsOfWays_18 : decode cX2_actsOfWays 18 = .ok (.iload_n 1, 1) := by decide +kernel
theorem dX2_actsOfWays_19 : decode cX2_actsOfWays 19 = .ok (.iload_n 2, 1) := by decide +kernel
theorem dX2_actsOfWays_20 : decode cX2_actsOfWays 20 = .ok (.invokestatic 51, 3) := by decide +kernel
theorem dX2_actsOfWays_23 : decode cX2_actsOfWays 23 = .ok (.ior, 1) := by decide +kernel
theorem dX2_actsOfWays_24 : decode cX2_actsOfWays 24 = .ok (.istore_n 1, 1) := by decide +kernel
theorem dX2_actsOfWays_25 : decode cX2_actsOfWays 25 = .ok (.iinc 2 1, 3) := by decide +kernel
theorem dX2_actsOfWays_28 : decode cX2_actsOfWays 28 = .ok (.goto (-24), 3) := by decide +kernel
theorem dX2_actsOfWays_31 : decode cX2_actsOfWays 31 = .ok (.iload_n 1, 1) := by decide +kernel
theorem dX2_actsOfWays_32 : decode cX2_actsOfWays 32 = .ok (.ireturn, 1) := by decide +kernel
theorem dX2_selected_0 : decode cX2_selected 0 = .ok (.iload_n 0, 1) := by decide +kernel
theorem dX2_selected_1 : decode cX2_selected 1 = .ok (.istore_n 2, 1) := by decide +kernel
theorem dX2_selected_2 : decode cX2_selected 2 = .ok (.iconst 0, 1) := by decide +kernel
theorem dX2_selected_3 : decode cX2_selected 3 = .ok (.istore_n 3, 1) := by decide +kernel
theorem dX2_selected_4 : decode cX2_selected 4 = .ok (.iload_n 3, 1) := by decide +kernel
theorem dX2_selected_5 : decode cX2_selected 5 = .ok (.bipush 18, 2) := by decide +kernel
theorem dX2_selected_7 : decode cX2_selected 7 = .ok (.if_icmp .ge 34, 3) := by decide +kernel
theorem dX2_selected_10 : decode cX2_selected 10 = .ok (.iload_n 2, 1) := by decide +kernel
theorem dX2_selected_11 : decode cX2_selected 11 = .ok (.iconst (-1), 1) := by decide +kernel
theorem dX2_selected_12 : decode cX2_selected 12 = .ok (.if_icmp .eq 29, 3) := by decide +kernel
theorem dX2_selected_15 : decode cX2_selected 15 = .ok (.iload_n 2, 1) := by decide +kernel
theorem dX2_selected_16 : decode cX2_selected 16 = .ok (.iload_n 1, 1) := by decide +kernel
theorem dX2_selected_17 : decode cX2_selected 17 = .ok (.invokestatic 54, 3) := by decide +kernel
theorem dX2_selected_20 : decode cX2_selected 20 = .ok (.istore 4, 2) := by decide +kernel
theorem dX2_selected_22 : decode cX2_selected 22 = .ok (.iload 4, 2) := by decide +kernel
theorem dX2_selected_24 : decode cX2_selected 24 = .ok (.ifCond .eq 6, 3) := by decide +kernel
theorem dX2_selected_27 : decode cX2_selected 27 = .ok (.iload 4, 2) := by decide +kernel
theorem dX2_selected_29 : decode cX2_selected 29 = .ok (.ireturn, 1) := by decide +kernel
theorem dX2_selected_30 : decode cX2_selected 30 = .ok (.iload_n 2, 1) := by decide +kernel
theorem dX2_selected_31 : decode cX2_selected 31 = .ok (.invokestatic 38, 3) := by decide +kernel
theorem dX2_selected_34 : decode cX2_selected 34 = .ok (.istore_n 2, 1) := by decide +kernel
theorem dX2_selected_35 : decode cX2_selected 35 = .ok (.iinc 3 1, 3) := by decide +kernel
theorem dX2_selected_38 : decode cX2_selected 38 = .ok (.goto (-34), 3) := by decide +kernel
theorem dX2_selected_41 : decode cX2_selected 41 = .ok (.iload_n 0, 1) := by decide +kernel
theorem dX2_selected_42 : decode cX2_selected 42 = .ok (.invokestatic 48, 3) := by decide +kernel
theorem dX2_selected_45 : decode cX2_selected 45 = .ok (.istore_n 3, 1) := by decide +kernel
theorem dX2_selected_46 : decode cX2_selected 46 = .ok (.bipush 6, 2) := by decide +kernel
theorem dX2_selected_48 : decode cX2_selected 48 = .ok (.istore 4, 2) := by decide +kernel
theorem dX2_selected_50 : decode cX2_selected 50 = .ok (.iload 4, 2) := by decide +kernel
theorem dX2_selected_52 : decode cX2_selected 52 = .ok (.iconst 2, 1) := by decide +kernel
theorem dX2_selected_53 : decode cX2_selected 53 = .ok (.if_icmp .lt 41, 3) := by decide +kernel
theorem dX2_selected_56 : decode cX2_selected 56 = .ok (.iload_n 3, 1) := by decide +kernel
theorem dX2_selected_57 : decode cX2_selected 57 = .ok (.iload 4, 2) := by decide +kernel
theorem dX2_selected_59 : decode cX2_selected 59 = .ok (.invokestatic 41, 3) := by decide +kernel
theorem dX2_selected_62 : decode cX2_selected 62 = .ok (.ifCond .eq 15, 3) := by decide +kernel
theorem dX2_selected_65 : decode cX2_selected 65 = .ok (.iload 4, 2) := by decide +kernel
theorem dX2_selected_67 : decode cX2_selected 67 = .ok (.invokestatic 45, 3) := by decide +kernel
theorem dX2_selected_70 : decode cX2_selected 70 = .ok (.iload_n 1, 1) := by decide +kernel
theorem dX2_selected_71 : decode cX2_selected 71 = .ok (.invokestatic 54, 3) := by decide +kernel
theorem dX2_selected_74 : decode cX2_selected 74 = .ok (.goto 4, 3) := by decide +kernel
theorem dX2_selected_77 : decode cX2_selected 77 = .ok (.iconst 0, 1) := by decide +kernel
theorem dX2_selected_78 : decode cX2_selected 78 = .ok (.istore 5, 2) := by decide +kernel
theorem dX2_selected_80 : decode cX2_selected 80 = .ok (.iload 5, 2) := by decide +kernel
theorem dX2_selected_82 : decode cX2_selected 82 = .ok (.ifCond .eq 6, 3) := by decide +kernel
theorem dX2_selected_85 : decode cX2_selected 85 = .ok (.iload 5, 2) := by decide +kernel
theorem dX2_selected_87 : decode cX2_selected 87 = .ok (.ireturn, 1) := by decide +kernel
theorem dX2_selected_88 : decode cX2_selected 88 = .ok (.iinc 4 (-1), 3) := by decide +kernel
theorem dX2_selected_91 : decode cX2_selected 91 = .ok (.goto (-41), 3) := by decide +kernel
theorem dX2_selected_94 : decode cX2_selected 94 = .ok (.iconst 0, 1) := by decide +kernel
theorem dX2_selected_95 : decode cX2_selected 95 = .ok (.ireturn, 1) := by decide +kernel
theorem dX3_init_0 : decode cX3_init 0 = .ok (.aload_n 0, 1) := by decide +kernel
theorem dX3_init_1 : decode cX3_init 1 = .ok (.invokespecial 1, 3) := by decide +kernel
theorem dX3_init_4 : decode cX3_init 4 = .ok (.aload_n 0, 1) := by decide +kernel
theorem dX3_init_5 : decode cX3_init 5 = .ok (.aload_n 1, 1) := by decide +kernel
theorem dX3_init_6 : decode cX3_init 6 = .ok (.putfield 7, 3) := by decide +kernel
theorem dX3_init_9 : decode cX3_init 9 = .ok (.return_, 1) := by decide +kernel
theorem dX4_init_0 : decode cX4_init 0 = .ok (.aload_n 0, 1) := by decide +kernel
theorem dX4_init_1 : decode cX4_init 1 = .ok (.invokespecial 1, 3) := by decide +kernel
theorem dX4_init_4 : decode cX4_init 4 = .ok (.aload_n 0, 1) := by decide +kernel
theorem dX4_init_5 : decode cX4_init 5 = .ok (.new 7, 3) := by decide +kernel
theorem dX4_init_8 : decode cX4_init 8 = .ok (.dup, 1) := by decide +kernel
theorem dX4_init_9 : decode cX4_init 9 = .ok (.invokespecial 9, 3) := by decide +kernel
theorem dX4_init_12 : decode cX4_init 12 = .ok (.putfield 10, 3) := by decide +kernel
theorem dX4_init_15 : decode cX4_init 15 = .ok (.aload_n 0, 1) := by decide +kernel
theorem dX4_init_16 : decode cX4_init 16 = .ok (.sipush 300, 3) := by decide +kernel
theorem dX4_init_19 : decode cX4_init 19 = .ok (.anewarray 16, 3) := by decide +kernel
theorem dX4_init_22 : decode cX4_init 22 = .ok (.putfield 18, 3) := by decide +kernel
theorem dX4_init_25 : decode cX4_init 25 = .ok (.aload_n 0, 1) := by decide +kernel
theorem dX4_init_26 : decode cX4_init 26 = .ok (.sipush 300, 3) := by decide +kernel
theorem dX4_init_29 : decode cX4_init 29 = .ok (.anewarray 16, 3) := by decide +kernel
theorem dX4_init_32 : decode cX4_init 32 = .ok (.putfield 22, 3) := by decide +kernel
theorem dX4_init_35 : decode cX4_init 35 = .ok (.return_, 1) := by decide +kernel
theorem dX4_device_0 : decode cX4_device 0 = .ok (.iload_n 1, 1) := by decide +kernel
theorem dX4_device_1 : decode cX4_device 1 = .ok (.invokestatic 25, 3) := by decide +kernel
theorem dX4_device_4 : decode cX4_device 4 = .ok (.ifCond .ne 10, 3) := by decide +kernel
theorem dX4_device_7 : decode cX4_device 7 = .ok (.aload_n 0, 1) := by decide +kernel
theorem dX4_device_8 : decode cX4_device 8 = .ok (.iconst 1, 1) := by decide +kernel
theorem dX4_device_9 : decode cX4_device 9 = .ok (.putfield 31, 3) := by decide +kernel
theorem dX4_device_12 : decode cX4_device 12 = .ok (.iconst (-1), 1) := by decide +kernel
theorem dX4_device_13 : decode cX4_device 13 = .ok (.ireturn, 1) := by decide +kernel
theorem dX4_device_14 : decode cX4_device 14 = .ok (.aload_n 0, 1) := by decide +kernel
theorem dX4_device_15 : decode cX4_device 15 = .ok (.getfield 35, 3) := by decide +kernel
theorem dX4_device_18 : decode cX4_device 18 = .ok (.sipush 300, 3) := by decide +kernel
theorem dX4_device_21 : decode cX4_device 21 = .ok (.if_icmp .lt 10, 3) := by decide +kernel
theorem dX4_device_24 : decode cX4_device 24 = .ok (.aload_n 0, 1) := by decide +kernel
theorem dX4_device_25 : decode cX4_device 25 = .ok (.iconst 5, 1) := by decide +kernel
theorem dX4_device_26 : decode cX4_device 26 = .ok (.putfield 31, 3) := by decide +kernel
theorem dX4_device_29 : decode cX4_device 29 = .ok (.iconst (-1), 1) := by decide +kernel
theorem dX4_device_30 : decode cX4_device 30 = .ok (.ireturn, 1) := by decide +kernel
theorem dX4_device_31 : decode cX4_device 31 = .ok (.aload_n 0, 1) := by decide +kernel
theorem dX4_device_32 : decode cX4_device 32 = .ok (.getfield 18, 3) := by decide +kernel
theorem dX4_device_35 : decode cX4_device 35 = .ok (.aload_n 0, 1) := by decide +kernel
theorem dX4_device_36 : decode cX4_device 36 = .ok (.getfield 35, 3) := by decide +kernel
theorem dX4_device_39 : decode cX4_device 39 = .ok (.new 16, 3) := by decide +kernel
theorem dX4_device_42 : decode cX4_device 42 = .ok (.dup, 1) := by decide +kernel
theorem dX4_device_43 : decode cX4_device 43 = .ok (.iload_n 1, 1) := by decide +kernel
theorem dX4_device_44 : decode cX4_device 44 = .ok (.iload_n 2, 1) := by decide +kernel
theorem dX4_device_45 : decode cX4_device 45 = .ok (.invokespecial 38, 3) := by decide +kernel
theorem dX4_device_48 : decode cX4_device 48 = .ok (.aastore, 1) := by decide +kernel
theorem dX4_device_49 : decode cX4_device 49 = .ok (.aload_n 0, 1) := by decide +kernel
theorem dX4_device_50 : decode cX4_device 50 = .ok (.dup, 1) := by decide +kernel
theorem dX4_device_51 : decode cX4_device 51 = .ok (.getfield 35, 3) := by decide +kernel
theorem dX4_device_54 : decode cX4_device 54 = .ok (.iconst 1, 1) := by decide +kernel
theorem dX4_device_55 : decode cX4_device 55 = .ok (.iadd, 1) := by decide +kernel
theorem dX4_device_56 : decode cX4_device 56 = .ok (.putfield 35, 3) := by decide +kernel
theorem dX4_device_59 : decode cX4_device 59 = .ok (.aload_n 0, 1) := by decide +kernel
theorem dX4_device_60 : decode cX4_device 60 = .ok (.iconst 0, 1) := by decide +kernel
theorem dX4_device_61 : decode cX4_device 61 = .ok (.putfield 31, 3) := by decide +kernel
theorem dX4_device_64 : decode cX4_device 64 = .ok (.aload_n 0, 1) := by decide +kernel
theorem dX4_device_65 : decode cX4_device 65 = .ok (.getfield 35, 3) := by decide +kernel
theorem dX4_device_68 : decode cX4_device 68 = .ok (.iconst 1, 1) := by decide +kernel
theorem dX4_device_69 : decode cX4_device 69 = .ok (.isub, 1) := by decide +kernel
theorem dX4_device_70 : decode cX4_device 70 = .ok (.ireturn, 1) := by decide +kernel
theorem dX4_call_0 : decode cX4_call 0 = .ok (.aload_n 0, 1) := by decide +kernel
theorem dX4_call_1 : decode cX4_call 1 = .ok (.iload_n 1, 1) := by decide +kernel
theorem dX4_call_2 : decode cX4_call 2 = .ok (.invokevirtual 41, 3) := by decide +kernel
theorem dX4_call_5 : decode cX4_call 5 = .ok (.astore 5, 2) := by decide +kernel
theorem dX4_call_7 : decode cX4_call 7 = .ok (.aload_n 0, 1) := by decide +kernel
theorem dX4_call_8 : decode cX4_call 8 = .ok (.aload 5, 2) := by decide +kernel
theorem dX4_call_10 : decode cX4_call 10 = .ok (.iload_n 2, 1) := by decide +kernel
theorem dX4_call_11 : decode cX4_call 11 = .ok (.iload_n 3, 1) := by decide +kernel
theorem dX4_call_12 : decode cX4_call 12 = .ok (.invokestatic 45, 3) := by decide +kernel
theorem dX4_call_15 : decode cX4_call 15 = .ok (.putfield 31, 3) := by decide +kernel
theorem dX4_call_18 : decode cX4_call 18 = .ok (.aload 5, 2) := by decide +kernel
theorem dX4_call_20 : decode cX4_call 20 = .ok (.ifnull 10, 3) := by decide +kernel
theorem dX4_call_23 : decode cX4_call 23 = .ok (.aload_n 0, 1) := by decide +kernel
theorem dX4_call_24 : decode cX4_call 24 = .ok (.getfield 31, 3) := by decide +kernel
theorem dX4_call_27 : decode cX4_call 27 = .ok (.ifCond .eq 5, 3) := by decide +kernel
theorem dX4_call_30 : decode cX4_call 30 = .ok (.iconst 0, 1) := by decide +kernel
theorem dX4_call_31 : decode cX4_call 31 = .ok (.ireturn, 1) := by decide +kernel
theorem dX4_call_32 : decode cX4_call 32 = .ok (.aload_n 0, 1) := by decide +kernel
theorem dX4_call_33 : decode cX4_call 33 = .ok (.getfield 10, 3) := by decide +kernel
theorem dX4_call_36 : decode cX4_call 36 = .ok (.invokevirtual 49, 3) := by decide +kernel
theorem dX4_call_39 : decode cX4_call 39 = .ok (.aload_n 0, 1) := by decide +kernel
theorem dX4_call_40 : decode cX4_call 40 = .ok (.getfield 10, 3) := by decide +kernel
theorem dX4_call_43 : decode cX4_call 43 = .ok (.aload 5, 2) := by decide +kernel
theorem dX4_call_45 : decode cX4_call 45 = .ok (.iload_n 2, 1) := by decide +kernel
theorem dX4_call_46 : decode cX4_call 46 = .ok (.iload 4, 2) := by decide +kernel
theorem dX4_call_48 : decode cX4_call 48 = .ok (.iconst 0, 1) := by decide +kernel
theorem dX4_call_49 : decode cX4_call 49 = .ok (.invokevirtual 52, 3) := by decide +kernel
theorem dX4_call_52 : decode cX4_call 52 = .ok (.ireturn, 1) := by decide +kernel
theorem dX4_every_0 : decode cX4_every 0 = .ok (.aload_n 0, 1) := by decide +kernel
theorem dX4_every_1 : decode cX4_every 1 = .ok (.iload_n 1, 1) := by decide +kernel
theorem dX4_every_2 : decode cX4_every 2 = .ok (.iload_n 2, 1) := by decide +kernel
theorem dX4_every_3 : decode cX4_every 3 = .ok (.invokestatic 56, 3) := by decide +kernel
theorem dX4_every_6 : decode cX4_every 6 = .ok (.putfield 31, 3) := by decide +kernel
theorem dX4_every_9 : decode cX4_every 9 = .ok (.aload_n 0, 1) := by decide +kernel
theorem dX4_every_10 : decode cX4_every 10 = .ok (.getfield 31, 3) := by decide +kernel
theorem dX4_every_13 : decode cX4_every 13 = .ok (.ifCond .eq 5, 3) := by decide +kernel
theorem dX4_every_16 : decode cX4_every 16 = .ok (.iconst 0, 1) := by decide +kernel
theorem dX4_every_17 : decode cX4_every 17 = .ok (.ireturn, 1) := by decide +kernel
theorem dX4_every_18 : decode cX4_every 18 = .ok (.aload_n 0, 1) := by decide +kernel
theorem dX4_every_19 : decode cX4_every 19 = .ok (.getfield 10, 3) := by decide +kernel
theorem dX4_every_22 : decode cX4_every 22 = .ok (.invokevirtual 49, 3) := by decide +kernel
theorem dX4_every_25 : decode cX4_every 25 = .ok (.iconst 0, 1) := by decide +kernel
theorem dX4_every_26 : decode cX4_every 26 = .ok (.istore 4, 2) := by decide +kernel
theorem dX4_every_28 : decode cX4_every 28 = .ok (.iconst 0, 1) := by decide +kernel
theorem dX4_every_29 : decode cX4_every 29 = .ok (.istore 5, 2) := by decide +kernel
theorem dX4_every_31 : decode cX4_every 31 = .ok (.iload 5, 2) := by decide +kernel
theorem dX4_every_33 : decode cX4_every 33 = .ok (.aload_n 0, 1) := by decide +kernel
theorem dX4_every_34 : decode cX4_every 34 = .ok (.getfield 35, 3) := by decide +kernel
theorem dX4_every_37 : decode cX4_every 37 = .ok (.if_icmp .ge 67, 3) := by decide +kernel
theorem dX4_every_40 : decode cX4_every 40 = .ok (.iload 5, 2) := by decide +kernel
theorem dX4_every_42 : decode cX4_every 42 = .ok (.sipush 300, 3) := by decide +kernel
theorem dX4_every_45 : decode cX4_every 45 = .ok (.if_icmp .ge 59, 3) := by decide +kernel
theorem dX4_every_48 : decode cX4_every 48 = .ok (.aload_n 0, 1) := by decide +kernel
theorem dX4_every_49 : decode cX4_every 49 = .ok (.getfield 18, 3) := by decide +kernel
theorem dX4_every_52 : decode cX4_every 52 = .ok (.iload 5, 2) := by decide +kernel
theorem dX4_every_54 : decode cX4_every 54 = .ok (.aaload, 1) := by decide +kernel
theorem dX4_every_55 : decode cX4_every 55 = .ok (.astore 6, 2) := by decide +kernel
theorem dX4_every_57 : decode cX4_every 57 = .ok (.aload 6, 2) := by decide +kernel
theorem dX4_every_59 : decode cX4_every 59 = .ok (.ifnull 39, 3) := by decide +kernel
theorem dX4_every_62 : decode cX4_every 62 = .ok (.aload 6, 2) := by decide +kernel
theorem dX4_every_64 : decode cX4_every 64 = .ok (.iload_n 2, 1) := by decide +kernel
theorem dX4_every_65 : decode cX4_every 65 = .ok (.invokevirtual 60, 3) := by decide +kernel
theorem dX4_every_68 : decode cX4_every 68 = .ok (.ifCond .eq 30, 3) := by decide +kernel
theorem dX4_every_71 : decode cX4_every 71 = .ok (.aload 6, 2) := by decide +kernel
theorem dX4_every_73 : decode cX4_every 73 = .ok (.iload_n 1, 1) := by decide +kernel
theorem dX4_every_74 : decode cX4_every 74 = .ok (.iload_n 2, 1) := by decide +kernel
theorem dX4_every_75 : decode cX4_every 75 = .ok (.invokevirtual 63, 3) := by decide +kernel
theorem dX4_every_78 : decode cX4_every 78 = .ok (.ifCond .eq 20, 3) := by decide +kernel
theorem dX4_every_81 : decode cX4_every 81 = .ok (.iload 4, 2) := by decide +kernel
theorem dX4_every_83 : decode cX4_every 83 = .ok (.aload_n 0, 1) := by decide +kernel
theorem dX4_every_84 : decode cX4_every 84 = .ok (.getfield 10, 3) := by decide +kernel
theorem dX4_every_87 : decode cX4_every 87 = .ok (.aload 6, 2) := by decide +kernel
theorem dX4_every_89 : decode cX4_every 89 = .ok (.iload_n 1, 1) := by decide +kernel
theorem dX4_every_90 : decode cX4_every 90 = .ok (.iload_n 3, 1) := by decide +kernel
theorem dX4_every_91 : decode cX4_every 91 = .ok (.iconst 0, 1) := by decide +kernel
theorem dX4_every_92 : decode cX4_every 92 = .ok (.invokevirtual 52, 3) := by decide +kernel
theorem dX4_every_95 : decode cX4_every 95 = .ok (.iadd, 1) := by decide +kernel
theorem dX4_every_96 : decode cX4_every 96 = .ok (.istore 4, 2) := by decide +kernel
theorem dX4_every_98 : decode cX4_every 98 = .ok (.iinc 5 1, 3) := by decide +kernel
theorem dX4_every_101 : decode cX4_every 101 = .ok (.goto (-70), 3) := by decide +kernel
theorem dX4_every_104 : decode cX4_every 104 = .ok (.iload 4, 2) := by decide +kernel
theorem dX4_every_106 : decode cX4_every 106 = .ok (.ireturn, 1) := by decide +kernel
theorem dX4_feed_0 : decode cX4_feed 0 = .ok (.aload_n 0, 1) := by decide +kernel
theorem dX4_feed_1 : decode cX4_feed 1 = .ok (.iload_n 1, 1) := by decide +kernel
theorem dX4_feed_2 : decode cX4_feed 2 = .ok (.invokevirtual 41, 3) := by decide +kernel
theorem dX4_feed_5 : decode cX4_feed 5 = .ok (.astore_n 3, 1) := by decide +kernel
theorem dX4_feed_6 : decode cX4_feed 6 = .ok (.aload_n 3, 1) := by decide +kernel
theorem dX4_feed_7 : decode cX4_feed 7 = .ok (.ifnonnull 10, 3) := by decide +kernel
theorem dX4_feed_10 : decode cX4_feed 10 = .ok (.aload_n 0, 1) := by decide +kernel
theorem dX4_feed_11 : decode cX4_feed 11 = .ok (.iconst 1, 1) := by decide +kernel
theorem dX4_feed_12 : decode cX4_feed 12 = .ok (.putfield 31, 3) := by decide +kernel
theorem dX4_feed_15 : decode cX4_feed 15 = .ok (.iconst 0, 1) := by decide +kernel
theorem dX4_feed_16 : decode cX4_feed 16 = .ok (.ireturn, 1) := by decide +kernel
theorem dX4_feed_17 : decode cX4_feed 17 = .ok (.aload_n 0, 1) := by decide +kernel
theorem dX4_feed_18 : decode cX4_feed 18 = .ok (.iconst 0, 1) := by decide +kernel
theorem dX4_feed_19 : decode cX4_feed 19 = .ok (.putfield 31, 3) := by decide +kernel
theorem dX4_feed_22 : decode cX4_feed 22 = .ok (.aload_n 0, 1) := by decide +kernel
theorem dX4_feed_23 : decode cX4_feed 23 = .ok (.getfield 10, 3) := by decide +kernel
theorem dX4_feed_26 : decode cX4_feed 26 = .ok (.invokevirtual 49, 3) := by decide +kernel
theorem dX4_feed_29 : decode cX4_feed 29 = .ok (.iconst 0, 1) := by decide +kernel
theorem dX4_feed_30 : decode cX4_feed 30 = .ok (.istore 4, 2) := by decide +kernel
theorem dX4_feed_32 : decode cX4_feed 32 = .ok (.bipush 24, 2) := by decide +kernel
theorem dX4_feed_34 : decode cX4_feed 34 = .ok (.istore 5, 2) := by decide +kernel
theorem dX4_feed_36 : decode cX4_feed 36 = .ok (.iload 5, 2) := by decide +kernel
theorem dX4_feed_38 : decode cX4_feed 38 = .ok (.ifCond .lt 29, 3) := by decide +kernel
theorem dX4_feed_41 : decode cX4_feed 41 = .ok (.iload 4, 2) := by decide +kernel
theorem dX4_feed_43 : decode cX4_feed 43 = .ok (.aload_n 0, 1) := by decide +kernel
theorem dX4_feed_44 : decode cX4_feed 44 = .ok (.aload_n 3, 1) := by decide +kernel
theorem dX4_feed_45 : decode cX4_feed 45 = .ok (.iload_n 2, 1) := by decide +kernel
theorem dX4_feed_46 : decode cX4_feed 46 = .ok (.iload 5, 2) := by decide +kernel
theorem dX4_feed_48 : decode cX4_feed 48 = .ok (.iushr, 1) := by decide +kernel
theorem dX4_feed_49 : decode cX4_feed 49 = .ok (.sipush 255, 3) := by decide +kernel
theorem dX4_feed_52 : decode cX4_feed 52 = .ok (.iand, 1) := by decide +kernel
theorem dX4_feed_53 : decode cX4_feed 53 = .ok (.iload 4, 2) := by decide +kernel
theorem dX4_feed_55 : decode cX4_feed 55 = .ok (.invokevirtual 67, 3) := by decide +kernel
theorem dX4_feed_58 : decode cX4_feed 58 = .ok (.iadd, 1) := by decide +kernel
theorem dX4_feed_59 : decode cX4_feed 59 = .ok (.istore 4, 2) := by decide +kernel
theorem dX4_feed_61 : decode cX4_feed 61 = .ok (.iinc 5 (-8), 3) := by decide +kernel
theorem dX4_feed_64 : decode cX4_feed 64 = .ok (.goto (-28), 3) := by decide +kernel
theorem dX4_feed_67 : decode cX4_feed 67 = .ok (.iload 4, 2) := by decide +kernel
theorem dX4_feed_69 : decode cX4_feed 69 = .ok (.ireturn, 1) := by decide +kernel
theorem dX4_link_0 : decode cX4_link 0 = .ok (.aload_n 0, 1) := by decide +kernel
theorem dX4_link_1 : decode cX4_link 1 = .ok (.iload_n 1, 1) := by decide +kernel
theorem dX4_link_2 : decode cX4_link 2 = .ok (.invokevirtual 41, 3) := by decide +kernel
theorem dX4_link_5 : decode cX4_link 5 = .ok (.astore_n 3, 1) := by decide +kernel
theorem dX4_link_6 : decode cX4_link 6 = .ok (.aload_n 0, 1) := by decide +kernel
theorem dX4_link_7 : decode cX4_link 7 = .ok (.iload_n 2, 1) := by decide +kernel
theorem dX4_link_8 : decode cX4_link 8 = .ok (.invokevirtual 41, 3) := by decide +kernel
theorem dX4_link_11 : decode cX4_link 11 = .ok (.astore 4, 2) := by decide +kernel
theorem dX4_link_13 : decode cX4_link 13 = .ok (.aload_n 3, 1) := by decide +kernel
theorem dX4_link_14 : decode cX4_link 14 = .ok (.ifnull 8, 3) := by decide +kernel
theorem dX4_link_17 : decode cX4_link 17 = .ok (.aload 4, 2) := by decide +kernel
theorem dX4_link_19 : decode cX4_link 19 = .ok (.ifnonnull 10, 3) := by decide +kernel
theorem dX4_link_22 : decode cX4_link 22 = .ok (.aload_n 0, 1) := by decide +kernel
theorem dX4_link_23 : decode cX4_link 23 = .ok (.iconst 1, 1) := by decide +kernel
theorem dX4_link_24 : decode cX4_link 24 = .ok (.putfield 31, 3) := by decide +kernel
theorem dX4_link_27 : decode cX4_link 27 = .ok (.iconst (-1), 1) := by decide +kernel
theorem dX4_link_28 : decode cX4_link 28 = .ok (.ireturn, 1) := by decide +kernel
theorem dX4_link_29 : decode cX4_link 29 = .ok (.aload_n 0, 1) := by decide +kernel
theorem dX4_link_30 : decode cX4_link 30 = .ok (.getfield 70, 3) := by decide +kernel
theorem dX4_link_33 : decode cX4_link 33 = .ok (.sipush 400, 3) := by decide +kernel
theorem dX4_link_36 : decode cX4_link 36 = .ok (.if_icmp .lt 10, 3) := by decide +kernel
theorem dX4_link_39 : decode cX4_link 39 = .ok (.aload_n 0, 1) := by decide +kernel
theorem dX4_link_40 : decode cX4_link 40 = .ok (.iconst 5, 1) := by decide +kernel
theorem dX4_link_41 : decode cX4_link 41 = .ok (.putfield 31, 3) := by decide +kernel
theorem dX4_link_44 : decode cX4_link 44 = .ok (.iconst (-1), 1) := by decide +kernel
theorem dX4_link_45 : decode cX4_link 45 = .ok (.ireturn, 1) := by decide +kernel
theorem dX4_link_46 : decode cX4_link 46 = .ok (.aload_n 3, 1) := by decide +kernel
theorem dX4_link_47 : decode cX4_link 47 = .ok (.aload 4, 2) := by decide +kernel
theorem dX4_link_49 : decode cX4_link 49 = .ok (.invokevirtual 73, 3) := by decide +kernel
theorem dX4_link_52 : decode cX4_link 52 = .ok (.aload_n 0, 1) := by decide +kernel
theorem dX4_link_53 : decode cX4_link 53 = .ok (.dup, 1) := by decide +kernel
theorem dX4_link_54 : decode cX4_link 54 = .ok (.getfield 70, 3) := by decide +kernel
theorem dX4_link_57 : decode cX4_link 57 = .ok (.iconst 1, 1) := by decide +kernel
theorem dX4_link_58 : decode cX4_link 58 = .ok (.iadd, 1) := by decide +kernel
theorem dX4_link_59 : decode cX4_link 59 = .ok (.putfield 70, 3) := by decide +kernel
theorem dX4_link_62 : decode cX4_link 62 = .ok (.aload_n 0, 1) := by decide +kernel
theorem dX4_link_63 : decode cX4_link 63 = .ok (.iconst 0, 1) := by decide +kernel
theorem dX4_link_64 : decode cX4_link 64 = .ok (.putfield 31, 3) := by decide +kernel
theorem dX4_link_67 : decode cX4_link 67 = .ok (.aload_n 0, 1) := by decide +kernel
theorem dX4_link_68 : decode cX4_link 68 = .ok (.getfield 70, 3) := by decide +kernel
theorem dX4_link_71 : decode cX4_link 71 = .ok (.iconst 1, 1) := by decide +kernel
theorem dX4_link_72 : decode cX4_link 72 = .ok (.isub, 1) := by decide +kernel
theorem dX4_link_73 : decode cX4_link 73 = .ok (.ireturn, 1) := by decide +kernel
theorem dX4_pass_0 : decode cX4_pass 0 = .ok (.aload_n 0, 1) := by decide +kernel
theorem dX4_pass_1 : decode cX4_pass 1 = .ok (.iload_n 1, 1) := by decide +kernel
theorem dX4_pass_2 : decode cX4_pass 2 = .ok (.invokevirtual 41, 3) := by decide +kernel
theorem dX4_pass_5 : decode cX4_pass 5 = .ok (.astore_n 3, 1) := by decide +kernel
theorem dX4_pass_6 : decode cX4_pass 6 = .ok (.aload_n 3, 1) := by decide +kernel
theorem dX4_pass_7 : decode cX4_pass 7 = .ok (.ifnonnull 10, 3) := by decide +kernel
theorem dX4_pass_10 : decode cX4_pass 10 = .ok (.aload_n 0, 1) := by decide +kernel
theorem dX4_pass_11 : decode cX4_pass 11 = .ok (.iconst 1, 1) := by decide +kernel
theorem dX4_pass_12 : decode cX4_pass 12 = .ok (.putfield 31, 3) := by decide +kernel
theorem dX4_pass_15 : decode cX4_pass 15 = .ok (.iconst 0, 1) := by decide +kernel
theorem dX4_pass_16 : decode cX4_pass 16 = .ok (.ireturn, 1) := by decide +kernel
theorem dX4_pass_17 : decode cX4_pass 17 = .ok (.aload_n 0, 1) := by decide +kernel
theorem dX4_pass_18 : decode cX4_pass 18 = .ok (.iconst 0, 1) := by decide +kernel
theorem dX4_pass_19 : decode cX4_pass 19 = .ok (.putfield 31, 3) := by decide +kernel
theorem dX4_pass_22 : decode cX4_pass 22 = .ok (.aload_n 0, 1) := by decide +kernel
theorem dX4_pass_23 : decode cX4_pass 23 = .ok (.getfield 10, 3) := by decide +kernel
theorem dX4_pass_26 : decode cX4_pass 26 = .ok (.invokevirtual 49, 3) := by decide +kernel
theorem dX4_pass_29 : decode cX4_pass 29 = .ok (.aload_n 0, 1) := by decide +kernel
theorem dX4_pass_30 : decode cX4_pass 30 = .ok (.dup, 1) := by decide +kernel
theorem dX4_pass_31 : decode cX4_pass 31 = .ok (.getfield 77, 3) := by decide +kernel
theorem dX4_pass_34 : decode cX4_pass 34 = .ok (.iconst 1, 1) := by decide +kernel
theorem dX4_pass_35 : decode cX4_pass 35 = .ok (.iadd, 1) := by decide +kernel
theorem dX4_pass_36 : decode cX4_pass 36 = .ok (.putfield 77, 3) := by decide +kernel
theorem dX4_pass_39 : decode cX4_pass 39 = .ok (.aload_n 0, 1) := by decide +kernel
theorem dX4_pass_40 : decode cX4_pass 40 = .ok (.iconst 0, 1) := by decide +kernel
theorem dX4_pass_41 : decode cX4_pass 41 = .ok (.putfield 80, 3) := by decide +kernel
theorem dX4_pass_44 : decode cX4_pass 44 = .ok (.aload_n 0, 1) := by decide +kernel
theorem dX4_pass_45 : decode cX4_pass 45 = .ok (.aload_n 3, 1) := by decide +kernel
theorem dX4_pass_46 : decode cX4_pass 46 = .ok (.iload_n 2, 1) := by decide +kernel
theorem dX4_pass_47 : decode cX4_pass 47 = .ok (.invokevirtual 83, 3) := by decide +kernel
theorem dX4_pass_50 : decode cX4_pass 50 = .ok (.iconst 0, 1) := by decide +kernel
theorem dX4_pass_51 : decode cX4_pass 51 = .ok (.istore 4, 2) := by decide +kernel
theorem dX4_pass_53 : decode cX4_pass 53 = .ok (.iload 4, 2) := by decide +kernel
theorem dX4_pass_55 : decode cX4_pass 55 = .ok (.aload_n 0, 1) := by decide +kernel
theorem dX4_pass_56 : decode cX4_pass 56 = .ok (.getfield 80, 3) := by decide +kernel
theorem dX4_pass_59 : decode cX4_pass 59 = .ok (.if_icmp .ge 28, 3) := by decide +kernel
theorem dX4_pass_62 : decode cX4_pass 62 = .ok (.iload 4, 2) := by decide +kernel
theorem dX4_pass_64 : decode cX4_pass 64 = .ok (.sipush 300, 3) := by decide +kernel
theorem dX4_pass_67 : decode cX4_pass 67 = .ok (.if_icmp .ge 20, 3) := by decide +kernel
theorem dX4_pass_70 : decode cX4_pass 70 = .ok (.aload_n 0, 1) := by decide +kernel
theorem dX4_pass_71 : decode cX4_pass 71 = .ok (.aload_n 0, 1) := by decide +kernel
theorem dX4_pass_72 : decode cX4_pass 72 = .ok (.getfield 22, 3) := by decide +kernel
theorem dX4_pass_75 : decode cX4_pass 75 = .ok (.iload 4, 2) := by decide +kernel
theorem dX4_pass_77 : decode cX4_pass 77 = .ok (.aaload, 1) := by decide +kernel
theorem dX4_pass_78 : decode cX4_pass 78 = .ok (.invokevirtual 87, 3) := by decide +kernel
theorem dX4_pass_81 : decode cX4_pass 81 = .ok (.iinc 4 1, 3) := by decide +kernel
theorem dX4_pass_84 : decode cX4_pass 84 = .ok (.goto (-31), 3) := by decide +kernel
theorem dX4_pass_87 : decode cX4_pass 87 = .ok (.aload_n 0, 1) := by decide +kernel
theorem dX4_pass_88 : decode cX4_pass 88 = .ok (.getfield 80, 3) := by decide +kernel
theorem dX4_pass_91 : decode cX4_pass 91 = .ok (.ireturn, 1) := by decide +kernel
theorem dX4_able_0 : decode cX4_able 0 = .ok (.aload_n 0, 1) := by decide +kernel
theorem dX4_able_1 : decode cX4_able 1 = .ok (.iload_n 1, 1) := by decide +kernel
theorem dX4_able_2 : decode cX4_able 2 = .ok (.invokevirtual 41, 3) := by decide +kernel
theorem dX4_able_5 : decode cX4_able 5 = .ok (.astore_n 3, 1) := by decide +kernel
theorem dX4_able_6 : decode cX4_able 6 = .ok (.aload_n 3, 1) := by decide +kernel
theorem dX4_able_7 : decode cX4_able 7 = .ok (.ifnull 10, 3) := by decide +kernel
theorem dX4_able_10 : decode cX4_able 10 = .ok (.iload_n 2, 1) := by decide +kernel
theorem dX4_able_11 : decode cX4_able 11 = .ok (.invokestatic 90, 3) := by decide +kernel
theorem dX4_able_14 : decode cX4_able 14 = .ok (.ifCond .ne 5, 3) := by decide +kernel
theorem dX4_able_17 : decode cX4_able 17 = .ok (.iconst (-1), 1) := by decide +kernel
theorem dX4_able_18 : decode cX4_able 18 = .ok (.ireturn, 1) := by decide +kernel
theorem dX4_able_19 : decode cX4_able 19 = .ok (.aload_n 3, 1) := by decide +kernel
theorem dX4_able_20 : decode cX4_able 20 = .ok (.iload_n 2, 1) := by decide +kernel
theorem dX4_able_21 : decode cX4_able 21 = .ok (.invokevirtual 60, 3) := by decide +kernel
theorem dX4_able_24 : decode cX4_able 24 = .ok (.ifCond .eq 7, 3) := by decide +kernel
theorem dX4_able_27 : decode cX4_able 27 = .ok (.iconst 1, 1) := by decide +kernel
theorem dX4_able_28 : decode cX4_able 28 = .ok (.goto 4, 3) := by decide +kernel
theorem dX4_able_31 : decode cX4_able 31 = .ok (.iconst 0, 1) := by decide +kernel
theorem dX4_able_32 : decode cX4_able 32 = .ok (.ireturn, 1) := by decide +kernel
theorem dX4_chain_0 : decode cX4_chain 0 = .ok (.aload_n 0, 1) := by decide +kernel
theorem dX4_chain_1 : decode cX4_chain 1 = .ok (.getfield 10, 3) := by decide +kernel
theorem dX4_chain_4 : decode cX4_chain 4 = .ok (.iload_n 1, 1) := by decide +kernel
theorem dX4_chain_5 : decode cX4_chain 5 = .ok (.invokevirtual 93, 3) := by decide +kernel
theorem dX4_chain_8 : decode cX4_chain 8 = .ok (.ireturn, 1) := by decide +kernel
theorem dX4_ran_0 : decode cX4_ran 0 = .ok (.aload_n 0, 1) := by decide +kernel
theorem dX4_ran_1 : decode cX4_ran 1 = .ok (.getfield 10, 3) := by decide +kernel
theorem dX4_ran_4 : decode cX4_ran 4 = .ok (.getfield 97, 3) := by decide +kernel
theorem dX4_ran_7 : decode cX4_ran 7 = .ok (.ireturn, 1) := by decide +kernel
theorem dX4_state_0 : decode cX4_state 0 = .ok (.aload_n 0, 1) := by decide +kernel
theorem dX4_state_1 : decode cX4_state 1 = .ok (.iload_n 1, 1) := by decide +kernel
theorem dX4_state_2 : decode cX4_state 2 = .ok (.invokevirtual 41, 3) := by decide +kernel
theorem dX4_state_5 : decode cX4_state 5 = .ok (.astore_n 3, 1) := by decide +kernel
theorem dX4_state_6 : decode cX4_state 6 = .ok (.aload_n 3, 1) := by decide +kernel
theorem dX4_state_7 : decode cX4_state 7 = .ok (.ifnull 10, 3) := by decide +kernel
theorem dX4_state_10 : decode cX4_state 10 = .ok (.iload_n 2, 1) := by decide +kernel
theorem dX4_state_11 : decode cX4_state 11 = .ok (.invokestatic 100, 3) := by decide +kernel
theorem dX4_state_14 : decode cX4_state 14 = .ok (.ifCond .ne 10, 3) := by decide +kernel
theorem dX4_state_17 : decode cX4_state 17 = .ok (.aload_n 0, 1) := by decide +kernel
theorem dX4_state_18 : decode cX4_state 18 = .ok (.iconst 1, 1) := by decide +kernel
theorem dX4_state_19 : decode cX4_state 19 = .ok (.putfield 31, 3) := by decide +kernel
theorem dX4_state_22 : decode cX4_state 22 = .ok (.iconst 0, 1) := by decide +kernel
theorem dX4_state_23 : decode cX4_state 23 = .ok (.ireturn, 1) := by decide +kernel
theorem dX4_state_24 : decode cX4_state 24 = .ok (.aload_n 0, 1) := by decide +kernel
theorem dX4_state_25 : decode cX4_state 25 = .ok (.iconst 0, 1) := by decide +kernel
theorem dX4_state_26 : decode cX4_state 26 = .ok (.putfield 31, 3) := by decide +kernel
theorem dX4_state_29 : decode cX4_state 29 = .ok (.aload_n 3, 1) := by decide +kernel
theorem dX4_state_30 : decode cX4_state 30 = .ok (.iload_n 2, 1) := by decide +kernel
theorem dX4_state_31 : decode cX4_state 31 = .ok (.invokevirtual 103, 3) := by decide +kernel
theorem dX4_state_34 : decode cX4_state 34 = .ok (.ireturn, 1) := by decide +kernel
theorem dX4_size_0 : decode cX4_size 0 = .ok (.iload_n 1, 1) := by decide +kernel
theorem dX4_size_1 : decode cX4_size 1 = .ok (.ifCond .ne 8, 3) := by decide +kernel
theorem dX4_size_4 : decode cX4_size 4 = .ok (.aload_n 0, 1) := by decide +kernel
theorem dX4_size_5 : decode cX4_size 5 = .ok (.getfield 35, 3) := by decide +kernel
theorem dX4_size_8 : decode cX4_size 8 = .ok (.ireturn, 1) := by decide +kernel
theorem dX4_size_9 : decode cX4_size 9 = .ok (.iload_n 1, 1) := by decide +kernel
theorem dX4_size_10 : decode cX4_size 10 = .ok (.iconst 1, 1) := by decide +kernel
theorem dX4_size_11 : decode cX4_size 11 = .ok (.if_icmp .ne 8, 3) := by decide +kernel
theorem dX4_size_14 : decode cX4_size 14 = .ok (.aload_n 0, 1) := by decide +kernel
theorem dX4_size_15 : decode cX4_size 15 = .ok (.getfield 70, 3) := by decide +kernel
theorem dX4_size_18 : decode cX4_size 18 = .ok (.ireturn, 1) := by decide +kernel
theorem dX4_size_19 : decode cX4_size 19 = .ok (.iload_n 1, 1) := by decide +kernel
theorem dX4_size_20 : decode cX4_size 20 = .ok (.invokestatic 90, 3) := by decide +kernel
theorem dX4_size_23 : decode cX4_size 23 = .ok (.ifCond .eq 11, 3) := by decide +kernel
theorem dX4_size_26 : decode cX4_size 26 = .ok (.aload_n 0, 1) := by decide +kernel
theorem dX4_size_27 : decode cX4_size 27 = .ok (.iload_n 1, 1) := by decide +kernel
theorem dX4_size_28 : decode cX4_size 28 = .ok (.invokevirtual 106, 3) := by decide +kernel
theorem dX4_size_31 : decode cX4_size 31 = .ok (.goto 4, 3) := by decide +kernel
theorem dX4_size_34 : decode cX4_size 34 = .ok (.iconst (-1), 1) := by decide +kernel
theorem dX4_size_35 : decode cX4_size 35 = .ok (.ireturn, 1) := by decide +kernel
theorem dX4_status_0 : decode cX4_status 0 = .ok (.aload_n 0, 1) := by decide +kernel
theorem dX4_status_1 : decode cX4_status 1 = .ok (.getfield 31, 3) := by decide +kernel
theorem dX4_status_4 : decode cX4_status 4 = .ok (.ireturn, 1) := by decide +kernel
theorem dX4_find_0 : decode cX4_find 0 = .ok (.iload_n 1, 1) := by decide +kernel
theorem dX4_find_1 : decode cX4_find 1 = .ok (.ifCond .lt 18, 3) := by decide +kernel
theorem dX4_find_4 : decode cX4_find 4 = .ok (.iload_n 1, 1) := by decide +kernel
theorem dX4_find_5 : decode cX4_find 5 = .ok (.aload_n 0, 1) := by decide +kernel
theorem dX4_find_6 : decode cX4_find 6 = .ok (.getfield 35, 3) := by decide +kernel
theorem dX4_find_9 : decode cX4_find 9 = .ok (.if_icmp .ge 10, 3) := by decide +kernel
theorem dX4_find_12 : decode cX4_find 12 = .ok (.iload_n 1, 1) := by decide +kernel
theorem dX4_find_13 : decode cX4_find 13 = .ok (.sipush 300, 3) := by decide +kernel
theorem dX4_find_16 : decode cX4_find 16 = .ok (.if_icmp .lt 5, 3) := by decide +kernel
theorem dX4_find_19 : decode cX4_find 19 = .ok (.aconst_null, 1) := by decide +kernel
theorem dX4_find_20 : decode cX4_find 20 = .ok (.areturn, 1) := by decide +kernel
theorem dX4_find_21 : decode cX4_find 21 = .ok (.aload_n 0, 1) := by decide +kernel
theorem dX4_find_22 : decode cX4_find 22 = .ok (.getfield 18, 3) := by decide +kernel
theorem dX4_find_25 : decode cX4_find 25 = .ok (.iload_n 1, 1) := by decide +kernel
theorem dX4_find_26 : decode cX4_find 26 = .ok (.aaload, 1) := by decide +kernel
theorem dX4_find_27 : decode cX4_find 27 = .ok (.areturn, 1) := by decide +kernel
theorem dX4_refusal_0 : decode cX4_refusal 0 = .ok (.aload_n 0, 1) := by decide +kernel
theorem dX4_refusal_1 : decode cX4_refusal 1 = .ok (.ifnull 17, 3) := by decide +kernel
theorem dX4_refusal_4 : decode cX4_refusal 4 = .ok (.iload_n 1, 1) := by decide +kernel
theorem dX4_refusal_5 : decode cX4_refusal 5 = .ok (.invokestatic 109, 3) := by decide +kernel
theorem dX4_refusal_8 : decode cX4_refusal 8 = .ok (.ifCond .eq 10, 3) := by decide +kernel
theorem dX4_refusal_11 : decode cX4_refusal 11 = .ok (.iload_n 2, 1) := by decide +kernel
theorem dX4_refusal_12 : decode cX4_refusal 12 = .ok (.invokestatic 90, 3) := by decide +kernel
theorem dX4_refusal_15 : decode cX4_refusal 15 = .ok (.ifCond .ne 5, 3) := by decide +kernel
theorem dX4_refusal_18 : decode cX4_refusal 18 = .ok (.iconst 1, 1) := by decide +kernel
theorem dX4_refusal_19 : decode cX4_refusal 19 = .ok (.ireturn, 1) := by decide +kernel
theorem dX4_refusal_20 : decode cX4_refusal 20 = .ok (.aload_n 0, 1) := by decide +kernel
theorem dX4_refusal_21 : decode cX4_refusal 21 = .ok (.iload_n 2, 1) := by decide +kernel
theorem dX4_refusal_22 : decode cX4_refusal 22 = .ok (.invokevirtual 60, 3) := by decide +kernel
theorem dX4_refusal_25 : decode cX4_refusal 25 = .ok (.ifCond .ne 5, 3) := by decide +kernel
theorem dX4_refusal_28 : decode cX4_refusal 28 = .ok (.iconst 2, 1) := by decide +kernel
theorem dX4_refusal_29 : decode cX4_refusal 29 = .ok (.ireturn, 1) := by decide +kernel
theorem dX4_refusal_30 : decode cX4_refusal 30 = .ok (.aload_n 0, 1) := by decide +kernel
theorem dX4_refusal_31 : decode cX4_refusal 31 = .ok (.iload_n 1, 1) := by decide +kernel
theorem dX4_refusal_32 : decode cX4_refusal 32 = .ok (.iload_n 2, 1) := by decide +kernel
theorem dX4_refusal_33 : decode cX4_refusal 33 = .ok (.invokevirtual 63, 3) := by decide +kernel
theorem dX4_refusal_36 : decode cX4_refusal 36 = .ok (.ifCond .eq 7, 3) := by decide +kernel
theorem dX4_refusal_39 : decode cX4_refusal 39 = .ok (.iconst 0, 1) := by decide +kernel
theorem dX4_refusal_40 : decode cX4_refusal 40 = .ok (.goto 4, 3) := by decide +kernel
theorem dX4_refusal_43 : decode cX4_refusal 43 = .ok (.iconst 3, 1) := by decide +kernel
theorem dX4_refusal_44 : decode cX4_refusal 44 = .ok (.ireturn, 1) := by decide +kernel
theorem dX4_refusalOfEvery_0 : decode cX4_refusalOfEvery 0 = .ok (.iload_n 0, 1) := by decide +kernel
theorem dX4_refusalOfEvery_1 : decode cX4_refusalOfEvery 1 = .ok (.invokestatic 109, 3) := by decide +kernel
theorem dX4_refusalOfEvery_4 : decode cX4_refusalOfEvery 4 = .ok (.ifCond .eq 10, 3) := by decide +kernel
theorem dX4_refusalOfEvery_7 : decode cX4_refusalOfEvery 7 = .ok (.iload_n 1, 1) := by decide +kernel
theorem dX4_refusalOfEvery_8 : decode cX4_refusalOfEvery 8 = .ok (.invokestatic 90, 3) := by decide +kernel
theorem dX4_refusalOfEvery_11 : decode cX4_refusalOfEvery 11 = .ok (.ifCond .ne 5, 3) := by decide +kernel
theorem dX4_refusalOfEvery_14 : decode cX4_refusalOfEvery 14 = .ok (.iconst 1, 1) := by decide +kernel
theorem dX4_refusalOfEvery_15 : decode cX4_refusalOfEvery 15 = .ok (.ireturn, 1) := by decide +kernel
theorem dX4_refusalOfEvery_16 : decode cX4_refusalOfEvery 16 = .ok (.iload_n 1, 1) := by decide +kernel
theorem dX4_refusalOfEvery_17 : decode cX4_refusalOfEvery 17 = .ok (.ifCond .eq 14, 3) := by decide +kernel
theorem dX4_refusalOfEvery_20 : decode cX4_refusalOfEvery 20 = .ok (.iload_n 1, 1) := by decide +kernel
theorem dX4_refusalOfEvery_21 : decode cX4_refusalOfEvery 21 = .ok (.invokestatic 112, 3) := by decide +kernel
theorem dX4_refusalOfEvery_24 : decode cX4_refusalOfEvery 24 = .ok (.iload_n 0, 1) := by decide +kernel
theorem dX4_refusalOfEvery_25 : decode cX4_refusalOfEvery 25 = .ok (.invokestatic 115, 3) := by decide +kernel
theorem dX4_refusalOfEvery_28 : decode cX4_refusalOfEvery 28 = .ok (.ifCond .eq 5, 3) := by decide +kernel
theorem dX4_refusalOfEvery_31 : decode cX4_refusalOfEvery 31 = .ok (.iconst 0, 1) := by decide +kernel
theorem dX4_refusalOfEvery_32 : decode cX4_refusalOfEvery 32 = .ok (.ireturn, 1) := by decide +kernel
theorem dX4_refusalOfEvery_33 : decode cX4_refusalOfEvery 33 = .ok (.iconst 3, 1) := by decide +kernel
theorem dX4_refusalOfEvery_34 : decode cX4_refusalOfEvery 34 = .ok (.ireturn, 1) := by decide +kernel
theorem dX4_answerToByte_0 : decode cX4_answerToByte 0 = .ok (.iload_n 2, 1) := by decide +kernel
theorem dX4_answerToByte_1 : decode cX4_answerToByte 1 = .ok (.bipush 15, 2) := by decide +kernel
theorem dX4_answerToByte_3 : decode cX4_answerToByte 3 = .ok (.iand, 1) := by decide +kernel
theorem dX4_answerToByte_4 : decode cX4_answerToByte 4 = .ok (.istore 4, 2) := by decide +kernel
theorem dX4_answerToByte_6 : decode cX4_answerToByte 6 = .ok (.iload_n 2, 1) := by decide +kernel
theorem dX4_answerToByte_7 : decode cX4_answerToByte 7 = .ok (.iconst 4, 1) := by decide +kernel
theorem dX4_answerToByte_8 : decode cX4_answerToByte 8 = .ok (.iushr, 1) := by decide +kernel
theorem dX4_answerToByte_9 : decode cX4_answerToByte 9 = .ok (.bipush 7, 2) := by decide +kernel
theorem dX4_answerToByte_11 : decode cX4_answerToByte 11 = .ok (.iand, 1) := by decide +kernel
theorem dX4_answerToByte_12 : decode cX4_answerToByte 12 = .ok (.istore 5, 2) := by decide +kernel
theorem dX4_answerToByte_14 : decode cX4_answerToByte 14 = .ok (.iload_n 2, 1) := by decide +kernel
theorem dX4_answerToByte_15 : decode cX4_answerToByte 15 = .ok (.sipush 128, 3) := by decide +kernel
theorem dX4_answerToByte_18 : decode cX4_answerToByte 18 = .ok (.iand, 1) := by decide +kernel
theorem dX4_answerToByte_19 : decode cX4_answerToByte 19 = .ok (.ifCond .ne 7, 3) := by decide +kernel
theorem dX4_answerToByte_22 : decode cX4_answerToByte 22 = .ok (.iload_n 3, 1) := by decide +kernel
theorem dX4_answerToByte_23 : decode cX4_answerToByte 23 = .ok (.goto 6, 3) := by decide +kernel
theorem dX4_answerToByte_26 : decode cX4_answerToByte 26 = .ok (.iconst 0, 1) := by decide +kernel
theorem dX4_answerToByte_27 : decode cX4_answerToByte 27 = .ok (.iload_n 3, 1) := by decide +kernel
theorem dX4_answerToByte_28 : decode cX4_answerToByte 28 = .ok (.isub, 1) := by decide +kernel
theorem dX4_answerToByte_29 : decode cX4_answerToByte 29 = .ok (.istore 6, 2) := by decide +kernel
theorem dX4_answerToByte_31 : decode cX4_answerToByte 31 = .ok (.aload_n 1, 1) := by decide +kernel
theorem dX4_answerToByte_32 : decode cX4_answerToByte 32 = .ok (.iload 4, 2) := by decide +kernel
theorem dX4_answerToByte_34 : decode cX4_answerToByte 34 = .ok (.iload 5, 2) := by decide +kernel
theorem dX4_answerToByte_36 : decode cX4_answerToByte 36 = .ok (.invokestatic 45, 3) := by decide +kernel
theorem dX4_answerToByte_39 : decode cX4_answerToByte 39 = .ok (.ifCond .ne 19, 3) := by decide +kernel
theorem dX4_answerToByte_42 : decode cX4_answerToByte 42 = .ok (.aload_n 0, 1) := by decide +kernel
theorem dX4_answerToByte_43 : decode cX4_answerToByte 43 = .ok (.getfield 10, 3) := by decide +kernel
theorem dX4_answerToByte_46 : decode cX4_answerToByte 46 = .ok (.aload_n 1, 1) := by decide +kernel
theorem dX4_answerToByte_47 : decode cX4_answerToByte 47 = .ok (.iload 4, 2) := by decide +kernel
theorem dX4_answerToByte_49 : decode cX4_answerToByte 49 = .ok (.iload 6, 2) := by decide +kernel
theorem dX4_answerToByte_51 : decode cX4_answerToByte 51 = .ok (.iconst 0, 1) := by decide +kernel
theorem dX4_answerToByte_52 : decode cX4_answerToByte 52 = .ok (.invokevirtual 52, 3) := by decide +kernel
theorem dX4_answerToByte_55 : decode cX4_answerToByte 55 = .ok (.goto 4, 3) := by decide +kernel
theorem dX4_answerToByte_58 : decode cX4_answerToByte 58 = .ok (.iconst 0, 1) := by decide +kernel
theorem dX4_answerToByte_59 : decode cX4_answerToByte 59 = .ok (.ireturn, 1) := by decide +kernel
theorem dX4_letTake_0 : decode cX4_letTake 0 = .ok (.aload_n 0, 1) := by decide +kernel
theorem dX4_letTake_1 : decode cX4_letTake 1 = .ok (.getfield 80, 3) := by decide +kernel
theorem dX4_letTake_4 : decode cX4_letTake 4 = .ok (.sipush 300, 3) := by decide +kernel
theorem dX4_letTake_7 : decode cX4_letTake 7 = .ok (.if_icmp .lt 4, 3) := by decide +kernel
theorem dX4_letTake_10 : decode cX4_letTake 10 = .ok (.return_, 1) := by decide +kernel
theorem dX4_letTake_11 : decode cX4_letTake 11 = .ok (.aload_n 0, 1) := by decide +kernel
theorem dX4_letTake_12 : decode cX4_letTake 12 = .ok (.getfield 22, 3) := by decide +kernel
theorem dX4_letTake_15 : decode cX4_letTake 15 = .ok (.aload_n 0, 1) := by decide +kernel
theorem dX4_letTake_16 : decode cX4_letTake 16 = .ok (.getfield 80, 3) := by decide +kernel
theorem dX4_letTake_19 : decode cX4_letTake 19 = .ok (.aload_n 1, 1) := by decide +kernel
theorem dX4_letTake_20 : decode cX4_letTake 20 = .ok (.aastore, 1) := by decide +kernel
theorem dX4_letTake_21 : decode cX4_letTake 21 = .ok (.aload_n 0, 1) := by decide +kernel
theorem dX4_letTake_22 : decode cX4_letTake 22 = .ok (.dup, 1) := by decide +kernel
theorem dX4_letTake_23 : decode cX4_letTake 23 = .ok (.getfield 80, 3) := by decide +kernel
theorem dX4_letTake_26 : decode cX4_letTake 26 = .ok (.iconst 1, 1) := by decide +kernel
theorem dX4_letTake_27 : decode cX4_letTake 27 = .ok (.iadd, 1) := by decide +kernel
theorem dX4_letTake_28 : decode cX4_letTake 28 = .ok (.putfield 80, 3) := by decide +kernel
theorem dX4_letTake_31 : decode cX4_letTake 31 = .ok (.aload_n 1, 1) := by decide +kernel
theorem dX4_letTake_32 : decode cX4_letTake 32 = .ok (.aload_n 0, 1) := by decide +kernel
theorem dX4_letTake_33 : decode cX4_letTake 33 = .ok (.getfield 77, 3) := by decide +kernel
theorem dX4_letTake_36 : decode cX4_letTake 36 = .ok (.putfield 118, 3) := by decide +kernel
theorem dX4_letTake_39 : decode cX4_letTake 39 = .ok (.aload_n 1, 1) := by decide +kernel
theorem dX4_letTake_40 : decode cX4_letTake 40 = .ok (.dup, 1) := by decide +kernel
theorem dX4_letTake_41 : decode cX4_letTake 41 = .ok (.getfield 119, 3) := by decide +kernel
theorem dX4_letTake_44 : decode cX4_letTake 44 = .ok (.iconst 1, 1) := by decide +kernel
theorem dX4_letTake_45 : decode cX4_letTake 45 = .ok (.iadd, 1) := by decide +kernel
theorem dX4_letTake_46 : decode cX4_letTake 46 = .ok (.putfield 119, 3) := by decide +kernel
theorem dX4_letTake_49 : decode cX4_letTake 49 = .ok (.aload_n 1, 1) := by decide +kernel
theorem dX4_letTake_50 : decode cX4_letTake 50 = .ok (.aload_n 0, 1) := by decide +kernel
theorem dX4_letTake_51 : decode cX4_letTake 51 = .ok (.getfield 10, 3) := by decide +kernel
theorem dX4_letTake_54 : decode cX4_letTake 54 = .ok (.aload_n 1, 1) := by decide +kernel
theorem dX4_letTake_55 : decode cX4_letTake 55 = .ok (.aload_n 1, 1) := by decide +kernel
theorem dX4_letTake_56 : decode cX4_letTake 56 = .ok (.invokevirtual 122, 3) := by decide +kernel
theorem dX4_letTake_59 : decode cX4_letTake 59 = .ok (.iload_n 2, 1) := by decide +kernel
theorem dX4_letTake_60 : decode cX4_letTake 60 = .ok (.iconst 0, 1) := by decide +kernel
theorem dX4_letTake_61 : decode cX4_letTake 61 = .ok (.invokevirtual 52, 3) := by decide +kernel
theorem dX4_letTake_64 : decode cX4_letTake 64 = .ok (.putfield 126, 3) := by decide +kernel
theorem dX4_letTake_67 : decode cX4_letTake 67 = .ok (.return_, 1) := by decide +kernel
theorem dX4_handOn_0 : decode cX4_handOn 0 = .ok (.aload_n 1, 1) := by decide +kernel
theorem dX4_handOn_1 : decode cX4_handOn 1 = .ok (.ifnonnull 4, 3) := by decide +kernel
theorem dX4_handOn_4 : decode cX4_handOn 4 = .ok (.return_, 1) := by decide +kernel
theorem dX4_handOn_5 : decode cX4_handOn 5 = .ok (.aload_n 1, 1) := by decide +kernel
theorem dX4_handOn_6 : decode cX4_handOn 6 = .ok (.getfield 129, 3) := by decide +kernel
theorem dX4_handOn_9 : decode cX4_handOn 9 = .ok (.astore_n 2, 1) := by decide +kernel
theorem dX4_handOn_10 : decode cX4_handOn 10 = .ok (.aload_n 2, 1) := by decide +kernel
theorem dX4_handOn_11 : decode cX4_handOn 11 = .ok (.ifnull 40, 3) := by decide +kernel
theorem dX4_handOn_14 : decode cX4_handOn 14 = .ok (.aload_n 2, 1) := by decide +kernel
theorem dX4_handOn_15 : decode cX4_handOn 15 = .ok (.getfield 133, 3) := by decide +kernel
theorem dX4_handOn_18 : decode cX4_handOn 18 = .ok (.astore_n 3, 1) := by decide +kernel
theorem dX4_handOn_19 : decode cX4_handOn 19 = .ok (.aload_n 3, 1) := by decide +kernel
theorem dX4_handOn_20 : decode cX4_handOn 20 = .ok (.ifnull 23, 3) := by decide +kernel
theorem dX4_handOn_23 : decode cX4_handOn 23 = .ok (.aload_n 3, 1) := by decide +kernel
theorem dX4_handOn_24 : decode cX4_handOn 24 = .ok (.getfield 118, 3) := by decide +kernel
theorem dX4_handOn_27 : decode cX4_handOn 27 = .ok (.aload_n 0, 1) := by decide +kernel
theorem dX4_handOn_28 : decode cX4_handOn 28 = .ok (.getfield 77, 3) := by decide +kernel
theorem dX4_handOn_31 : decode cX4_handOn 31 = .ok (.if_icmp .eq 12, 3) := by decide +kernel
theorem dX4_handOn_34 : decode cX4_handOn 34 = .ok (.aload_n 0, 1) := by decide +kernel
theorem dX4_handOn_35 : decode cX4_handOn 35 = .ok (.aload_n 3, 1) := by decide +kernel
theorem dX4_handOn_36 : decode cX4_handOn 36 = .ok (.aload_n 1, 1) := by decide +kernel
theorem dX4_handOn_37 : decode cX4_handOn 37 = .ok (.getfield 126, 3) := by decide +kernel
theorem dX4_handOn_40 : decode cX4_handOn 40 = .ok (.invokevirtual 83, 3) := by decide +kernel
theorem dX4_handOn_43 : decode cX4_handOn 43 = .ok (.aload_n 2, 1) := by decide +kernel
theorem dX4_handOn_44 : decode cX4_handOn 44 = .ok (.getfield 139, 3) := by decide +kernel
theorem dX4_handOn_47 : decode cX4_handOn 47 = .ok (.astore_n 2, 1) := by decide +kernel
theorem dX4_handOn_48 : decode cX4_handOn 48 = .ok (.goto (-38), 3) := by decide +kernel
theorem dX4_handOn_51 : decode cX4_handOn 51 = .ok (.return_, 1) := by decide +kernel
theorem dX4_countBearersOf_0 : decode cX4_countBearersOf 0 = .ok (.iconst 0, 1) := by decide +kernel
theorem dX4_countBearersOf_1 : decode cX4_countBearersOf 1 = .ok (.istore_n 2, 1) := by decide +kernel
theorem dX4_countBearersOf_2 : decode cX4_countBearersOf 2 = .ok (.iconst 0, 1) := by decide +kernel
theorem dX4_countBearersOf_3 : decode cX4_countBearersOf 3 = .ok (.istore_n 3, 1) := by decide +kernel
theorem dX4_countBearersOf_4 : decode cX4_countBearersOf 4 = .ok (.iload_n 3, 1) := by decide +kernel
theorem dX4_countBearersOf_5 : decode cX4_countBearersOf 5 = .ok (.aload_n 0, 1) := by decide +kernel
theorem dX4_countBearersOf_6 : decode cX4_countBearersOf 6 = .ok (.getfield 35, 3) := by decide +kernel
theorem dX4_countBearersOf_9 : decode cX4_countBearersOf 9 = .ok (.if_icmp .ge 41, 3) := by decide +kernel
theorem dX4_countBearersOf_12 : decode cX4_countBearersOf 12 = .ok (.iload_n 3, 1) := by decide +kernel
theorem dX4_countBearersOf_13 : decode cX4_countBearersOf 13 = .ok (.sipush 300, 3) := by decide +kernel
theorem dX4_countBearersOf_16 : decode cX4_countBearersOf 16 = .ok (.if_icmp .ge 34, 3) := by decide +kernel
theorem dX4_countBearersOf_19 : decode cX4_countBearersOf 19 = .ok (.aload_n 0, 1) := by decide +kernel
theorem dX4_countBearersOf_20 : decode cX4_countBearersOf 20 = .ok (.getfield 18, 3) := by decide +kernel
theorem dX4_countBearersOf_23 : decode cX4_countBearersOf 23 = .ok (.iload_n 3, 1) := by decide +kernel
theorem dX4_countBearersOf_24 : decode cX4_countBearersOf 24 = .ok (.aaload, 1) := by decide +kernel
theorem dX4_countBearersOf_25 : decode cX4_countBearersOf 25 = .ok (.astore 4, 2) := by decide +kernel
theorem dX4_countBearersOf_27 : decode cX4_countBearersOf 27 = .ok (.aload 4, 2) := by decide +kernel
theorem dX4_countBearersOf_29 : decode cX4_countBearersOf 29 = .ok (.ifnull 15, 3) := by decide +kernel
theorem dX4_countBearersOf_32 : decode cX4_countBearersOf 32 = .ok (.aload 4, 2) := by decide +kernel
theorem dX4_countBearersOf_34 : decode cX4_countBearersOf 34 = .ok (.iload_n 1, 1) := by decide +kernel
theorem dX4_countBearersOf_35 : decode cX4_countBearersOf 35 = .ok (.invokevirtual 60, 3) := by decide +kernel
theorem dX4_countBearersOf_38 : decode cX4_countBearersOf 38 = .ok (.ifCond .eq 6, 3) := by decide +kernel
theorem dX4_countBearersOf_41 : decode cX4_countBearersOf 41 = .ok (.iinc 2 1, 3) := by decide +kernel
theorem dX4_countBearersOf_44 : decode cX4_countBearersOf 44 = .ok (.iinc 3 1, 3) := by decide +kernel
theorem dX4_countBearersOf_47 : decode cX4_countBearersOf 47 = .ok (.goto (-43), 3) := by decide +kernel
theorem dX4_countBearersOf_50 : decode cX4_countBearersOf 50 = .ok (.iload_n 2, 1) := by decide +kernel
theorem dX4_countBearersOf_51 : decode cX4_countBearersOf 51 = .ok (.ireturn, 1) := by decide +kernel
