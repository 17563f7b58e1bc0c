theorem dX5_bit_0 : decode cX5_bit 0 = .ok (.iconst 1, 1) := by decide +kernel
theorem dX5_bit_1 : decode cX5_bit 1 = .ok (.iload_n 0, 1) := by decide +kernel
theorem dX5_bit_2 : decode cX5_bit 2 = .ok (.ishl, 1) := by decide +kernel
theorem dX5_bit_3 : decode cX5_bit 3 = .ok (.ireturn, 1) := by decide +kernel
theorem dX5_have_0 : decode cX5_have 0 = .ok (.aload_n 0, 1) := by decide +kernel
theorem dX5_have_1 : decode cX5_have 1 = .ok (.getfield 22, 3) := by decide +kernel
theorem dX5_have_4 : decode cX5_have 4 = .ok (.iload_n 1, 1) := by decide +kernel
theorem dX5_have_5 : decode cX5_have 5 = .ok (.bipush 12, 2) := by decide +kernel
theorem dX5_have_7 : decode cX5_have 7 = .ok (.imul, 1) := by decide +kernel
theorem dX5_have_8 : decode cX5_have 8 = .ok (.iload_n 2, 1) := by decide +kernel
theorem dX5_have_9 : decode cX5_have 9 = .ok (.iadd, 1) := by decide +kernel
theorem dX5_have_10 : decode cX5_have 10 = .ok (.iload_n 3, 1) := by decide +kernel
theorem dX5_have_11 : decode cX5_have 11 = .ok (.iastore, 1) := by decide +kernel
theorem dX5_have_12 : decode cX5_have 12 = .ok (.return_, 1) := by decide +kernel
theorem dX5_closed_0 : decode cX5_closed 0 = .ok (.iload_n 0, 1) := by decide +kernel
theorem dX5_closed_1 : decode cX5_closed 1 = .ok (.istore_n 1, 1) := by decide +kernel
theorem dX5_closed_2 : decode cX5_closed 2 = .ok (.iload_n 1, 1) := by decide +kernel
theorem dX5_closed_3 : decode cX5_closed 3 = .ok (.iconst 3, 1) := by decide +kernel
theorem dX5_closed_4 : decode cX5_closed 4 = .ok (.invokestatic 84, 3) := by decide +kernel
theorem dX5_closed_7 : decode cX5_closed 7 = .ok (.iand, 1) := by decide +kernel
theorem dX5_closed_8 : decode cX5_closed 8 = .ok (.ifCond .eq 15, 3) := by decide +kernel
theorem dX5_closed_11 : decode cX5_closed 11 = .ok (.iload_n 1, 1) := by decide +kernel
theorem dX5_closed_12 : decode cX5_closed 12 = .ok (.iconst 1, 1) := by decide +kernel
theorem dX5_closed_13 : decode cX5_closed 13 = .ok (.invokestatic 84, 3) := by decide +kernel
theorem dX5_closed_16 : decode cX5_closed 16 = .ok (.iconst 2, 1) := by decide +kernel
theorem dX5_closed_17 : decode cX5_closed 17 = .ok (.invokestatic 84, 3) := by decide +kernel
theorem dX5_closed_20 : decode cX5_closed 20 = .ok (.ior, 1) := by decide +kernel
theorem dX5_closed_21 : decode cX5_closed 21 = .ok (.ior, 1) := by decide +kernel
theorem dX5_closed_22 : decode cX5_closed 22 = .ok (.istore_n 1, 1) := by decide +kernel
theorem dX5_closed_23 : decode cX5_closed 23 = .ok (.iload_n 1, 1) := by decide +kernel
theorem dX5_closed_24 : decode cX5_closed 24 = .ok (.iconst 5, 1) := by decide +kernel
theorem dX5_closed_25 : decode cX5_closed 25 = .ok (.invokestatic 84, 3) := by decide +kernel
theorem dX5_closed_28 : decode cX5_closed 28 = .ok (.iand, 1) := by decide +kernel
theorem dX5_closed_29 : decode cX5_closed 29 = .ok (.ifCond .eq 10, 3) := by decide +kernel
theorem dX5_closed_32 : decode cX5_closed 32 = .ok (.iload_n 1, 1) := by decide +kernel
theorem dX5_closed_33 : decode cX5_closed 33 = .ok (.iconst 4, 1) := by decide +kernel
theorem dX5_closed_34 : decode cX5_closed 34 = .ok (.invokestatic 84, 3) := by decide +kernel
theorem dX5_closed_37 : decode cX5_closed 37 = .ok (.ior, 1) := by decide +kernel
theorem dX5_closed_38 : decode cX5_closed 38 = .ok (.istore_n 1, 1) := by decide +kernel
theorem dX5_closed_39 : decode cX5_closed 39 = .ok (.iload_n 1, 1) := by decide +kernel
theorem dX5_closed_40 : decode cX5_closed 40 = .ok (.ireturn, 1) := by decide +kernel
theorem dX5_heir_0 : decode cX5_heir 0 = .ok (.aload_n 0, 1) := by decide +kernel
theorem dX5_heir_1 : decode cX5_heir 1 = .ok (.getfield 16, 3) := by decide +kernel
theorem dX5_heir_4 : decode cX5_heir 4 = .ok (.iload_n 1, 1) := by decide +kernel
theorem dX5_heir_5 : decode cX5_heir 5 = .ok (.iload_n 2, 1) := by decide +kernel
theorem dX5_heir_6 : decode cX5_heir 6 = .ok (.iastore, 1) := by decide +kernel
theorem dX5_heir_7 : decode cX5_heir 7 = .ok (.aload_n 0, 1) := by decide +kernel
theorem dX5_heir_8 : decode cX5_heir 8 = .ok (.getfield 19, 3) := by decide +kernel
theorem dX5_heir_11 : decode cX5_heir 11 = .ok (.iload_n 1, 1) := by decide +kernel
theorem dX5_heir_12 : decode cX5_heir 12 = .ok (.aload_n 0, 1) := by decide +kernel
theorem dX5_heir_13 : decode cX5_heir 13 = .ok (.getfield 19, 3) := by decide +kernel
theorem dX5_heir_16 : decode cX5_heir 16 = .ok (.iload_n 2, 1) := by decide +kernel
theorem dX5_heir_17 : decode cX5_heir 17 = .ok (.iaload, 1) := by decide +kernel
theorem dX5_heir_18 : decode cX5_heir 18 = .ok (.iload_n 3, 1) := by decide +kernel
theorem dX5_heir_19 : decode cX5_heir 19 = .ok (.invokestatic 88, 3) := by decide +kernel
theorem dX5_heir_22 : decode cX5_heir 22 = .ok (.ior, 1) := by decide +kernel
theorem dX5_heir_23 : decode cX5_heir 23 = .ok (.iastore, 1) := by decide +kernel
theorem dX5_heir_24 : decode cX5_heir 24 = .ok (.return_, 1) := by decide +kernel
theorem dX5_select_0 : decode cX5_select 0 = .ok (.iload_n 1, 1) := by decide +kernel
theorem dX5_select_1 : decode cX5_select 1 = .ok (.istore_n 3, 1) := by decide +kernel
theorem dX5_select_2 : decode cX5_select 2 = .ok (.iload_n 3, 1) := by decide +kernel
theorem dX5_select_3 : decode cX5_select 3 = .ok (.bipush 6, 2) := by decide +kernel
theorem dX5_select_5 : decode cX5_select 5 = .ok (.if_icmp .lt 40, 3) := by decide +kernel
theorem dX5_select_8 : decode cX5_select 8 = .ok (.aload_n 0, 1) := by decide +kernel
theorem dX5_select_9 : decode cX5_select 9 = .ok (.getfield 22, 3) := by decide +kernel
theorem dX5_select_12 : decode cX5_select 12 = .ok (.iload_n 3, 1) := by decide +kernel
theorem dX5_select_13 : decode cX5_select 13 = .ok (.bipush 12, 2) := by decide +kernel
theorem dX5_select_15 : decode cX5_select 15 = .ok (.imul, 1) := by decide +kernel
theorem dX5_select_16 : decode cX5_select 16 = .ok (.iload_n 2, 1) := by decide +kernel
theorem dX5_select_17 : decode cX5_select 17 = .ok (.iadd, 1) := by decide +kernel
theorem dX5_select_18 : decode cX5_select 18 = .ok (.iaload, 1) := by decide +kernel
theorem dX5_select_19 : decode cX5_select 19 = .ok (.iconst (-1), 1) := by decide +kernel
theorem dX5_select_20 : decode cX5_select 20 = .ok (.if_icmp .eq 15, 3) := by decide +kernel
theorem dX5_select_23 : decode cX5_select 23 = .ok (.aload_n 0, 1) := by decide +kernel
theorem dX5_select_24 : decode cX5_select 24 = .ok (.getfield 22, 3) := by decide +kernel
theorem dX5_select_27 : decode cX5_select 27 = .ok (.iload_n 3, 1) := by decide +kernel
theorem dX5_select_28 : decode cX5_select 28 = .ok (.bipush 12, 2) := by decide +kernel
theorem dX5_select_30 : decode cX5_select 30 = .ok (.imul, 1) := by decide +kernel
theorem dX5_select_31 : decode cX5_select 31 = .ok (.iload_n 2, 1) := by decide +kernel
theorem dX5_select_32 : decode cX5_select 32 = .ok (.iadd, 1) := by decide +kernel
theorem dX5_select_33 : decode cX5_select 33 = .ok (.iaload, 1) := by decide +kernel
theorem dX5_select_34 : decode cX5_select 34 = .ok (.ireturn, 1) := by decide +kernel
theorem dX5_select_35 : decode cX5_select 35 = .ok (.aload_n 0, 1) := by decide +kernel
theorem dX5_select_36 : decode cX5_select 36 = .ok (.getfield 16, 3) := by decide +kernel
theorem dX5_select_39 : decode cX5_select 39 = .ok (.iload_n 3, 1) := by decide +kernel
theorem dX5_select_40 : decode cX5_select 40 = .ok (.iaload, 1) := by decide +kernel
theorem dX5_select_41 : decode cX5_select 41 = .ok (.istore_n 3, 1) := by decide +kernel
theorem dX5_select_42 : decode cX5_select 42 = .ok (.goto (-40), 3) := by decide +kernel
theorem dX5_select_45 : decode cX5_select 45 = .ok (.aload_n 0, 1) := by decide +kernel
theorem dX5_select_46 : decode cX5_select 46 = .ok (.aload_n 0, 1) := by decide +kernel
theorem dX5_select_47 : decode cX5_select 47 = .ok (.getfield 19, 3) := by decide +kernel
theorem dX5_select_50 : decode cX5_select 50 = .ok (.iload_n 1, 1) := by decide +kernel
theorem dX5_select_51 : decode cX5_select 51 = .ok (.iaload, 1) := by decide +kernel
theorem dX5_select_52 : decode cX5_select 52 = .ok (.iload_n 2, 1) := by decide +kernel
theorem dX5_select_53 : decode cX5_select 53 = .ok (.invokevirtual 91, 3) := by decide +kernel
theorem dX5_select_56 : decode cX5_select 56 = .ok (.ireturn, 1) := by decide +kernel
theorem dX5_lowest_0 : decode cX5_lowest 0 = .ok (.iconst 1, 1) := by decide +kernel
theorem dX5_lowest_1 : decode cX5_lowest 1 = .ok (.istore_n 3, 1) := by decide +kernel
theorem dX5_lowest_2 : decode cX5_lowest 2 = .ok (.iload_n 3, 1) := by decide +kernel
theorem dX5_lowest_3 : decode cX5_lowest 3 = .ok (.iconst 5, 1) := by decide +kernel
theorem dX5_lowest_4 : decode cX5_lowest 4 = .ok (.if_icmp .gt 122, 3) := by decide +kernel
theorem dX5_lowest_7 : decode cX5_lowest 7 = .ok (.iload_n 1, 1) := by decide +kernel
theorem dX5_lowest_8 : decode cX5_lowest 8 = .ok (.iload_n 3, 1) := by decide +kernel
theorem dX5_lowest_9 : decode cX5_lowest 9 = .ok (.invokestatic 84, 3) := by decide +kernel
theorem dX5_lowest_12 : decode cX5_lowest 12 = .ok (.iand, 1) := by decide +kernel
theorem dX5_lowest_13 : decode cX5_lowest 13 = .ok (.ifCond .eq 107, 3) := by decide +kernel
theorem dX5_lowest_16 : decode cX5_lowest 16 = .ok (.aload_n 0, 1) := by decide +kernel
theorem dX5_lowest_17 : decode cX5_lowest 17 = .ok (.getfield 22, 3) := by decide +kernel
theorem dX5_lowest_20 : decode cX5_lowest 20 = .ok (.iload_n 3, 1) := by decide +kernel
theorem dX5_lowest_21 : decode cX5_lowest 21 = .ok (.bipush 12, 2) := by decide +kernel
theorem dX5_lowest_23 : decode cX5_lowest 23 = .ok (.imul, 1) := by decide +kernel
theorem dX5_lowest_24 : decode cX5_lowest 24 = .ok (.iload_n 2, 1) := by decide +kernel
theorem dX5_lowest_25 : decode cX5_lowest 25 = .ok (.iadd, 1) := by decide +kernel
theorem dX5_lowest_26 : decode cX5_lowest 26 = .ok (.iaload, 1) := by decide +kernel
theorem dX5_lowest_27 : decode cX5_lowest 27 = .ok (.iconst (-1), 1) := by decide +kernel
theorem dX5_lowest_28 : decode cX5_lowest 28 = .ok (.if_icmp .ne 6, 3) := by decide +kernel
theorem dX5_lowest_31 : decode cX5_lowest 31 = .ok (.goto 89, 3) := by decide +kernel
theorem dX5_lowest_34 : decode cX5_lowest 34 = .ok (.iconst 1, 1) := by decide +kernel
theorem dX5_lowest_35 : decode cX5_lowest 35 = .ok (.istore 4, 2) := by decide +kernel
theorem dX5_lowest_37 : decode cX5_lowest 37 = .ok (.iconst 1, 1) := by decide +kernel
theorem dX5_lowest_38 : decode cX5_lowest 38 = .ok (.istore 5, 2) := by decide +kernel
theorem dX5_lowest_40 : decode cX5_lowest 40 = .ok (.iload 5, 2) := by decide +kernel
theorem dX5_lowest_42 : decode cX5_lowest 42 = .ok (.iconst 5, 1) := by decide +kernel
theorem dX5_lowest_43 : decode cX5_lowest 43 = .ok (.if_icmp .gt 60, 3) := by decide +kernel
theorem dX5_lowest_46 : decode cX5_lowest 46 = .ok (.iload 5, 2) := by decide +kernel
theorem dX5_lowest_48 : decode cX5_lowest 48 = .ok (.iload_n 3, 1) := by decide +kernel
theorem dX5_lowest_49 : decode cX5_lowest 49 = .ok (.if_icmp .eq 48, 3) := by decide +kernel
theorem dX5_lowest_52 : decode cX5_lowest 52 = .ok (.iload_n 1, 1) := by decide +kernel
theorem dX5_lowest_53 : decode cX5_lowest 53 = .ok (.iload 5, 2) := by decide +kernel
theorem dX5_lowest_55 : decode cX5_lowest 55 = .ok (.invokestatic 84, 3) := by decide +kernel
theorem dX5_lowest_58 : decode cX5_lowest 58 = .ok (.iand, 1) := by decide +kernel
theorem dX5_lowest_59 : decode cX5_lowest 59 = .ok (.ifCond .eq 38, 3) := by decide +kernel
theorem dX5_lowest_62 : decode cX5_lowest 62 = .ok (.aload_n 0, 1) := by decide +kernel
theorem dX5_lowest_63 : decode cX5_lowest 63 = .ok (.getfield 22, 3) := by decide +kernel
theorem dX5_lowest_66 : decode cX5_lowest 66 = .ok (.iload 5, 2) := by decide +kernel
theorem dX5_lowest_68 : decode cX5_lowest 68 = .ok (.bipush 12, 2) := by decide +kernel
theorem dX5_lowest_70 : decode cX5_lowest 70 = .ok (.imul, 1) := by decide +kernel
theorem dX5_lowest_71 : decode cX5_lowest 71 = .ok (.iload_n 2, 1) := by decide +kernel
theorem dX5_lowest_72 : decode cX5_lowest 72 = .ok (.iadd, 1) := by decide +kernel
theorem dX5_lowest_73 : decode cX5_lowest 73 = .ok (.iaload, 1) := by decide +kernel
theorem dX5_lowest_74 : decode cX5_lowest 74 = .ok (.iconst (-1), 1) := by decide +kernel
theorem dX5_lowest_75 : decode cX5_lowest 75 = .ok (.if_icmp .eq 22, 3) := by decide +kernel
theorem dX5_lowest_78 : decode cX5_lowest 78 = .ok (.iload 5, 2) := by decide +kernel
theorem dX5_lowest_80 : decode cX5_lowest 80 = .ok (.invokestatic 84, 3) := by decide +kernel
theorem dX5_lowest_83 : decode cX5_lowest 83 = .ok (.invokestatic 88, 3) := by decide +kernel
theorem dX5_lowest_86 : decode cX5_lowest 86 = .ok (.iload_n 3, 1) := by decide +kernel
theorem dX5_lowest_87 : decode cX5_lowest 87 = .ok (.invokestatic 84, 3) := by decide +kernel
theorem dX5_lowest_90 : decode cX5_lowest 90 = .ok (.iand, 1) := by decide +kernel
theorem dX5_lowest_91 : decode cX5_lowest 91 = .ok (.ifCond .eq 6, 3) := by decide +kernel
theorem dX5_lowest_94 : decode cX5_lowest 94 = .ok (.iconst 0, 1) := by decide +kernel
theorem dX5_lowest_95 : decode cX5_lowest 95 = .ok (.istore 4, 2) := by decide +kernel
theorem dX5_lowest_97 : decode cX5_lowest 97 = .ok (.iinc 5 1, 3) := by decide +kernel
theorem dX5_lowest_100 : decode cX5_lowest 100 = .ok (.goto (-60), 3) := by decide +kernel
theorem dX5_lowest_103 : decode cX5_lowest 103 = .ok (.iload 4, 2) := by decide +kernel
theorem dX5_lowest_105 : decode cX5_lowest 105 = .ok (.ifCond .eq 15, 3) := by decide +kernel
theorem dX5_lowest_108 : decode cX5_lowest 108 = .ok (.aload_n 0, 1) := by decide +kernel
theorem dX5_lowest_109 : decode cX5_lowest 109 = .ok (.getfield 22, 3) := by decide +kernel
theorem dX5_lowest_112 : decode cX5_lowest 112 = .ok (.iload_n 3, 1) := by decide +kernel
theorem dX5_lowest_113 : decode cX5_lowest 113 = .ok (.bipush 12, 2) := by decide +kernel
theorem dX5_lowest_115 : decode cX5_lowest 115 = .ok (.imul, 1) := by decide +kernel
theorem dX5_lowest_116 : decode cX5_lowest 116 = .ok (.iload_n 2, 1) := by decide +kernel
theorem dX5_lowest_117 : decode cX5_lowest 117 = .ok (.iadd, 1) := by decide +kernel
theorem dX5_lowest_118 : decode cX5_lowest 118 = .ok (.iaload, 1) := by decide +kernel
theorem dX5_lowest_119 : decode cX5_lowest 119 = .ok (.ireturn, 1) := by decide +kernel
theorem dX5_lowest_120 : decode cX5_lowest 120 = .ok (.iinc 3 1, 3) := by decide +kernel
theorem dX5_lowest_123 : decode cX5_lowest 123 = .ok (.goto (-121), 3) := by decide +kernel
theorem dX5_lowest_126 : decode cX5_lowest 126 = .ok (.iconst (-1), 1) := by decide +kernel
theorem dX5_lowest_127 : decode cX5_lowest 127 = .ok (.ireturn, 1) := by decide +kernel
theorem dX5_push_0 : decode cX5_push 0 = .ok (.aload_n 0, 1) := by decide +kernel
theorem dX5_push_1 : decode cX5_push 1 = .ok (.getfield 74, 3) := by decide +kernel
theorem dX5_push_4 : decode cX5_push 4 = .ok (.aload_n 0, 1) := by decide +kernel
theorem dX5_push_5 : decode cX5_push 5 = .ok (.getfield 98, 3) := by decide +kernel
theorem dX5_push_8 : decode cX5_push 8 = .ok (.iload_n 1, 1) := by decide +kernel
theorem dX5_push_9 : decode cX5_push 9 = .ok (.iastore, 1) := by decide +kernel
theorem dX5_push_10 : decode cX5_push 10 = .ok (.aload_n 0, 1) := by decide +kernel
theorem dX5_push_11 : decode cX5_push 11 = .ok (.dup, 1) := by decide +kernel
theorem dX5_push_12 : decode cX5_push 12 = .ok (.getfield 98, 3) := by decide +kernel
theorem dX5_push_15 : decode cX5_push 15 = .ok (.iconst 1, 1) := by decide +kernel
theorem dX5_push_16 : decode cX5_push 16 = .ok (.iadd, 1) := by decide +kernel
theorem dX5_push_17 : decode cX5_push 17 = .ok (.putfield 98, 3) := by decide +kernel
theorem dX5_push_20 : decode cX5_push 20 = .ok (.return_, 1) := by decide +kernel
theorem dX5_pop_0 : decode cX5_pop 0 = .ok (.aload_n 0, 1) := by decide +kernel
theorem dX5_pop_1 : decode cX5_pop 1 = .ok (.dup, 1) := by decide +kernel
theorem dX5_pop_2 : decode cX5_pop 2 = .ok (.getfield 98, 3) := by decide +kernel
theorem dX5_pop_5 : decode cX5_pop 5 = .ok (.iconst 1, 1) := by decide +kernel
theorem dX5_pop_6 : decode cX5_pop 6 = .ok (.isub, 1) := by decide +kernel
theorem dX5_pop_7 : decode cX5_pop 7 = .ok (.putfield 98, 3) := by decide +kernel
theorem dX5_pop_10 : decode cX5_pop 10 = .ok (.aload_n 0, 1) := by decide +kernel
theorem dX5_pop_11 : decode cX5_pop 11 = .ok (.getfield 74, 3) := by decide +kernel
theorem dX5_pop_14 : decode cX5_pop 14 = .ok (.aload_n 0, 1) := by decide +kernel
theorem dX5_pop_15 : decode cX5_pop 15 = .ok (.getfield 98, 3) := by decide +kernel
theorem dX5_pop_18 : decode cX5_pop 18 = .ok (.iaload, 1) := by decide +kernel
theorem dX5_pop_19 : decode cX5_pop 19 = .ok (.ireturn, 1) := by decide +kernel
theorem dX5_enter_0 : decode cX5_enter 0 = .ok (.aload_n 0, 1) := by decide +kernel
theorem dX5_enter_1 : decode cX5_enter 1 = .ok (.getfield 102, 3) := by decide +kernel
theorem dX5_enter_4 : decode cX5_enter 4 = .ok (.bipush 64, 2) := by decide +kernel
theorem dX5_enter_6 : decode cX5_enter 6 = .ok (.if_icmp .ge 13, 3) := by decide +kernel
theorem dX5_enter_9 : decode cX5_enter 9 = .ok (.aload_n 0, 1) := by decide +kernel
theorem dX5_enter_10 : decode cX5_enter 10 = .ok (.getfield 62, 3) := by decide +kernel
theorem dX5_enter_13 : decode cX5_enter 13 = .ok (.aload_n 0, 1) := by decide +kernel
theorem dX5_enter_14 : decode cX5_enter 14 = .ok (.getfield 102, 3) := by decide +kernel
theorem dX5_enter_17 : decode cX5_enter 17 = .ok (.iload_n 1, 1) := by decide +kernel
theorem dX5_enter_18 : decode cX5_enter 18 = .ok (.iastore, 1) := by decide +kernel
theorem dX5_enter_19 : decode cX5_enter 19 = .ok (.aload_n 0, 1) := by decide +kernel
theorem dX5_enter_20 : decode cX5_enter 20 = .ok (.dup, 1) := by decide +kernel
theorem dX5_enter_21 : decode cX5_enter 21 = .ok (.getfield 102, 3) := by decide +kernel
theorem dX5_enter_24 : decode cX5_enter 24 = .ok (.iconst 1, 1) := by decide +kernel
theorem dX5_enter_25 : decode cX5_enter 25 = .ok (.iadd, 1) := by decide +kernel
theorem dX5_enter_26 : decode cX5_enter 26 = .ok (.putfield 102, 3) := by decide +kernel
theorem dX5_enter_29 : decode cX5_enter 29 = .ok (.aload_n 0, 1) := by decide +kernel
theorem dX5_enter_30 : decode cX5_enter 30 = .ok (.getfield 65, 3) := by decide +kernel
theorem dX5_enter_33 : decode cX5_enter 33 = .ok (.aload_n 0, 1) := by decide +kernel
theorem dX5_enter_34 : decode cX5_enter 34 = .ok (.getfield 105, 3) := by decide +kernel
theorem dX5_enter_37 : decode cX5_enter 37 = .ok (.iload_n 1, 1) := by decide +kernel
theorem dX5_enter_38 : decode cX5_enter 38 = .ok (.iastore, 1) := by decide +kernel
theorem dX5_enter_39 : decode cX5_enter 39 = .ok (.aload_n 0, 1) := by decide +kernel
theorem dX5_enter_40 : decode cX5_enter 40 = .ok (.getfield 68, 3) := by decide +kernel
theorem dX5_enter_43 : decode cX5_enter 43 = .ok (.aload_n 0, 1) := by decide +kernel
theorem dX5_enter_44 : decode cX5_enter 44 = .ok (.getfield 105, 3) := by decide +kernel
theorem dX5_enter_47 : decode cX5_enter 47 = .ok (.aload_n 0, 1) := by decide +kernel
theorem dX5_enter_48 : decode cX5_enter 48 = .ok (.getfield 13, 3) := by decide +kernel
theorem dX5_enter_51 : decode cX5_enter 51 = .ok (.iload_n 1, 1) := by decide +kernel
theorem dX5_enter_52 : decode cX5_enter 52 = .ok (.iaload, 1) := by decide +kernel
theorem dX5_enter_53 : decode cX5_enter 53 = .ok (.iastore, 1) := by decide +kernel
theorem dX5_enter_54 : decode cX5_enter 54 = .ok (.aload_n 0, 1) := by decide +kernel
theorem dX5_enter_55 : decode cX5_enter 55 = .ok (.getfield 71, 3) := by decide +kernel
theorem dX5_enter_58 : decode cX5_enter 58 = .ok (.aload_n 0, 1) := by decide +kernel
theorem dX5_enter_59 : decode cX5_enter 59 = .ok (.getfield 105, 3) := by decide +kernel
theorem dX5_enter_62 : decode cX5_enter 62 = .ok (.iload_n 2, 1) := by decide +kernel
theorem dX5_enter_63 : decode cX5_enter 63 = .ok (.iastore, 1) := by decide +kernel
theorem dX5_enter_64 : decode cX5_enter 64 = .ok (.aload_n 0, 1) := by decide +kernel
theorem dX5_enter_65 : decode cX5_enter 65 = .ok (.dup, 1) := by decide +kernel
theorem dX5_enter_66 : decode cX5_enter 66 = .ok (.getfield 105, 3) := by decide +kernel
theorem dX5_enter_69 : decode cX5_enter 69 = .ok (.iconst 1, 1) := by decide +kernel
theorem dX5_enter_70 : decode cX5_enter 70 = .ok (.iadd, 1) := by decide +kernel
theorem dX5_enter_71 : decode cX5_enter 71 = .ok (.putfield 105, 3) := by decide +kernel
theorem dX5_enter_74 : decode cX5_enter 74 = .ok (.return_, 1) := by decide +kernel
theorem dX5_act_0 : decode cX5_act 0 = .ok (.aload_n 0, 1) := by decide +kernel
theorem dX5_act_1 : decode cX5_act 1 = .ok (.iconst 0, 1) := by decide +kernel
theorem dX5_act_2 : decode cX5_act 2 = .ok (.putfield 105, 3) := by decide +kernel
theorem dX5_act_5 : decode cX5_act 5 = .ok (.aload_n 0, 1) := by decide +kernel
theorem dX5_act_6 : decode cX5_act 6 = .ok (.iconst 0, 1) := by decide +kernel
theorem dX5_act_7 : decode cX5_act 7 = .ok (.putfield 98, 3) := by decide +kernel
theorem dX5_act_10 : decode cX5_act 10 = .ok (.aload_n 0, 1) := by decide +kernel
theorem dX5_act_11 : decode cX5_act 11 = .ok (.aload_n 0, 1) := by decide +kernel
theorem dX5_act_12 : decode cX5_act 12 = .ok (.getfield 25, 3) := by decide +kernel
theorem dX5_act_15 : decode cX5_act 15 = .ok (.bipush 10, 2) := by decide +kernel
theorem dX5_act_17 : decode cX5_act 17 = .ok (.aload_n 0, 1) := by decide +kernel
theorem dX5_act_18 : decode cX5_act 18 = .ok (.getfield 34, 3) := by decide +kernel
theorem dX5_act_21 : decode cX5_act 21 = .ok (.iload_n 1, 1) := by decide +kernel
theorem dX5_act_22 : decode cX5_act 22 = .ok (.iaload, 1) := by decide +kernel
theorem dX5_act_23 : decode cX5_act 23 = .ok (.iadd, 1) := by decide +kernel
theorem dX5_act_24 : decode cX5_act 24 = .ok (.bipush 12, 2) := by decide +kernel
theorem dX5_act_26 : decode cX5_act 26 = .ok (.imul, 1) := by decide +kernel
theorem dX5_act_27 : decode cX5_act 27 = .ok (.iload_n 2, 1) := by decide +kernel
theorem dX5_act_28 : decode cX5_act 28 = .ok (.iadd, 1) := by decide +kernel
theorem dX5_act_29 : decode cX5_act 29 = .ok (.iaload, 1) := by decide +kernel
theorem dX5_act_30 : decode cX5_act 30 = .ok (.iload_n 3, 1) := by decide +kernel
theorem dX5_act_31 : decode cX5_act 31 = .ok (.invokevirtual 108, 3) := by decide +kernel
theorem dX5_act_34 : decode cX5_act 34 = .ok (.aload_n 0, 1) := by decide +kernel
theorem dX5_act_35 : decode cX5_act 35 = .ok (.getfield 105, 3) := by decide +kernel
theorem dX5_act_38 : decode cX5_act 38 = .ok (.ifCond .le 224, 3) := by decide +kernel
theorem dX5_act_41 : decode cX5_act 41 = .ok (.aload_n 0, 1) := by decide +kernel
theorem dX5_act_42 : decode cX5_act 42 = .ok (.getfield 105, 3) := by decide +kernel
theorem dX5_act_45 : decode cX5_act 45 = .ok (.iconst 1, 1) := by decide +kernel
theorem dX5_act_46 : decode cX5_act 46 = .ok (.isub, 1) := by decide +kernel
theorem dX5_act_47 : decode cX5_act 47 = .ok (.istore 4, 2) := by decide +kernel
theorem dX5_act_49 : decode cX5_act 49 = .ok (.aload_n 0, 1) := by decide +kernel
theorem dX5_act_50 : decode cX5_act 50 = .ok (.getfield 9, 3) := by decide +kernel
theorem dX5_act_53 : decode cX5_act 53 = .ok (.aload_n 0, 1) := by decide +kernel
theorem dX5_act_54 : decode cX5_act 54 = .ok (.getfield 68, 3) := by decide +kernel
theorem dX5_act_57 : decode cX5_act 57 = .ok (.iload 4, 2) := by decide +kernel
theorem dX5_act_59 : decode cX5_act 59 = .ok (.iaload, 1) := by decide +kernel
theorem dX5_act_60 : decode cX5_act 60 = .ok (.iaload, 1) := by decide +kernel
theorem dX5_act_61 : decode cX5_act 61 = .ok (.istore 5, 2) := by decide +kernel
theorem dX5_act_63 : decode cX5_act 63 = .ok (.aload_n 0, 1) := by decide +kernel
theorem dX5_act_64 : decode cX5_act 64 = .ok (.getfield 68, 3) := by decide +kernel
theorem dX5_act_67 : decode cX5_act 67 = .ok (.iload 4, 2) := by decide +kernel
theorem dX5_act_69 : decode cX5_act 69 = .ok (.dup2, 1) := by decide +kernel
theorem dX5_act_70 : decode cX5_act 70 = .ok (.iaload, 1) := by decide +kernel
theorem dX5_act_71 : decode cX5_act 71 = .ok (.iconst 1, 1) := by decide +kernel
theorem dX5_act_72 : decode cX5_act 72 = .ok (.iadd, 1) := by decide +kernel
theorem dX5_act_73 : decode cX5_act 73 = .ok (.iastore, 1) := by decide +kernel
theorem dX5_act_74 : decode cX5_act 74 = .ok (.iload 5, 2) := by decide +kernel
theorem dX5_act_76 : decode cX5_act 76 = .ok (.sipush 3000, 3) := by decide +kernel
theorem dX5_act_79 : decode cX5_act 79 = .ok (.if_icmp .lt 16, 3) := by decide +kernel
theorem dX5_act_82 : decode cX5_act 82 = .ok (.aload_n 0, 1) := by decide +kernel
theorem dX5_act_83 : decode cX5_act 83 = .ok (.dup, 1) := by decide +kernel
theorem dX5_act_84 : decode cX5_act 84 = .ok (.getfield 105, 3) := by decide +kernel
theorem dX5_act_87 : decode cX5_act 87 = .ok (.iconst 1, 1) := by decide +kernel
theorem dX5_act_88 : decode cX5_act 88 = .ok (.isub, 1) := by decide +kernel
theorem dX5_act_89 : decode cX5_act 89 = .ok (.putfield 105, 3) := by decide +kernel
theorem dX5_act_92 : decode cX5_act 92 = .ok (.goto 167, 3) := by decide +kernel
theorem dX5_act_95 : decode cX5_act 95 = .ok (.iload 5, 2) := by decide +kernel
theorem dX5_act_97 : decode cX5_act 97 = .ok (.sipush 2000, 3) := by decide +kernel
theorem dX5_act_100 : decode cX5_act 100 = .ok (.if_icmp .lt 20, 3) := by decide +kernel
theorem dX5_act_103 : decode cX5_act 103 = .ok (.aload_n 0, 1) := by decide +kernel
theorem dX5_act_104 : decode cX5_act 104 = .ok (.iload 5, 2) := by decide +kernel
theorem dX5_act_106 : decode cX5_act 106 = .ok (.sipush 2000, 3) := by decide +kernel
theorem dX5_act_109 : decode cX5_act 109 = .ok (.isub, 1) := by decide +kernel
theorem dX5_act_110 : decode cX5_act 110 = .ok (.aload_n 0, 1) := by decide +kernel
theorem dX5_act_111 : decode cX5_act 111 = .ok (.invokevirtual 112, 3) := by decide +kernel
theorem dX5_act_114 : decode cX5_act 114 = .ok (.invokevirtual 108, 3) := by decide +kernel
theorem dX5_act_117 : decode cX5_act 117 = .ok (.goto 142, 3) := by decide +kernel
theorem dX5_act_120 : decode cX5_act 120 = .ok (.iload 5, 2) := by decide +kernel
theorem dX5_act_122 : decode cX5_act 122 = .ok (.sipush 1312, 3) := by decide +kernel
theorem dX5_act_125 : decode cX5_act 125 = .ok (.if_icmp .lt 28, 3) := by decide +kernel
theorem dX5_act_128 : decode cX5_act 128 = .ok (.aload_n 0, 1) := by decide +kernel
theorem dX5_act_129 : decode cX5_act 129 = .ok (.aload_n 0, 1) := by decide +kernel
theorem dX5_act_130 : decode cX5_act 130 = .ok (.getfield 25, 3) := by decide +kernel
theorem dX5_act_133 : decode cX5_act 133 = .ok (.iload 5, 2) := by decide +kernel
theorem dX5_act_135 : decode cX5_act 135 = .ok (.sipush 1312, 3) := by decide +kernel
theorem dX5_act_138 : decode cX5_act 138 = .ok (.isub, 1) := by decide +kernel
theorem dX5_act_139 : decode cX5_act 139 = .ok (.bipush 12, 2) := by decide +kernel
theorem dX5_act_141 : decode cX5_act 141 = .ok (.iadd, 1) := by decide +kernel
theorem dX5_act_142 : decode cX5_act 142 = .ok (.iaload, 1) := by decide +kernel
theorem dX5_act_143 : decode cX5_act 143 = .ok (.aload_n 0, 1) := by decide +kernel
theorem dX5_act_144 : decode cX5_act 144 = .ok (.invokevirtual 112, 3) := by decide +kernel
theorem dX5_act_147 : decode cX5_act 147 = .ok (.invokevirtual 108, 3) := by decide +kernel
theorem dX5_act_150 : decode cX5_act 150 = .ok (.goto 109, 3) := by decide +kernel
theorem dX5_act_153 : decode cX5_act 153 = .ok (.iload 5, 2) := by decide +kernel
theorem dX5_act_155 : decode cX5_act 155 = .ok (.sipush 1200, 3) := by decide +kernel
theorem dX5_act_158 : decode cX5_act 158 = .ok (.if_icmp .lt 44, 3) := by decide +kernel
theorem dX5_act_161 : decode cX5_act 161 = .ok (.aload_n 0, 1) := by decide +kernel
theorem dX5_act_162 : decode cX5_act 162 = .ok (.aload_n 0, 1) := by decide +kernel
theorem dX5_act_163 : decode cX5_act 163 = .ok (.getfield 25, 3) := by decide +kernel
theorem dX5_act_166 : decode cX5_act 166 = .ok (.aload_n 0, 1) := by decide +kernel
theorem dX5_act_167 : decode cX5_act 167 = .ok (.getfield 16, 3) := by decide +kernel
theorem dX5_act_170 : decode cX5_act 170 = .ok (.aload_n 0, 1) := by decide +kernel
theorem dX5_act_171 : decode cX5_act 171 = .ok (.getfield 65, 3) := by decide +kernel
theorem dX5_act_174 : decode cX5_act 174 = .ok (.iload 4, 2) := by decide +kernel
theorem dX5_act_176 : decode cX5_act 176 = .ok (.iaload, 1) := by decide +kernel
theorem dX5_act_177 : decode cX5_act 177 = .ok (.bipush 10, 2) := by decide +kernel
theorem dX5_act_179 : decode cX5_act 179 = .ok (.idiv, 1) := by decide +kernel
theorem dX5_act_180 : decode cX5_act 180 = .ok (.iaload, 1) := by decide +kernel
theorem dX5_act_181 : decode cX5_act 181 = .ok (.bipush 12, 2) := by decide +kernel
theorem dX5_act_183 : decode cX5_act 183 = .ok (.imul, 1) := by decide +kernel
theorem dX5_act_184 : decode cX5_act 184 = .ok (.iload 5, 2) := by decide +kernel
theorem dX5_act_186 : decode cX5_act 186 = .ok (.iadd, 1) := by decide +kernel
theorem dX5_act_187 : decode cX5_act 187 = .ok (.sipush 1200, 3) := by decide +kernel
theorem dX5_act_190 : decode cX5_act 190 = .ok (.isub, 1) := by decide +kernel
theorem dX5_act_191 : decode cX5_act 191 = .ok (.iaload, 1) := by decide +kernel
theorem dX5_act_192 : decode cX5_act 192 = .ok (.aload_n 0, 1) := by decide +kernel
theorem dX5_act_193 : decode cX5_act 193 = .ok (.invokevirtual 112, 3) := by decide +kernel
theorem dX5_act_196 : decode cX5_act 196 = .ok (.invokevirtual 108, 3) := by decide +kernel
theorem dX5_act_199 : decode cX5_act 199 = .ok (.goto 60, 3) := by decide +kernel
theorem dX5_act_202 : decode cX5_act 202 = .ok (.iload 5, 2) := by decide +kernel
theorem dX5_act_204 : decode cX5_act 204 = .ok (.sipush 1100, 3) := by decide +kernel
theorem dX5_act_207 : decode cX5_act 207 = .ok (.if_icmp .lt 38, 3) := by decide +kernel
theorem dX5_act_210 : decode cX5_act 210 = .ok (.aload_n 0, 1) := by decide +kernel
theorem dX5_act_211 : decode cX5_act 211 = .ok (.aload_n 0, 1) := by decide +kernel
theorem dX5_act_212 : decode cX5_act 212 = .ok (.getfield 25, 3) := by decide +kernel
theorem dX5_act_215 : decode cX5_act 215 = .ok (.bipush 10, 2) := by decide +kernel
theorem dX5_act_217 : decode cX5_act 217 = .ok (.aload_n 0, 1) := by decide +kernel
theorem dX5_act_218 : decode cX5_act 218 = .ok (.getfield 34, 3) := by decide +kernel
theorem dX5_act_221 : decode cX5_act 221 = .ok (.iload_n 1, 1) := by decide +kernel
theorem dX5_act_222 : decode cX5_act 222 = .ok (.iaload, 1) := by decide +kernel
theorem dX5_act_223 : decode cX5_act 223 = .ok (.iadd, 1) := by decide +kernel
theorem dX5_act_224 : decode cX5_act 224 = .ok (.bipush 12, 2) := by decide +kernel
theorem dX5_act_226 : decode cX5_act 226 = .ok (.imul, 1) := by decide +kernel
theorem dX5_act_227 : decode cX5_act 227 = .ok (.iload 5, 2) := by decide +kernel
theorem dX5_act_229 : decode cX5_act 229 = .ok (.iadd, 1) := by decide +kernel
theorem dX5_act_230 : decode cX5_act 230 = .ok (.sipush 1100, 3) := by decide +kernel
theorem dX5_act_233 : decode cX5_act 233 = .ok (.isub, 1) := by decide +kernel
theorem dX5_act_234 : decode cX5_act 234 = .ok (.iaload, 1) := by decide +kernel
theorem dX5_act_235 : decode cX5_act 235 = .ok (.aload_n 0, 1) := by decide +kernel
theorem dX5_act_236 : decode cX5_act 236 = .ok (.invokevirtual 112, 3) := by decide +kernel
theorem dX5_act_239 : decode cX5_act 239 = .ok (.invokevirtual 108, 3) := by decide +kernel
theorem dX5_act_242 : decode cX5_act 242 = .ok (.goto 17, 3) := by decide +kernel
theorem dX5_act_245 : decode cX5_act 245 = .ok (.aload_n 0, 1) := by decide +kernel
theorem dX5_act_246 : decode cX5_act 246 = .ok (.iload_n 1, 1) := by decide +kernel
theorem dX5_act_247 : decode cX5_act 247 = .ok (.iload 5, 2) := by decide +kernel
theorem dX5_act_249 : decode cX5_act 249 = .ok (.aload_n 0, 1) := by decide +kernel
theorem dX5_act_250 : decode cX5_act 250 = .ok (.getfield 71, 3) := by decide +kernel
theorem dX5_act_253 : decode cX5_act 253 = .ok (.iload 4, 2) := by decide +kernel
theorem dX5_act_255 : decode cX5_act 255 = .ok (.iaload, 1) := by decide +kernel
theorem dX5_act_256 : decode cX5_act 256 = .ok (.invokevirtual 116, 3) := by decide +kernel
theorem dX5_act_259 : decode cX5_act 259 = .ok (.goto (-225), 3) := by decide +kernel
theorem dX5_act_262 : decode cX5_act 262 = .ok (.aload_n 0, 1) := by decide +kernel
theorem dX5_act_263 : decode cX5_act 263 = .ok (.invokevirtual 112, 3) := by decide +kernel
theorem dX5_act_266 : decode cX5_act 266 = .ok (.ireturn, 1) := by decide +kernel
theorem dX5_step_0 : decode cX5_step 0 = .ok (.iload_n 2, 1) := by decide +kernel
theorem dX5_step_1 : decode cX5_step 1 = .ok (.sipush 1000, 3) := by decide +kernel
theorem dX5_step_4 : decode cX5_step 4 = .ok (.if_icmp .ge 9, 3) := by decide +kernel
theorem dX5_step_7 : decode cX5_step 7 = .ok (.aload_n 0, 1) := by decide +kernel
theorem dX5_step_8 : decode cX5_step 8 = .ok (.iload_n 2, 1) := by decide +kernel
theorem dX5_step_9 : decode cX5_step 9 = .ok (.invokevirtual 119, 3) := by decide +kernel
theorem dX5_step_12 : decode cX5_step 12 = .ok (.return_, 1) := by decide +kernel
theorem dX5_step_13 : decode cX5_step 13 = .ok (.iload_n 2, 1) := by decide +kernel
theorem dX5_step_14 : decode cX5_step 14 = .ok (.tableswitch 104 1000 1009 #[54, 60, 71, 104, 104, 104, 104, 104, 82, 93], 54) := by decide +kernel
theorem dX5_step_68 : decode cX5_step 68 = .ok (.aload_n 0, 1) := by decide +kernel
theorem dX5_step_69 : decode cX5_step 69 = .ok (.iload_n 3, 1) := by decide +kernel
theorem dX5_step_70 : decode cX5_step 70 = .ok (.invokevirtual 119, 3) := by decide +kernel
theorem dX5_step_73 : decode cX5_step 73 = .ok (.return_, 1) := by decide +kernel
theorem dX5_step_74 : decode cX5_step 74 = .ok (.aload_n 0, 1) := by decide +kernel
theorem dX5_step_75 : decode cX5_step 75 = .ok (.aload_n 0, 1) := by decide +kernel
theorem dX5_step_76 : decode cX5_step 76 = .ok (.getfield 37, 3) := by decide +kernel
theorem dX5_step_79 : decode cX5_step 79 = .ok (.iload_n 1, 1) := by decide +kernel
theorem dX5_step_80 : decode cX5_step 80 = .ok (.iaload, 1) := by decide +kernel
theorem dX5_step_81 : decode cX5_step 81 = .ok (.invokevirtual 119, 3) := by decide +kernel
theorem dX5_step_84 : decode cX5_step 84 = .ok (.return_, 1) := by decide +kernel
theorem dX5_step_85 : decode cX5_step 85 = .ok (.aload_n 0, 1) := by decide +kernel
theorem dX5_step_86 : decode cX5_step 86 = .ok (.aload_n 0, 1) := by decide +kernel
theorem dX5_step_87 : decode cX5_step 87 = .ok (.getfield 40, 3) := by decide +kernel
theorem dX5_step_90 : decode cX5_step 90 = .ok (.iload_n 1, 1) := by decide +kernel
theorem dX5_step_91 : decode cX5_step 91 = .ok (.iaload, 1) := by decide +kernel
theorem dX5_step_92 : decode cX5_step 92 = .ok (.invokevirtual 119, 3) := by decide +kernel
theorem dX5_step_95 : decode cX5_step 95 = .ok (.return_, 1) := by decide +kernel
theorem dX5_step_96 : decode cX5_step 96 = .ok (.aload_n 0, 1) := by decide +kernel
theorem dX5_step_97 : decode cX5_step 97 = .ok (.getfield 37, 3) := by decide +kernel
theorem dX5_step_100 : decode cX5_step 100 = .ok (.iload_n 1, 1) := by decide +kernel
theorem dX5_step_101 : decode cX5_step 101 = .ok (.aload_n 0, 1) := by decide +kernel
theorem dX5_step_102 : decode cX5_step 102 = .ok (.invokevirtual 112, 3) := by decide +kernel
theorem dX5_step_105 : decode cX5_step 105 = .ok (.iastore, 1) := by decide +kernel
theorem dX5_step_106 : decode cX5_step 106 = .ok (.return_, 1) := by decide +kernel
theorem dX5_step_107 : decode cX5_step 107 = .ok (.aload_n 0, 1) := by decide +kernel
theorem dX5_step_108 : decode cX5_step 108 = .ok (.getfield 40, 3) := by decide +kernel
theorem dX5_step_111 : decode cX5_step 111 = .ok (.iload_n 1, 1) := by decide +kernel
theorem dX5_step_112 : decode cX5_step 112 = .ok (.aload_n 0, 1) := by decide +kernel
theorem dX5_step_113 : decode cX5_step 113 = .ok (.invokevirtual 112, 3) := by decide +kernel
theorem dX5_step_116 : decode cX5_step 116 = .ok (.iastore, 1) := by decide +kernel
theorem dX5_step_117 : decode cX5_step 117 = .ok (.return_, 1) := by decide +kernel
theorem dX5_step_118 : decode cX5_step 118 = .ok (.aload_n 0, 1) := by decide +kernel
theorem dX5_step_119 : decode cX5_step 119 = .ok (.invokevirtual 112, 3) := by decide +kernel
theorem dX5_step_122 : decode cX5_step 122 = .ok (.istore 4, 2) := by decide +kernel
theorem dX5_step_124 : decode cX5_step 124 = .ok (.aload_n 0, 1) := by decide +kernel
theorem dX5_step_125 : decode cX5_step 125 = .ok (.invokevirtual 112, 3) := by decide +kernel
theorem dX5_step_128 : decode cX5_step 128 = .ok (.istore 5, 2) := by decide +kernel
theorem dX5_step_130 : decode cX5_step 130 = .ok (.aload_n 0, 1) := by decide +kernel
theorem dX5_step_131 : decode cX5_step 131 = .ok (.iload_n 2, 1) := by decide +kernel
theorem dX5_step_132 : decode cX5_step 132 = .ok (.sipush 1003, 3) := by decide +kernel
theorem dX5_step_135 : decode cX5_step 135 = .ok (.if_icmp .ne 11, 3) := by decide +kernel
theorem dX5_step_138 : decode cX5_step 138 = .ok (.iload 5, 2) := by decide +kernel
theorem dX5_step_140 : decode cX5_step 140 = .ok (.iload 4, 2) := by decide +kernel
theorem dX5_step_142 : decode cX5_step 142 = .ok (.iadd, 1) := by decide +kernel
theorem dX5_step_143 : decode cX5_step 143 = .ok (.goto 53, 3) := by decide +kernel
theorem dX5_step_146 : decode cX5_step 146 = .ok (.iload_n 2, 1) := by decide +kernel
theorem dX5_step_147 : decode cX5_step 147 = .ok (.sipush 1004, 3) := by decide +kernel
theorem dX5_step_150 : decode cX5_step 150 = .ok (.if_icmp .ne 11, 3) := by decide +kernel
theorem dX5_step_153 : decode cX5_step 153 = .ok (.iload 5, 2) := by decide +kernel
theorem dX5_step_155 : decode cX5_step 155 = .ok (.iload 4, 2) := by decide +kernel
theorem dX5_step_157 : decode cX5_step 157 = .ok (.isub, 1) := by decide +kernel
theorem dX5_step_158 : decode cX5_step 158 = .ok (.goto 38, 3) := by decide +kernel
theorem dX5_step_161 : decode cX5_step 161 = .ok (.iload_n 2, 1) := by decide +kernel
theorem dX5_step_162 : decode cX5_step 162 = .ok (.sipush 1005, 3) := by decide +kernel
theorem dX5_step_165 : decode cX5_step 165 = .ok (.if_icmp .ne 11, 3) := by decide +kernel
theorem dX5_step_168 : decode cX5_step 168 = .ok (.iload 5, 2) := by decide +kernel
theorem dX5_step_170 : decode cX5_step 170 = .ok (.iload 4, 2) := by decide +kernel
theorem dX5_step_172 : decode cX5_step 172 = .ok (.imul, 1) := by decide +kernel
theorem dX5_step_173 : decode cX5_step 173 = .ok (.goto 23, 3) := by decide +kernel
theorem dX5_step_176 : decode cX5_step 176 = .ok (.iload_n 2, 1) := by decide +kernel
theorem dX5_step_177 : decode cX5_step 177 = .ok (.sipush 1006, 3) := by decide +kernel
theorem dX5_step_180 : decode cX5_step 180 = .ok (.if_icmp .ne 11, 3) := by decide +kernel
theorem dX5_step_183 : decode cX5_step 183 = .ok (.iload 5, 2) := by decide +kernel
theorem dX5_step_185 : decode cX5_step 185 = .ok (.iload 4, 2) := by decide +kernel
theorem dX5_step_187 : decode cX5_step 187 = .ok (.ixor, 1) := by decide +kernel
theorem dX5_step_188 : decode cX5_step 188 = .ok (.goto 8, 3) := by decide +kernel
theorem dX5_step_191 : decode cX5_step 191 = .ok (.iload 5, 2) := by decide +kernel
theorem dX5_step_193 : decode cX5_step 193 = .ok (.iload 4, 2) := by decide +kernel
theorem dX5_step_195 : decode cX5_step 195 = .ok (.iand, 1) := by decide +kernel
theorem dX5_step_196 : decode cX5_step 196 = .ok (.invokevirtual 119, 3) := by decide +kernel
theorem dX5_step_199 : decode cX5_step 199 = .ok (.return_, 1) := by decide +kernel
theorem dX5_isDevice_0 : decode cX5_isDevice 0 = .ok (.iload_n 1, 1) := by decide +kernel
theorem dX5_isDevice_1 : decode cX5_isDevice 1 = .ok (.ifCond .lt 15, 3) := by decide +kernel
theorem dX5_isDevice_4 : decode cX5_isDevice 4 = .ok (.iload_n 1, 1) := by decide +kernel
theorem dX5_isDevice_5 : decode cX5_isDevice 5 = .ok (.aload_n 0, 1) := by decide +kernel
theorem dX5_isDevice_6 : decode cX5_isDevice 6 = .ok (.getfield 123, 3) := by decide +kernel
theorem dX5_isDevice_9 : decode cX5_isDevice 9 = .ok (.if_icmp .ge 7, 3) := by decide +kernel
theorem dX5_isDevice_12 : decode cX5_isDevice 12 = .ok (.iconst 1, 1) := by decide +kernel
theorem dX5_isDevice_13 : decode cX5_isDevice 13 = .ok (.goto 4, 3) := by decide +kernel
theorem dX5_isDevice_16 : decode cX5_isDevice 16 = .ok (.iconst 0, 1) := by decide +kernel
theorem dX5_isDevice_17 : decode cX5_isDevice 17 = .ok (.ireturn, 1) := by decide +kernel
theorem dX5_isAct_0 : decode cX5_isAct 0 = .ok (.iload_n 0, 1) := by decide +kernel
theorem dX5_isAct_1 : decode cX5_isAct 1 = .ok (.ifCond .lt 13, 3) := by decide +kernel
theorem dX5_isAct_4 : decode cX5_isAct 4 = .ok (.iload_n 0, 1) := by decide +kernel
theorem dX5_isAct_5 : decode cX5_isAct 5 = .ok (.bipush 12, 2) := by decide +kernel
theorem dX5_isAct_7 : decode cX5_isAct 7 = .ok (.if_icmp .ge 7, 3) := by decide +kernel
theorem dX5_isAct_10 : decode cX5_isAct 10 = .ok (.iconst 1, 1) := by decide +kernel
theorem dX5_isAct_11 : decode cX5_isAct 11 = .ok (.goto 4, 3) := by decide +kernel
theorem dX5_isAct_14 : decode cX5_isAct 14 = .ok (.iconst 0, 1) := by decide +kernel
theorem dX5_isAct_15 : decode cX5_isAct 15 = .ok (.ireturn, 1) := by decide +kernel
theorem dX5_isWay_0 : decode cX5_isWay 0 = .ok (.iload_n 0, 1) := by decide +kernel
theorem dX5_isWay_1 : decode cX5_isWay 1 = .ok (.ifCond .lt 13, 3) := by decide +kernel
theorem dX5_isWay_4 : decode cX5_isWay 4 = .ok (.iload_n 0, 1) := by decide +kernel
theorem dX5_isWay_5 : decode cX5_isWay 5 = .ok (.bipush 7, 2) := by decide +kernel
theorem dX5_isWay_7 : decode cX5_isWay 7 = .ok (.if_icmp .ge 7, 3) := by decide +kernel
theorem dX5_isWay_10 : decode cX5_isWay 10 = .ok (.iconst 1, 1) := by decide +kernel
theorem dX5_isWay_11 : decode cX5_isWay 11 = .ok (.goto 4, 3) := by decide +kernel
theorem dX5_isWay_14 : decode cX5_isWay 14 = .ok (.iconst 0, 1) := by decide +kernel
theorem dX5_isWay_15 : decode cX5_isWay 15 = .ok (.ireturn, 1) := by decide +kernel
theorem dX5_isAble_0 : decode cX5_isAble 0 = .ok (.iload_n 2, 1) := by decide +kernel
theorem dX5_isAble_1 : decode cX5_isAble 1 = .ok (.iconst 1, 1) := by decide +kernel
theorem dX5_isAble_2 : decode cX5_isAble 2 = .ok (.if_icmp .le 27, 3) := by decide +kernel
theorem dX5_isAble_5 : decode cX5_isAble 5 = .ok (.aload_n 0, 1) := by decide +kernel
theorem dX5_isAble_6 : decode cX5_isAble 6 = .ok (.getfield 19, 3) := by decide +kernel
theorem dX5_isAble_9 : decode cX5_isAble 9 = .ok (.bipush 10, 2) := by decide +kernel
theorem dX5_isAble_11 : decode cX5_isAble 11 = .ok (.aload_n 0, 1) := by decide +kernel
theorem dX5_isAble_12 : decode cX5_isAble 12 = .ok (.getfield 34, 3) := by decide +kernel
theorem dX5_isAble_15 : decode cX5_isAble 15 = .ok (.iload_n 1, 1) := by decide +kernel
theorem dX5_isAble_16 : decode cX5_isAble 16 = .ok (.iaload, 1) := by decide +kernel
theorem dX5_isAble_17 : decode cX5_isAble 17 = .ok (.iadd, 1) := by decide +kernel
theorem dX5_isAble_18 : decode cX5_isAble 18 = .ok (.iaload, 1) := by decide +kernel
theorem dX5_isAble_19 : decode cX5_isAble 19 = .ok (.iload_n 2, 1) := by decide +kernel
theorem dX5_isAble_20 : decode cX5_isAble 20 = .ok (.iconst 1, 1) := by decide +kernel
theorem dX5_isAble_21 : decode cX5_isAble 21 = .ok (.isub, 1) := by decide +kernel
theorem dX5_isAble_22 : decode cX5_isAble 22 = .ok (.invokestatic 84, 3) := by decide +kernel
theorem dX5_isAble_25 : decode cX5_isAble 25 = .ok (.iand, 1) := by decide +kernel
theorem dX5_isAble_26 : decode cX5_isAble 26 = .ok (.ifCond .eq 7, 3) := by decide +kernel
theorem dX5_isAble_29 : decode cX5_isAble 29 = .ok (.iconst 1, 1) := by decide +kernel
theorem dX5_isAble_30 : decode cX5_isAble 30 = .ok (.goto 4, 3) := by decide +kernel
theorem dX5_isAble_33 : decode cX5_isAble 33 = .ok (.iconst 0, 1) := by decide +kernel
theorem dX5_isAble_34 : decode cX5_isAble 34 = .ok (.ireturn, 1) := by decide +kernel
theorem dX5_isOf_0 : decode cX5_isOf 0 = .ok (.iload_n 2, 1) := by decide +kernel
theorem dX5_isOf_1 : decode cX5_isOf 1 = .ok (.ifCond .ne 17, 3) := by decide +kernel
theorem dX5_isOf_4 : decode cX5_isOf 4 = .ok (.aload_n 0, 1) := by decide +kernel
theorem dX5_isOf_5 : decode cX5_isOf 5 = .ok (.getfield 31, 3) := by decide +kernel
theorem dX5_isOf_8 : decode cX5_isOf 8 = .ok (.aload_n 0, 1) := by decide +kernel
theorem dX5_isOf_9 : decode cX5_isOf 9 = .ok (.getfield 34, 3) := by decide +kernel
theorem dX5_isOf_12 : decode cX5_isOf 12 = .ok (.iload_n 3, 1) := by decide +kernel
theorem dX5_isOf_13 : decode cX5_isOf 13 = .ok (.iaload, 1) := by decide +kernel
theorem dX5_isOf_14 : decode cX5_isOf 14 = .ok (.iaload, 1) := by decide +kernel
theorem dX5_isOf_15 : decode cX5_isOf 15 = .ok (.goto 9, 3) := by decide +kernel
theorem dX5_isOf_18 : decode cX5_isOf 18 = .ok (.aload_n 0, 1) := by decide +kernel
theorem dX5_isOf_19 : decode cX5_isOf 19 = .ok (.getfield 28, 3) := by decide +kernel
theorem dX5_isOf_22 : decode cX5_isOf 22 = .ok (.iload_n 2, 1) := by decide +kernel
theorem dX5_isOf_23 : decode cX5_isOf 23 = .ok (.iaload, 1) := by decide +kernel
theorem dX5_isOf_24 : decode cX5_isOf 24 = .ok (.iload_n 1, 1) := by decide +kernel
theorem dX5_isOf_25 : decode cX5_isOf 25 = .ok (.invokestatic 84, 3) := by decide +kernel
theorem dX5_isOf_28 : decode cX5_isOf 28 = .ok (.iand, 1) := by decide +kernel
theorem dX5_isOf_29 : decode cX5_isOf 29 = .ok (.ifCond .eq 7, 3) := by decide +kernel
theorem dX5_isOf_32 : decode cX5_isOf 32 = .ok (.iconst 1, 1) := by decide +kernel
theorem dX5_isOf_33 : decode cX5_isOf 33 = .ok (.goto 4, 3) := by decide +kernel
theorem dX5_isOf_36 : decode cX5_isOf 36 = .ok (.iconst 0, 1) := by decide +kernel
theorem dX5_isOf_37 : decode cX5_isOf 37 = .ok (.ireturn, 1) := by decide +kernel
theorem dX5_refused_0 : decode cX5_refused 0 = .ok (.aload_n 0, 1) := by decide +kernel
theorem dX5_refused_1 : decode cX5_refused 1 = .ok (.iload_n 1, 1) := by decide +kernel
theorem dX5_refused_2 : decode cX5_refused 2 = .ok (.putfield 126, 3) := by decide +kernel
theorem dX5_refused_5 : decode cX5_refused 5 = .ok (.iconst 0, 1) := by decide +kernel
theorem dX5_refused_6 : decode cX5_refused 6 = .ok (.ireturn, 1) := by decide +kernel
theorem dX5_why_0 : decode cX5_why 0 = .ok (.aload_n 0, 1) := by decide +kernel
theorem dX5_why_1 : decode cX5_why 1 = .ok (.iload_n 1, 1) := by decide +kernel
theorem dX5_why_2 : decode cX5_why 2 = .ok (.invokevirtual 129, 3) := by decide +kernel
theorem dX5_why_5 : decode cX5_why 5 = .ok (.ifCond .eq 17, 3) := by decide +kernel
theorem dX5_why_8 : decode cX5_why 8 = .ok (.iload_n 2, 1) := by decide +kernel
theorem dX5_why_9 : decode cX5_why 9 = .ok (.invokestatic 133, 3) := by decide +kernel
theorem dX5_why_12 : decode cX5_why 12 = .ok (.ifCond .eq 10, 3) := by decide +kernel
theorem dX5_why_15 : decode cX5_why 15 = .ok (.iload_n 3, 1) := by decide +kernel
theorem dX5_why_16 : decode cX5_why 16 = .ok (.invokestatic 136, 3) := by decide +kernel
theorem dX5_why_19 : decode cX5_why 19 = .ok (.ifCond .ne 5, 3) := by decide +kernel
theorem dX5_why_22 : decode cX5_why 22 = .ok (.iconst 1, 1) := by decide +kernel
theorem dX5_why_23 : decode cX5_why 23 = .ok (.ireturn, 1) := by decide +kernel
theorem dX5_why_24 : decode cX5_why 24 = .ok (.aload_n 0, 1) := by decide +kernel
theorem dX5_why_25 : decode cX5_why 25 = .ok (.iload_n 1, 1) := by decide +kernel
theorem dX5_why_26 : decode cX5_why 26 = .ok (.iload_n 3, 1) := by decide +kernel
theorem dX5_why_27 : decode cX5_why 27 = .ok (.invokevirtual 139, 3) := by decide +kernel
theorem dX5_why_30 : decode cX5_why 30 = .ok (.ifCond .ne 5, 3) := by decide +kernel
theorem dX5_why_33 : decode cX5_why 33 = .ok (.iconst 2, 1) := by decide +kernel
theorem dX5_why_34 : decode cX5_why 34 = .ok (.ireturn, 1) := by decide +kernel
theorem dX5_why_35 : decode cX5_why 35 = .ok (.aload_n 0, 1) := by decide +kernel
theorem dX5_why_36 : decode cX5_why 36 = .ok (.iload_n 2, 1) := by decide +kernel
theorem dX5_why_37 : decode cX5_why 37 = .ok (.iload_n 3, 1) := by decide +kernel
theorem dX5_why_38 : decode cX5_why 38 = .ok (.iload_n 1, 1) := by decide +kernel
theorem dX5_why_39 : decode cX5_why 39 = .ok (.invokevirtual 143, 3) := by decide +kernel
theorem dX5_why_42 : decode cX5_why 42 = .ok (.ifCond .eq 7, 3) := by decide +kernel
theorem dX5_why_45 : decode cX5_why 45 = .ok (.iconst 0, 1) := by decide +kernel
theorem dX5_why_46 : decode cX5_why 46 = .ok (.goto 4, 3) := by decide +kernel
theorem dX5_why_49 : decode cX5_why 49 = .ok (.iconst 3, 1) := by decide +kernel
theorem dX5_why_50 : decode cX5_why 50 = .ok (.ireturn, 1) := by decide +kernel
theorem dX5_begin_0 : decode cX5_begin 0 = .ok (.aload_n 0, 1) := by decide +kernel
theorem dX5_begin_1 : decode cX5_begin 1 = .ok (.iconst 0, 1) := by decide +kernel
theorem dX5_begin_2 : decode cX5_begin 2 = .ok (.putfield 126, 3) := by decide +kernel
theorem dX5_begin_5 : decode cX5_begin 5 = .ok (.aload_n 0, 1) := by decide +kernel
theorem dX5_begin_6 : decode cX5_begin 6 = .ok (.iconst 0, 1) := by decide +kernel
theorem dX5_begin_7 : decode cX5_begin 7 = .ok (.putfield 102, 3) := by decide +kernel
theorem dX5_begin_10 : decode cX5_begin 10 = .ok (.return_, 1) := by decide +kernel
theorem dX5_device_0 : decode cX5_device 0 = .ok (.aload_n 0, 1) := by decide +kernel
theorem dX5_device_1 : decode cX5_device 1 = .ok (.iload_n 1, 1) := by decide +kernel
theorem dX5_device_2 : decode cX5_device 2 = .ok (.ifCond .lt 9, 3) := by decide +kernel
theorem dX5_device_5 : decode cX5_device 5 = .ok (.iload_n 1, 1) := by decide +kernel
theorem dX5_device_6 : decode cX5_device 6 = .ok (.bipush 11, 2) := by decide +kernel
theorem dX5_device_8 : decode cX5_device 8 = .ok (.if_icmp .lt 7, 3) := by decide +kernel
theorem dX5_device_11 : decode cX5_device 11 = .ok (.iconst 1, 1) := by decide +kernel
theorem dX5_device_12 : decode cX5_device 12 = .ok (.goto 18, 3) := by decide +kernel
theorem dX5_device_15 : decode cX5_device 15 = .ok (.aload_n 0, 1) := by decide +kernel
theorem dX5_device_16 : decode cX5_device 16 = .ok (.getfield 123, 3) := by decide +kernel
theorem dX5_device_19 : decode cX5_device 19 = .ok (.sipush 300, 3) := by decide +kernel
theorem dX5_device_22 : decode cX5_device 22 = .ok (.if_icmp .ne 7, 3) := by decide +kernel
theorem dX5_device_25 : decode cX5_device 25 = .ok (.iconst 5, 1) := by decide +kernel
theorem dX5_device_26 : decode cX5_device 26 = .ok (.goto 4, 3) := by decide +kernel
theorem dX5_device_29 : decode cX5_device 29 = .ok (.iconst 0, 1) := by decide +kernel
theorem dX5_device_30 : decode cX5_device 30 = .ok (.putfield 126, 3) := by decide +kernel
theorem dX5_device_33 : decode cX5_device 33 = .ok (.aload_n 0, 1) := by decide +kernel
theorem dX5_device_34 : decode cX5_device 34 = .ok (.getfield 126, 3) := by decide +kernel
theorem dX5_device_37 : decode cX5_device 37 = .ok (.ifCond .eq 5, 3) := by decide +kernel
theorem dX5_device_40 : decode cX5_device 40 = .ok (.iconst (-1), 1) := by decide +kernel
theorem dX5_device_41 : decode cX5_device 41 = .ok (.ireturn, 1) := by decide +kernel
theorem dX5_device_42 : decode cX5_device 42 = .ok (.aload_n 0, 1) := by decide +kernel
theorem dX5_device_43 : decode cX5_device 43 = .ok (.getfield 34, 3) := by decide +kernel
theorem dX5_device_46 : decode cX5_device 46 = .ok (.aload_n 0, 1) := by decide +kernel
theorem dX5_device_47 : decode cX5_device 47 = .ok (.getfield 123, 3) := by decide +kernel
theorem dX5_device_50 : decode cX5_device 50 = .ok (.iload_n 1, 1) := by decide +kernel
theorem dX5_device_51 : decode cX5_device 51 = .ok (.iastore, 1) := by decide +kernel
theorem dX5_device_52 : decode cX5_device 52 = .ok (.aload_n 0, 1) := by decide +kernel
theorem dX5_device_53 : decode cX5_device 53 = .ok (.getfield 37, 3) := by decide +kernel
theorem dX5_device_56 : decode cX5_device 56 = .ok (.aload_n 0, 1) := by decide +kernel
theorem dX5_device_57 : decode cX5_device 57 = .ok (.getfield 123, 3) := by decide +kernel
theorem dX5_device_60 : decode cX5_device 60 = .ok (.iload_n 2, 1) := by decide +kernel
theorem dX5_device_61 : decode cX5_device 61 = .ok (.iastore, 1) := by decide +kernel
theorem dX5_device_62 : decode cX5_device 62 = .ok (.aload_n 0, 1) := by decide +kernel
theorem dX5_device_63 : decode cX5_device 63 = .ok (.dup, 1) := by decide +kernel
theorem dX5_device_64 : decode cX5_device 64 = .ok (.getfield 123, 3) := by decide +kernel
theorem dX5_device_67 : decode cX5_device 67 = .ok (.iconst 1, 1) := by decide +kernel
theorem dX5_device_68 : decode cX5_device 68 = .ok (.iadd, 1) := by decide +kernel
theorem dX5_device_69 : decode cX5_device 69 = .ok (.putfield 123, 3) := by decide +kernel
theorem dX5_device_72 : decode cX5_device 72 = .ok (.aload_n 0, 1) := by decide +kernel
theorem dX5_device_73 : decode cX5_device 73 = .ok (.getfield 123, 3) := by decide +kernel
theorem dX5_device_76 : decode cX5_device 76 = .ok (.iconst 1, 1) := by decide +kernel
theorem dX5_device_77 : decode cX5_device 77 = .ok (.isub, 1) := by decide +kernel
theorem dX5_device_78 : decode cX5_device 78 = .ok (.ireturn, 1) := by decide +kernel
theorem dX5_call_0 : decode cX5_call 0 = .ok (.aload_n 0, 1) := by decide +kernel
theorem dX5_call_1 : decode cX5_call 1 = .ok (.iload_n 1, 1) := by decide +kernel
theorem dX5_call_2 : decode cX5_call 2 = .ok (.iload_n 2, 1) := by decide +kernel
theorem dX5_call_3 : decode cX5_call 3 = .ok (.iload_n 3, 1) := by decide +kernel
theorem dX5_call_4 : decode cX5_call 4 = .ok (.invokevirtual 147, 3) := by decide +kernel
theorem dX5_call_7 : decode cX5_call 7 = .ok (.istore 5, 2) := by decide +kernel
theorem dX5_call_9 : decode cX5_call 9 = .ok (.iload 5, 2) := by decide +kernel
theorem dX5_call_11 : decode cX5_call 11 = .ok (.ifCond .eq 10, 3) := by decide +kernel
theorem dX5_call_14 : decode cX5_call 14 = .ok (.aload_n 0, 1) := by decide +kernel
theorem dX5_call_15 : decode cX5_call 15 = .ok (.iload 5, 2) := by decide +kernel
theorem dX5_call_17 : decode cX5_call 17 = .ok (.invokevirtual 151, 3) := by decide +kernel
theorem dX5_call_20 : decode cX5_call 20 = .ok (.ireturn, 1) := by decide +kernel
theorem dX5_call_21 : decode cX5_call 21 = .ok (.aload_n 0, 1) := by decide +kernel
theorem dX5_call_22 : decode cX5_call 22 = .ok (.invokevirtual 154, 3) := by decide +kernel
theorem dX5_call_25 : decode cX5_call 25 = .ok (.aload_n 0, 1) := by decide +kernel
theorem dX5_call_26 : decode cX5_call 26 = .ok (.iload_n 1, 1) := by decide +kernel
theorem dX5_call_27 : decode cX5_call 27 = .ok (.iload_n 2, 1) := by decide +kernel
theorem dX5_call_28 : decode cX5_call 28 = .ok (.iload 4, 2) := by decide +kernel
theorem dX5_call_30 : decode cX5_call 30 = .ok (.invokevirtual 157, 3) := by decide +kernel
theorem dX5_call_33 : decode cX5_call 33 = .ok (.ireturn, 1) := by decide +kernel
theorem dX5_every_0 : decode cX5_every 0 = .ok (.iload_n 1, 1) := by decide +kernel
theorem dX5_every_1 : decode cX5_every 1 = .ok (.invokestatic 133, 3) := by decide +kernel
theorem dX5_every_4 : decode cX5_every 4 = .ok (.ifCond .eq 10, 3) := by decide +kernel
theorem dX5_every_7 : decode cX5_every 7 = .ok (.iload_n 2, 1) := by decide +kernel
theorem dX5_every_8 : decode cX5_every 8 = .ok (.invokestatic 136, 3) := by decide +kernel
theorem dX5_every_11 : decode cX5_every 11 = .ok (.ifCond .ne 9, 3) := by decide +kernel
theorem dX5_every_14 : decode cX5_every 14 = .ok (.aload_n 0, 1) := by decide +kernel
theorem dX5_every_15 : decode cX5_every 15 = .ok (.iconst 1, 1) := by decide +kernel
theorem dX5_every_16 : decode cX5_every 16 = .ok (.invokevirtual 151, 3) := by decide +kernel
theorem dX5_every_19 : decode cX5_every 19 = .ok (.ireturn, 1) := by decide +kernel
theorem dX5_every_20 : decode cX5_every 20 = .ok (.iload_n 2, 1) := by decide +kernel
theorem dX5_every_21 : decode cX5_every 21 = .ok (.ifCond .eq 23, 3) := by decide +kernel
theorem dX5_every_24 : decode cX5_every 24 = .ok (.aload_n 0, 1) := by decide +kernel
theorem dX5_every_25 : decode cX5_every 25 = .ok (.getfield 28, 3) := by decide +kernel
theorem dX5_every_28 : decode cX5_every 28 = .ok (.iload_n 2, 1) := by decide +kernel
theorem dX5_every_29 : decode cX5_every 29 = .ok (.iaload, 1) := by decide +kernel
theorem dX5_every_30 : decode cX5_every 30 = .ok (.iload_n 1, 1) := by decide +kernel
theorem dX5_every_31 : decode cX5_every 31 = .ok (.invokestatic 84, 3) := by decide +kernel
theorem dX5_every_34 : decode cX5_every 34 = .ok (.iand, 1) := by decide +kernel
theorem dX5_every_35 : decode cX5_every 35 = .ok (.ifCond .ne 9, 3) := by decide +kernel
theorem dX5_every_38 : decode cX5_every 38 = .ok (.aload_n 0, 1) := by decide +kernel
theorem dX5_every_39 : decode cX5_every 39 = .ok (.iconst 3, 1) := by decide +kernel
theorem dX5_every_40 : decode cX5_every 40 = .ok (.invokevirtual 151, 3) := by decide +kernel
theorem dX5_every_43 : decode cX5_every 43 = .ok (.ireturn, 1) := by decide +kernel
theorem dX5_every_44 : decode cX5_every 44 = .ok (.aload_n 0, 1) := by decide +kernel
theorem dX5_every_45 : decode cX5_every 45 = .ok (.invokevirtual 154, 3) := by decide +kernel
theorem dX5_every_48 : decode cX5_every 48 = .ok (.iconst 0, 1) := by decide +kernel
theorem dX5_every_49 : decode cX5_every 49 = .ok (.istore 4, 2) := by decide +kernel
theorem dX5_every_51 : decode cX5_every 51 = .ok (.iconst 0, 1) := by decide +kernel
theorem dX5_every_52 : decode cX5_every 52 = .ok (.istore 5, 2) := by decide +kernel
theorem dX5_every_54 : decode cX5_every 54 = .ok (.iload 5, 2) := by decide +kernel
theorem dX5_every_56 : decode cX5_every 56 = .ok (.aload_n 0, 1) := by decide +kernel
theorem dX5_every_57 : decode cX5_every 57 = .ok (.getfield 123, 3) := by decide +kernel
theorem dX5_every_60 : decode cX5_every 60 = .ok (.if_icmp .ge 43, 3) := by decide +kernel
theorem dX5_every_63 : decode cX5_every 63 = .ok (.aload_n 0, 1) := by decide +kernel
theorem dX5_every_64 : decode cX5_every 64 = .ok (.iload 5, 2) := by decide +kernel
theorem dX5_every_66 : decode cX5_every 66 = .ok (.iload_n 2, 1) := by decide +kernel
theorem dX5_every_67 : decode cX5_every 67 = .ok (.invokevirtual 139, 3) := by decide +kernel
theorem dX5_every_70 : decode cX5_every 70 = .ok (.ifCond .eq 27, 3) := by decide +kernel
theorem dX5_every_73 : decode cX5_every 73 = .ok (.aload_n 0, 1) := by decide +kernel
theorem dX5_every_74 : decode cX5_every 74 = .ok (.iload_n 1, 1) := by decide +kernel
theorem dX5_every_75 : decode cX5_every 75 = .ok (.iload_n 2, 1) := by decide +kernel
theorem dX5_every_76 : decode cX5_every 76 = .ok (.iload 5, 2) := by decide +kernel
theorem dX5_every_78 : decode cX5_every 78 = .ok (.invokevirtual 143, 3) := by decide +kernel
theorem dX5_every_81 : decode cX5_every 81 = .ok (.ifCond .eq 16, 3) := by decide +kernel
theorem dX5_every_84 : decode cX5_every 84 = .ok (.iload 4, 2) := by decide +kernel
theorem dX5_every_86 : decode cX5_every 86 = .ok (.aload_n 0, 1) := by decide +kernel
theorem dX5_every_87 : decode cX5_every 87 = .ok (.iload 5, 2) := by decide +kernel
theorem dX5_every_89 : decode cX5_every 89 = .ok (.iload_n 1, 1) := by decide +kernel
theorem dX5_every_90 : decode cX5_every 90 = .ok (.iload_n 3, 1) := by decide +kernel
theorem dX5_every_91 : decode cX5_every 91 = .ok (.invokevirtual 157, 3) := by decide +kernel
theorem dX5_every_94 : decode cX5_every 94 = .ok (.iadd, 1) := by decide +kernel
theorem dX5_every_95 : decode cX5_every 95 = .ok (.istore 4, 2) := by decide +kernel
theorem dX5_every_97 : decode cX5_every 97 = .ok (.iinc 5 1, 3) := by decide +kernel
theorem dX5_every_100 : decode cX5_every 100 = .ok (.goto (-46), 3) := by decide +kernel
theorem dX5_every_103 : decode cX5_every 103 = .ok (.iload 4, 2) := by decide +kernel
theorem dX5_every_105 : decode cX5_every 105 = .ok (.ireturn, 1) := by decide +kernel
theorem dX5_feed_0 : decode cX5_feed 0 = .ok (.aload_n 0, 1) := by decide +kernel
theorem dX5_feed_1 : decode cX5_feed 1 = .ok (.iload_n 1, 1) := by decide +kernel
theorem dX5_feed_2 : decode cX5_feed 2 = .ok (.invokevirtual 129, 3) := by decide +kernel
theorem dX5_feed_5 : decode cX5_feed 5 = .ok (.ifCond .ne 9, 3) := by decide +kernel
theorem dX5_feed_8 : decode cX5_feed 8 = .ok (.aload_n 0, 1) := by decide +kernel
theorem dX5_feed_9 : decode cX5_feed 9 = .ok (.iconst 1, 1) := by decide +kernel
theorem dX5_feed_10 : decode cX5_feed 10 = .ok (.invokevirtual 151, 3) := by decide +kernel
theorem dX5_feed_13 : decode cX5_feed 13 = .ok (.ireturn, 1) := by decide +kernel
theorem dX5_feed_14 : decode cX5_feed 14 = .ok (.aload_n 0, 1) := by decide +kernel
theorem dX5_feed_15 : decode cX5_feed 15 = .ok (.invokevirtual 154, 3) := by decide +kernel
theorem dX5_feed_18 : decode cX5_feed 18 = .ok (.iconst 0, 1) := by decide +kernel
theorem dX5_feed_19 : decode cX5_feed 19 = .ok (.istore_n 3, 1) := by decide +kernel
theorem dX5_feed_20 : decode cX5_feed 20 = .ok (.bipush 24, 2) := by decide +kernel
theorem dX5_feed_22 : decode cX5_feed 22 = .ok (.istore 4, 2) := by decide +kernel
theorem dX5_feed_24 : decode cX5_feed 24 = .ok (.iload 4, 2) := by decide +kernel
theorem dX5_feed_26 : decode cX5_feed 26 = .ok (.ifCond .lt 65, 3) := by decide +kernel
theorem dX5_feed_29 : decode cX5_feed 29 = .ok (.iload_n 2, 1) := by decide +kernel
theorem dX5_feed_30 : decode cX5_feed 30 = .ok (.iload 4, 2) := by decide +kernel
theorem dX5_feed_32 : decode cX5_feed 32 = .ok (.ishr, 1) := by decide +kernel
theorem dX5_feed_33 : decode cX5_feed 33 = .ok (.sipush 255, 3) := by decide +kernel
theorem dX5_feed_36 : decode cX5_feed 36 = .ok (.iand, 1) := by decide +kernel
theorem dX5_feed_37 : decode cX5_feed 37 = .ok (.istore 5, 2) := by decide +kernel
theorem dX5_feed_39 : decode cX5_feed 39 = .ok (.aload_n 0, 1) := by decide +kernel
theorem dX5_feed_40 : decode cX5_feed 40 = .ok (.iload_n 1, 1) := by decide +kernel
theorem dX5_feed_41 : decode cX5_feed 41 = .ok (.iload 5, 2) := by decide +kernel
theorem dX5_feed_43 : decode cX5_feed 43 = .ok (.bipush 15, 2) := by decide +kernel
theorem dX5_feed_45 : decode cX5_feed 45 = .ok (.iand, 1) := by decide +kernel
theorem dX5_feed_46 : decode cX5_feed 46 = .ok (.iload 5, 2) := by decide +kernel
theorem dX5_feed_48 : decode cX5_feed 48 = .ok (.iconst 4, 1) := by decide +kernel
theorem dX5_feed_49 : decode cX5_feed 49 = .ok (.ishr, 1) := by decide +kernel
theorem dX5_feed_50 : decode cX5_feed 50 = .ok (.bipush 7, 2) := by decide +kernel
theorem dX5_feed_52 : decode cX5_feed 52 = .ok (.iand, 1) := by decide +kernel
theorem dX5_feed_53 : decode cX5_feed 53 = .ok (.invokevirtual 147, 3) := by decide +kernel
theorem dX5_feed_56 : decode cX5_feed 56 = .ok (.ifCond .ne 29, 3) := by decide +kernel
theorem dX5_feed_59 : decode cX5_feed 59 = .ok (.iload_n 3, 1) := by decide +kernel
theorem dX5_feed_60 : decode cX5_feed 60 = .ok (.aload_n 0, 1) := by decide +kernel
theorem dX5_feed_61 : decode cX5_feed 61 = .ok (.iload_n 1, 1) := by decide +kernel
theorem dX5_feed_62 : decode cX5_feed 62 = .ok (.iload 5, 2) := by decide +kernel
theorem dX5_feed_64 : decode cX5_feed 64 = .ok (.bipush 15, 2) := by decide +kernel
theorem dX5_feed_66 : decode cX5_feed 66 = .ok (.iand, 1) := by decide +kernel
theorem dX5_feed_67 : decode cX5_feed 67 = .ok (.iload 5, 2) := by decide +kernel
theorem dX5_feed_69 : decode cX5_feed 69 = .ok (.bipush 127, 2) := by decide +kernel
theorem dX5_feed_71 : decode cX5_feed 71 = .ok (.if_icmp .le 8, 3) := by decide +kernel
theorem dX5_feed_74 : decode cX5_feed 74 = .ok (.iload_n 3, 1) := by decide +kernel
theorem dX5_feed_75 : decode cX5_feed 75 = .ok (.ineg, 1) := by decide +kernel
theorem dX5_feed_76 : decode cX5_feed 76 = .ok (.goto 4, 3) := by decide +kernel
theorem dX5_feed_79 : decode cX5_feed 79 = .ok (.iload_n 3, 1) := by decide +kernel
theorem dX5_feed_80 : decode cX5_feed 80 = .ok (.invokevirtual 157, 3) := by decide +kernel
theorem dX5_feed_83 : decode cX5_feed 83 = .ok (.iadd, 1) := by decide +kernel
theorem dX5_feed_84 : decode cX5_feed 84 = .ok (.istore_n 3, 1) := by decide +kernel
theorem dX5_feed_85 : decode cX5_feed 85 = .ok (.iinc 4 (-8), 3) := by decide +kernel
theorem dX5_feed_88 : decode cX5_feed 88 = .ok (.goto (-64), 3) := by decide +kernel
theorem dX5_feed_91 : decode cX5_feed 91 = .ok (.iload_n 3, 1) := by decide +kernel
theorem dX5_feed_92 : decode cX5_feed 92 = .ok (.ireturn, 1) := by decide +kernel
theorem dX5_link_0 : decode cX5_link 0 = .ok (.aload_n 0, 1) := by decide +kernel
theorem dX5_link_1 : decode cX5_link 1 = .ok (.aload_n 0, 1) := by decide +kernel
theorem dX5_link_2 : decode cX5_link 2 = .ok (.iload_n 1, 1) := by decide +kernel
theorem dX5_link_3 : decode cX5_link 3 = .ok (.invokevirtual 129, 3) := by decide +kernel
theorem dX5_link_6 : decode cX5_link 6 = .ok (.ifCond .eq 11, 3) := by decide +kernel
theorem dX5_link_9 : decode cX5_link 9 = .ok (.aload_n 0, 1) := by decide +kernel
theorem dX5_link_10 : decode cX5_link 10 = .ok (.iload_n 2, 1) := by decide +kernel
theorem dX5_link_11 : decode cX5_link 11 = .ok (.invokevirtual 129, 3) := by decide +kernel
theorem dX5_link_14 : decode cX5_link 14 = .ok (.ifCond .ne 7, 3) := by decide +kernel
theorem dX5_link_17 : decode cX5_link 17 = .ok (.iconst 1, 1) := by decide +kernel
theorem dX5_link_18 : decode cX5_link 18 = .ok (.goto 18, 3) := by decide +kernel
theorem dX5_link_21 : decode cX5_link 21 = .ok (.aload_n 0, 1) := by decide +kernel
theorem dX5_link_22 : decode cX5_link 22 = .ok (.getfield 160, 3) := by decide +kernel
theorem dX5_link_25 : decode cX5_link 25 = .ok (.sipush 400, 3) := by decide +kernel
theorem dX5_link_28 : decode cX5_link 28 = .ok (.if_icmp .ne 7, 3) := by decide +kernel
theorem dX5_link_31 : decode cX5_link 31 = .ok (.iconst 5, 1) := by decide +kernel
theorem dX5_link_32 : decode cX5_link 32 = .ok (.goto 4, 3) := by decide +kernel
theorem dX5_link_35 : decode cX5_link 35 = .ok (.iconst 0, 1) := by decide +kernel
theorem dX5_link_36 : decode cX5_link 36 = .ok (.putfield 126, 3) := by decide +kernel
theorem dX5_link_39 : decode cX5_link 39 = .ok (.aload_n 0, 1) := by decide +kernel
theorem dX5_link_40 : decode cX5_link 40 = .ok (.getfield 126, 3) := by decide +kernel
theorem dX5_link_43 : decode cX5_link 43 = .ok (.ifCond .eq 5, 3) := by decide +kernel
theorem dX5_link_46 : decode cX5_link 46 = .ok (.iconst (-1), 1) := by decide +kernel
theorem dX5_link_47 : decode cX5_link 47 = .ok (.ireturn, 1) := by decide +kernel
theorem dX5_link_48 : decode cX5_link 48 = .ok (.aload_n 0, 1) := by decide +kernel
theorem dX5_link_49 : decode cX5_link 49 = .ok (.getfield 46, 3) := by decide +kernel
theorem dX5_link_52 : decode cX5_link 52 = .ok (.aload_n 0, 1) := by decide +kernel
theorem dX5_link_53 : decode cX5_link 53 = .ok (.getfield 160, 3) := by decide +kernel
theorem dX5_link_56 : decode cX5_link 56 = .ok (.iload_n 1, 1) := by decide +kernel
theorem dX5_link_57 : decode cX5_link 57 = .ok (.iastore, 1) := by decide +kernel
theorem dX5_link_58 : decode cX5_link 58 = .ok (.aload_n 0, 1) := by decide +kernel
theorem dX5_link_59 : decode cX5_link 59 = .ok (.getfield 49, 3) := by decide +kernel
theorem dX5_link_62 : decode cX5_link 62 = .ok (.aload_n 0, 1) := by decide +kernel
theorem dX5_link_63 : decode cX5_link 63 = .ok (.getfield 160, 3) := by decide +kernel
theorem dX5_link_66 : decode cX5_link 66 = .ok (.iload_n 2, 1) := by decide +kernel
theorem dX5_link_67 : decode cX5_link 67 = .ok (.iastore, 1) := by decide +kernel
theorem dX5_link_68 : decode cX5_link 68 = .ok (.aload_n 0, 1) := by decide +kernel
theorem dX5_link_69 : decode cX5_link 69 = .ok (.dup, 1) := by decide +kernel
theorem dX5_link_70 : decode cX5_link 70 = .ok (.getfield 160, 3) := by decide +kernel
theorem dX5_link_73 : decode cX5_link 73 = .ok (.iconst 1, 1) := by decide +kernel
theorem dX5_link_74 : decode cX5_link 74 = .ok (.iadd, 1) := by decide +kernel
theorem dX5_link_75 : decode cX5_link 75 = .ok (.putfield 160, 3) := by decide +kernel
theorem dX5_link_78 : decode cX5_link 78 = .ok (.aload_n 0, 1) := by decide +kernel
theorem dX5_link_79 : decode cX5_link 79 = .ok (.getfield 160, 3) := by decide +kernel
theorem dX5_link_82 : decode cX5_link 82 = .ok (.iconst 1, 1) := by decide +kernel
theorem dX5_link_83 : decode cX5_link 83 = .ok (.isub, 1) := by decide +kernel
theorem dX5_link_84 : decode cX5_link 84 = .ok (.ireturn, 1) := by decide +kernel
theorem dX5_takes_0 : decode cX5_takes 0 = .ok (.aload_n 0, 1) := by decide +kernel
theorem dX5_takes_1 : decode cX5_takes 1 = .ok (.getfield 43, 3) := by decide +kernel
theorem dX5_takes_4 : decode cX5_takes 4 = .ok (.iload_n 1, 1) := by decide +kernel
theorem dX5_takes_5 : decode cX5_takes 5 = .ok (.dup2, 1) := by decide +kernel
theorem dX5_takes_6 : decode cX5_takes 6 = .ok (.iaload, 1) := by decide +kernel
theorem dX5_takes_7 : decode cX5_takes 7 = .ok (.iconst 1, 1) := by decide +kernel
theorem dX5_takes_8 : decode cX5_takes 8 = .ok (.iadd, 1) := by decide +kernel
theorem dX5_takes_9 : decode cX5_takes 9 = .ok (.iastore, 1) := by decide +kernel
theorem dX5_takes_10 : decode cX5_takes 10 = .ok (.aload_n 0, 1) := by decide +kernel
theorem dX5_takes_11 : decode cX5_takes 11 = .ok (.iload_n 1, 1) := by decide +kernel
theorem dX5_takes_12 : decode cX5_takes 12 = .ok (.aload_n 0, 1) := by decide +kernel
theorem dX5_takes_13 : decode cX5_takes 13 = .ok (.iload_n 1, 1) := by decide +kernel
theorem dX5_takes_14 : decode cX5_takes 14 = .ok (.iconst 3, 1) := by decide +kernel
theorem dX5_takes_15 : decode cX5_takes 15 = .ok (.invokevirtual 139, 3) := by decide +kernel
theorem dX5_takes_18 : decode cX5_takes 18 = .ok (.ifCond .eq 7, 3) := by decide +kernel
theorem dX5_takes_21 : decode cX5_takes 21 = .ok (.iconst 4, 1) := by decide +kernel
theorem dX5_takes_22 : decode cX5_takes 22 = .ok (.goto 18, 3) := by decide +kernel
theorem dX5_takes_25 : decode cX5_takes 25 = .ok (.aload_n 0, 1) := by decide +kernel
theorem dX5_takes_26 : decode cX5_takes 26 = .ok (.iload_n 1, 1) := by decide +kernel
theorem dX5_takes_27 : decode cX5_takes 27 = .ok (.iconst 2, 1) := by decide +kernel
theorem dX5_takes_28 : decode cX5_takes 28 = .ok (.invokevirtual 139, 3) := by decide +kernel
theorem dX5_takes_31 : decode cX5_takes 31 = .ok (.ifCond .eq 7, 3) := by decide +kernel
theorem dX5_takes_34 : decode cX5_takes 34 = .ok (.iconst 1, 1) := by decide +kernel
theorem dX5_takes_35 : decode cX5_takes 35 = .ok (.goto 5, 3) := by decide +kernel
theorem dX5_takes_38 : decode cX5_takes 38 = .ok (.bipush 6, 2) := by decide +kernel
theorem dX5_takes_40 : decode cX5_takes 40 = .ok (.iload_n 2, 1) := by decide +kernel
theorem dX5_takes_41 : decode cX5_takes 41 = .ok (.invokevirtual 157, 3) := by decide +kernel
theorem dX5_takes_44 : decode cX5_takes 44 = .ok (.ireturn, 1) := by decide +kernel
theorem dX5_pass_0 : decode cX5_pass 0 = .ok (.aload_n 0, 1) := by decide +kernel
theorem dX5_pass_1 : decode cX5_pass 1 = .ok (.iload_n 1, 1) := by decide +kernel
theorem dX5_pass_2 : decode cX5_pass 2 = .ok (.invokevirtual 129, 3) := by decide +kernel
theorem dX5_pass_5 : decode cX5_pass 5 = .ok (.ifCond .ne 9, 3) := by decide +kernel
theorem dX5_pass_8 : decode cX5_pass 8 = .ok (.aload_n 0, 1) := by decide +kernel
theorem dX5_pass_9 : decode cX5_pass 9 = .ok (.iconst 1, 1) := by decide +kernel
theorem dX5_pass_10 : decode cX5_pass 10 = .ok (.invokevirtual 151, 3) := by decide +kernel
theorem dX5_pass_13 : decode cX5_pass 13 = .ok (.ireturn, 1) := by decide +kernel
theorem dX5_pass_14 : decode cX5_pass 14 = .ok (.aload_n 0, 1) := by decide +kernel
theorem dX5_pass_15 : decode cX5_pass 15 = .ok (.invokevirtual 154, 3) := by decide +kernel
theorem dX5_pass_18 : decode cX5_pass 18 = .ok (.iconst 0, 1) := by decide +kernel
theorem dX5_pass_19 : decode cX5_pass 19 = .ok (.istore_n 3, 1) := by decide +kernel
theorem dX5_pass_20 : decode cX5_pass 20 = .ok (.iload_n 3, 1) := by decide +kernel
theorem dX5_pass_21 : decode cX5_pass 21 = .ok (.aload_n 0, 1) := by decide +kernel
theorem dX5_pass_22 : decode cX5_pass 22 = .ok (.getfield 123, 3) := by decide +kernel
theorem dX5_pass_25 : decode cX5_pass 25 = .ok (.if_icmp .ge 16, 3) := by decide +kernel
theorem dX5_pass_28 : decode cX5_pass 28 = .ok (.aload_n 0, 1) := by decide +kernel
theorem dX5_pass_29 : decode cX5_pass 29 = .ok (.getfield 58, 3) := by decide +kernel
theorem dX5_pass_32 : decode cX5_pass 32 = .ok (.iload_n 3, 1) := by decide +kernel
theorem dX5_pass_33 : decode cX5_pass 33 = .ok (.iconst 0, 1) := by decide +kernel
theorem dX5_pass_34 : decode cX5_pass 34 = .ok (.bastore, 1) := by decide +kernel
theorem dX5_pass_35 : decode cX5_pass 35 = .ok (.iinc 3 1, 3) := by decide +kernel
theorem dX5_pass_38 : decode cX5_pass 38 = .ok (.goto (-18), 3) := by decide +kernel
theorem dX5_pass_41 : decode cX5_pass 41 = .ok (.aload_n 0, 1) := by decide +kernel
theorem dX5_pass_42 : decode cX5_pass 42 = .ok (.getfield 52, 3) := by decide +kernel
theorem dX5_pass_45 : decode cX5_pass 45 = .ok (.iconst 0, 1) := by decide +kernel
theorem dX5_pass_46 : decode cX5_pass 46 = .ok (.iload_n 1, 1) := by decide +kernel
theorem dX5_pass_47 : decode cX5_pass 47 = .ok (.iastore, 1) := by decide +kernel
theorem dX5_pass_48 : decode cX5_pass 48 = .ok (.aload_n 0, 1) := by decide +kernel
theorem dX5_pass_49 : decode cX5_pass 49 = .ok (.getfield 58, 3) := by decide +kernel
theorem dX5_pass_52 : decode cX5_pass 52 = .ok (.iload_n 1, 1) := by decide +kernel
theorem dX5_pass_53 : decode cX5_pass 53 = .ok (.iconst 1, 1) := by decide +kernel
theorem dX5_pass_54 : decode cX5_pass 54 = .ok (.bastore, 1) := by decide +kernel
theorem dX5_pass_55 : decode cX5_pass 55 = .ok (.aload_n 0, 1) := by decide +kernel
theorem dX5_pass_56 : decode cX5_pass 56 = .ok (.getfield 55, 3) := by decide +kernel
theorem dX5_pass_59 : decode cX5_pass 59 = .ok (.iconst 0, 1) := by decide +kernel
theorem dX5_pass_60 : decode cX5_pass 60 = .ok (.aload_n 0, 1) := by decide +kernel
theorem dX5_pass_61 : decode cX5_pass 61 = .ok (.iload_n 1, 1) := by decide +kernel
theorem dX5_pass_62 : decode cX5_pass 62 = .ok (.iload_n 2, 1) := by decide +kernel
theorem dX5_pass_63 : decode cX5_pass 63 = .ok (.invokevirtual 163, 3) := by decide +kernel
theorem dX5_pass_66 : decode cX5_pass 66 = .ok (.iastore, 1) := by decide +kernel
theorem dX5_pass_67 : decode cX5_pass 67 = .ok (.iconst 1, 1) := by decide +kernel
theorem dX5_pass_68 : decode cX5_pass 68 = .ok (.istore_n 3, 1) := by decide +kernel
theorem dX5_pass_69 : decode cX5_pass 69 = .ok (.iconst 0, 1) := by decide +kernel
theorem dX5_pass_70 : decode cX5_pass 70 = .ok (.istore 4, 2) := by decide +kernel
theorem dX5_pass_72 : decode cX5_pass 72 = .ok (.iload 4, 2) := by decide +kernel
theorem dX5_pass_74 : decode cX5_pass 74 = .ok (.iload_n 3, 1) := by decide +kernel
theorem dX5_pass_75 : decode cX5_pass 75 = .ok (.if_icmp .ge 115, 3) := by decide +kernel
theorem dX5_pass_78 : decode cX5_pass 78 = .ok (.iconst 0, 1) := by decide +kernel
theorem dX5_pass_79 : decode cX5_pass 79 = .ok (.istore 5, 2) := by decide +kernel
theorem dX5_pass_81 : decode cX5_pass 81 = .ok (.iload 5, 2) := by decide +kernel
theorem dX5_pass_83 : decode cX5_pass 83 = .ok (.aload_n 0, 1) := by decide +kernel
theorem dX5_pass_84 : decode cX5_pass 84 = .ok (.getfield 160, 3) := by decide +kernel
theorem dX5_pass_87 : decode cX5_pass 87 = .ok (.if_icmp .ge 97, 3) := by decide +kernel
theorem dX5_pass_90 : decode cX5_pass 90 = .ok (.aload_n 0, 1) := by decide +kernel
theorem dX5_pass_91 : decode cX5_pass 91 = .ok (.getfield 46, 3) := by decide +kernel
theorem dX5_pass_94 : decode cX5_pass 94 = .ok (.iload 5, 2) := by decide +kernel
theorem dX5_pass_96 : decode cX5_pass 96 = .ok (.iaload, 1) := by decide +kernel
theorem dX5_pass_97 : decode cX5_pass 97 = .ok (.aload_n 0, 1) := by decide +kernel
theorem dX5_pass_98 : decode cX5_pass 98 = .ok (.getfield 52, 3) := by decide +kernel
theorem dX5_pass_101 : decode cX5_pass 101 = .ok (.iload 4, 2) := by decide +kernel
theorem dX5_pass_103 : decode cX5_pass 103 = .ok (.iaload, 1) := by decide +kernel
theorem dX5_pass_104 : decode cX5_pass 104 = .ok (.if_icmp .ne 74, 3) := by decide +kernel
theorem dX5_pass_107 : decode cX5_pass 107 = .ok (.aload_n 0, 1) := by decide +kernel
theorem dX5_pass_108 : decode cX5_pass 108 = .ok (.getfield 58, 3) := by decide +kernel
theorem dX5_pass_111 : decode cX5_pass 111 = .ok (.aload_n 0, 1) := by decide +kernel
theorem dX5_pass_112 : decode cX5_pass 112 = .ok (.getfield 49, 3) := by decide +kernel
theorem dX5_pass_115 : decode cX5_pass 115 = .ok (.iload 5, 2) := by decide +kernel
theorem dX5_pass_117 : decode cX5_pass 117 = .ok (.iaload, 1) := by decide +kernel
theorem dX5_pass_118 : decode cX5_pass 118 = .ok (.baload, 1) := by decide +kernel
theorem dX5_pass_119 : decode cX5_pass 119 = .ok (.ifCond .eq 6, 3) := by decide +kernel
theorem dX5_pass_122 : decode cX5_pass 122 = .ok (.goto 56, 3) := by decide +kernel
theorem dX5_pass_125 : decode cX5_pass 125 = .ok (.aload_n 0, 1) := by decide +kernel
theorem dX5_pass_126 : decode cX5_pass 126 = .ok (.getfield 58, 3) := by decide +kernel
theorem dX5_pass_129 : decode cX5_pass 129 = .ok (.aload_n 0, 1) := by decide +kernel
theorem dX5_pass_130 : decode cX5_pass 130 = .ok (.getfield 49, 3) := by decide +kernel
theorem dX5_pass_133 : decode cX5_pass 133 = .ok (.iload 5, 2) := by decide +kernel
theorem dX5_pass_135 : decode cX5_pass 135 = .ok (.iaload, 1) := by decide +kernel
theorem dX5_pass_136 : decode cX5_pass 136 = .ok (.iconst 1, 1) := by decide +kernel
theorem dX5_pass_137 : decode cX5_pass 137 = .ok (.bastore, 1) := by decide +kernel
theorem dX5_pass_138 : decode cX5_pass 138 = .ok (.aload_n 0, 1) := by decide +kernel
theorem dX5_pass_139 : decode cX5_pass 139 = .ok (.getfield 52, 3) := by decide +kernel
theorem dX5_pass_142 : decode cX5_pass 142 = .ok (.iload_n 3, 1) := by decide +kernel
theorem dX5_pass_143 : decode cX5_pass 143 = .ok (.aload_n 0, 1) := by decide +kernel
theorem dX5_pass_144 : decode cX5_pass 144 = .ok (.getfield 49, 3) := by decide +kernel
theorem dX5_pass_147 : decode cX5_pass 147 = .ok (.iload 5, 2) := by decide +kernel
theorem dX5_pass_149 : decode cX5_pass 149 = .ok (.iaload, 1) := by decide +kernel
theorem dX5_pass_150 : decode cX5_pass 150 = .ok (.iastore, 1) := by decide +kernel
theorem dX5_pass_151 : decode cX5_pass 151 = .ok (.aload_n 0, 1) := by decide +kernel
theorem dX5_pass_152 : decode cX5_pass 152 = .ok (.getfield 55, 3) := by decide +kernel
theorem dX5_pass_155 : decode cX5_pass 155 = .ok (.iload_n 3, 1) := by decide +kernel
theorem dX5_pass_156 : decode cX5_pass 156 = .ok (.aload_n 0, 1) := by decide +kernel
theorem dX5_pass_157 : decode cX5_pass 157 = .ok (.aload_n 0, 1) := by decide +kernel
theorem dX5_pass_158 : decode cX5_pass 158 = .ok (.getfield 49, 3) := by decide +kernel
theorem dX5_pass_161 : decode cX5_pass 161 = .ok (.iload 5, 2) := by decide +kernel
theorem dX5_pass_163 : decode cX5_pass 163 = .ok (.iaload, 1) := by decide +kernel
theorem dX5_pass_164 : decode cX5_pass 164 = .ok (.aload_n 0, 1) := by decide +kernel
theorem dX5_pass_165 : decode cX5_pass 165 = .ok (.getfield 55, 3) := by decide +kernel
theorem dX5_pass_168 : decode cX5_pass 168 = .ok (.iload 4, 2) := by decide +kernel
theorem dX5_pass_170 : decode cX5_pass 170 = .ok (.iaload, 1) := by decide +kernel
theorem dX5_pass_171 : decode cX5_pass 171 = .ok (.invokevirtual 163, 3) := by decide +kernel
theorem dX5_pass_174 : decode cX5_pass 174 = .ok (.iastore, 1) := by decide +kernel
theorem dX5_pass_175 : decode cX5_pass 175 = .ok (.iinc 3 1, 3) := by decide +kernel
theorem dX5_pass_178 : decode cX5_pass 178 = .ok (.iinc 5 1, 3) := by decide +kernel
theorem dX5_pass_181 : decode cX5_pass 181 = .ok (.goto (-100), 3) := by decide +kernel
theorem dX5_pass_184 : decode cX5_pass 184 = .ok (.iinc 4 1, 3) := by decide +kernel
theorem dX5_pass_187 : decode cX5_pass 187 = .ok (.goto (-115), 3) := by decide +kernel
theorem dX5_pass_190 : decode cX5_pass 190 = .ok (.iload_n 3, 1) := by decide +kernel
theorem dX5_pass_191 : decode cX5_pass 191 = .ok (.ireturn, 1) := by decide +kernel
theorem dX5_able_0 : decode cX5_able 0 = .ok (.aload_n 0, 1) := by decide +kernel
theorem dX5_able_1 : decode cX5_able 1 = .ok (.iload_n 1, 1) := by decide +kernel
theorem dX5_able_2 : decode cX5_able 2 = .ok (.invokevirtual 129, 3) := by decide +kernel
theorem dX5_able_5 : decode cX5_able 5 = .ok (.ifCond .eq 10, 3) := by decide +kernel
theorem dX5_able_8 : decode cX5_able 8 = .ok (.iload_n 2, 1) := by decide +kernel
theorem dX5_able_9 : decode cX5_able 9 = .ok (.invokestatic 136, 3) := by decide +kernel
theorem dX5_able_12 : decode cX5_able 12 = .ok (.ifCond .ne 7, 3) := by decide +kernel
theorem dX5_able_15 : decode cX5_able 15 = .ok (.iconst (-1), 1) := by decide +kernel
theorem dX5_able_16 : decode cX5_able 16 = .ok (.goto 17, 3) := by decide +kernel
theorem dX5_able_19 : decode cX5_able 19 = .ok (.aload_n 0, 1) := by decide +kernel
theorem dX5_able_20 : decode cX5_able 20 = .ok (.iload_n 1, 1) := by decide +kernel
theorem dX5_able_21 : decode cX5_able 21 = .ok (.iload_n 2, 1) := by decide +kernel
theorem dX5_able_22 : decode cX5_able 22 = .ok (.invokevirtual 139, 3) := by decide +kernel
theorem dX5_able_25 : decode cX5_able 25 = .ok (.ifCond .eq 7, 3) := by decide +kernel
theorem dX5_able_28 : decode cX5_able 28 = .ok (.iconst 1, 1) := by decide +kernel
theorem dX5_able_29 : decode cX5_able 29 = .ok (.goto 4, 3) := by decide +kernel
theorem dX5_able_32 : decode cX5_able 32 = .ok (.iconst 0, 1) := by decide +kernel
theorem dX5_able_33 : decode cX5_able 33 = .ok (.ireturn, 1) := by decide +kernel
theorem dX5_chain_0 : decode cX5_chain 0 = .ok (.iload_n 1, 1) := by decide +kernel
theorem dX5_chain_1 : decode cX5_chain 1 = .ok (.ifCond .lt 17, 3) := by decide +kernel
theorem dX5_chain_4 : decode cX5_chain 4 = .ok (.iload_n 1, 1) := by decide +kernel
theorem dX5_chain_5 : decode cX5_chain 5 = .ok (.bipush 64, 2) := by decide +kernel
theorem dX5_chain_7 : decode cX5_chain 7 = .ok (.if_icmp .ge 11, 3) := by decide +kernel
theorem dX5_chain_10 : decode cX5_chain 10 = .ok (.iload_n 1, 1) := by decide +kernel
theorem dX5_chain_11 : decode cX5_chain 11 = .ok (.aload_n 0, 1) := by decide +kernel
theorem dX5_chain_12 : decode cX5_chain 12 = .ok (.getfield 102, 3) := by decide +kernel
theorem dX5_chain_15 : decode cX5_chain 15 = .ok (.if_icmp .lt 7, 3) := by decide +kernel
theorem dX5_chain_18 : decode cX5_chain 18 = .ok (.iconst (-1), 1) := by decide +kernel
theorem dX5_chain_19 : decode cX5_chain 19 = .ok (.goto 9, 3) := by decide +kernel
theorem dX5_chain_22 : decode cX5_chain 22 = .ok (.aload_n 0, 1) := by decide +kernel
theorem dX5_chain_23 : decode cX5_chain 23 = .ok (.getfield 62, 3) := by decide +kernel
theorem dX5_chain_26 : decode cX5_chain 26 = .ok (.iload_n 1, 1) := by decide +kernel
theorem dX5_chain_27 : decode cX5_chain 27 = .ok (.iaload, 1) := by decide +kernel
theorem dX5_chain_28 : decode cX5_chain 28 = .ok (.ireturn, 1) := by decide +kernel
theorem dX5_ran_0 : decode cX5_ran 0 = .ok (.aload_n 0, 1) := by decide +kernel
theorem dX5_ran_1 : decode cX5_ran 1 = .ok (.getfield 102, 3) := by decide +kernel
theorem dX5_ran_4 : decode cX5_ran 4 = .ok (.ireturn, 1) := by decide +kernel
theorem dX5_state_0 : decode cX5_state 0 = .ok (.aload_n 0, 1) := by decide +kernel
theorem dX5_state_1 : decode cX5_state 1 = .ok (.iload_n 1, 1) := by decide +kernel
theorem dX5_state_2 : decode cX5_state 2 = .ok (.invokevirtual 129, 3) := by decide +kernel
theorem dX5_state_5 : decode cX5_state 5 = .ok (.ifCond .eq 12, 3) := by decide +kernel
theorem dX5_state_8 : decode cX5_state 8 = .ok (.iload_n 2, 1) := by decide +kernel
theorem dX5_state_9 : decode cX5_state 9 = .ok (.ifCond .lt 8, 3) := by decide +kernel
theorem dX5_state_12 : decode cX5_state 12 = .ok (.iload_n 2, 1) := by decide +kernel
theorem dX5_state_13 : decode cX5_state 13 = .ok (.iconst 5, 1) := by decide +kernel
theorem dX5_state_14 : decode cX5_state 14 = .ok (.if_icmp .le 9, 3) := by decide +kernel
theorem dX5_state_17 : decode cX5_state 17 = .ok (.aload_n 0, 1) := by decide +kernel
theorem dX5_state_18 : decode cX5_state 18 = .ok (.iconst 1, 1) := by decide +kernel
theorem dX5_state_19 : decode cX5_state 19 = .ok (.invokevirtual 151, 3) := by decide +kernel
theorem dX5_state_22 : decode cX5_state 22 = .ok (.ireturn, 1) := by decide +kernel
theorem dX5_state_23 : decode cX5_state 23 = .ok (.aload_n 0, 1) := by decide +kernel
theorem dX5_state_24 : decode cX5_state 24 = .ok (.iconst 0, 1) := by decide +kernel
theorem dX5_state_25 : decode cX5_state 25 = .ok (.putfield 126, 3) := by decide +kernel
theorem dX5_state_28 : decode cX5_state 28 = .ok (.iload_n 2, 1) := by decide +kernel
theorem dX5_state_29 : decode cX5_state 29 = .ok (.ifCond .ne 10, 3) := by decide +kernel
theorem dX5_state_32 : decode cX5_state 32 = .ok (.aload_n 0, 1) := by decide +kernel
theorem dX5_state_33 : decode cX5_state 33 = .ok (.getfield 34, 3) := by decide +kernel
theorem dX5_state_36 : decode cX5_state 36 = .ok (.iload_n 1, 1) := by decide +kernel
theorem dX5_state_37 : decode cX5_state 37 = .ok (.iaload, 1) := by decide +kernel
theorem dX5_state_38 : decode cX5_state 38 = .ok (.ireturn, 1) := by decide +kernel
theorem dX5_state_39 : decode cX5_state 39 = .ok (.iload_n 2, 1) := by decide +kernel
theorem dX5_state_40 : decode cX5_state 40 = .ok (.iconst 1, 1) := by decide +kernel
theorem dX5_state_41 : decode cX5_state 41 = .ok (.if_icmp .ne 10, 3) := by decide +kernel
theorem dX5_state_44 : decode cX5_state 44 = .ok (.aload_n 0, 1) := by decide +kernel
theorem dX5_state_45 : decode cX5_state 45 = .ok (.getfield 37, 3) := by decide +kernel
theorem dX5_state_48 : decode cX5_state 48 = .ok (.iload_n 1, 1) := by decide +kernel
theorem dX5_state_49 : decode cX5_state 49 = .ok (.iaload, 1) := by decide +kernel
theorem dX5_state_50 : decode cX5_state 50 = .ok (.ireturn, 1) := by decide +kernel
theorem dX5_state_51 : decode cX5_state 51 = .ok (.iload_n 2, 1) := by decide +kernel
theorem dX5_state_52 : decode cX5_state 52 = .ok (.iconst 2, 1) := by decide +kernel
theorem dX5_state_53 : decode cX5_state 53 = .ok (.if_icmp .ne 10, 3) := by decide +kernel
theorem dX5_state_56 : decode cX5_state 56 = .ok (.aload_n 0, 1) := by decide +kernel
theorem dX5_state_57 : decode cX5_state 57 = .ok (.getfield 40, 3) := by decide +kernel
theorem dX5_state_60 : decode cX5_state 60 = .ok (.iload_n 1, 1) := by decide +kernel
theorem dX5_state_61 : decode cX5_state 61 = .ok (.iaload, 1) := by decide +kernel
theorem dX5_state_62 : decode cX5_state 62 = .ok (.ireturn, 1) := by decide +kernel
theorem dX5_state_63 : decode cX5_state 63 = .ok (.iload_n 2, 1) := by decide +kernel
theorem dX5_state_64 : decode cX5_state 64 = .ok (.iconst 5, 1) := by decide +kernel
theorem dX5_state_65 : decode cX5_state 65 = .ok (.if_icmp .ne 10, 3) := by decide +kernel
theorem dX5_state_68 : decode cX5_state 68 = .ok (.aload_n 0, 1) := by decide +kernel
theorem dX5_state_69 : decode cX5_state 69 = .ok (.getfield 43, 3) := by decide +kernel
theorem dX5_state_72 : decode cX5_state 72 = .ok (.iload_n 1, 1) := by decide +kernel
theorem dX5_state_73 : decode cX5_state 73 = .ok (.iaload, 1) := by decide +kernel
theorem dX5_state_74 : decode cX5_state 74 = .ok (.ireturn, 1) := by decide +kernel
theorem dX5_state_75 : decode cX5_state 75 = .ok (.iconst 0, 1) := by decide +kernel
theorem dX5_state_76 : decode cX5_state 76 = .ok (.istore_n 3, 1) := by decide +kernel
theorem dX5_state_77 : decode cX5_state 77 = .ok (.iconst 0, 1) := by decide +kernel
theorem dX5_state_78 : decode cX5_state 78 = .ok (.istore 4, 2) := by decide +kernel
theorem dX5_state_80 : decode cX5_state 80 = .ok (.iload 4, 2) := by decide +kernel
theorem dX5_state_82 : decode cX5_state 82 = .ok (.aload_n 0, 1) := by decide +kernel
theorem dX5_state_83 : decode cX5_state 83 = .ok (.getfield 160, 3) := by decide +kernel
theorem dX5_state_86 : decode cX5_state 86 = .ok (.if_icmp .ge 38, 3) := by decide +kernel
theorem dX5_state_89 : decode cX5_state 89 = .ok (.iload_n 2, 1) := by decide +kernel
theorem dX5_state_90 : decode cX5_state 90 = .ok (.iconst 3, 1) := by decide +kernel
theorem dX5_state_91 : decode cX5_state 91 = .ok (.if_icmp .ne 13, 3) := by decide +kernel
theorem dX5_state_94 : decode cX5_state 94 = .ok (.aload_n 0, 1) := by decide +kernel
theorem dX5_state_95 : decode cX5_state 95 = .ok (.getfield 46, 3) := by decide +kernel
theorem dX5_state_98 : decode cX5_state 98 = .ok (.iload 4, 2) := by decide +kernel
theorem dX5_state_100 : decode cX5_state 100 = .ok (.iaload, 1) := by decide +kernel
theorem dX5_state_101 : decode cX5_state 101 = .ok (.goto 10, 3) := by decide +kernel
theorem dX5_state_104 : decode cX5_state 104 = .ok (.aload_n 0, 1) := by decide +kernel
theorem dX5_state_105 : decode cX5_state 105 = .ok (.getfield 49, 3) := by decide +kernel
theorem dX5_state_108 : decode cX5_state 108 = .ok (.iload 4, 2) := by decide +kernel
theorem dX5_state_110 : decode cX5_state 110 = .ok (.iaload, 1) := by decide +kernel
theorem dX5_state_111 : decode cX5_state 111 = .ok (.iload_n 1, 1) := by decide +kernel
theorem dX5_state_112 : decode cX5_state 112 = .ok (.if_icmp .ne 6, 3) := by decide +kernel
theorem dX5_state_115 : decode cX5_state 115 = .ok (.iinc 3 1, 3) := by decide +kernel
theorem dX5_state_118 : decode cX5_state 118 = .ok (.iinc 4 1, 3) := by decide +kernel
theorem dX5_state_121 : decode cX5_state 121 = .ok (.goto (-41), 3) := by decide +kernel
theorem dX5_state_124 : decode cX5_state 124 = .ok (.iload_n 3, 1) := by decide +kernel
theorem dX5_state_125 : decode cX5_state 125 = .ok (.ireturn, 1) := by decide +kernel
theorem dX5_size_0 : decode cX5_size 0 = .ok (.iload_n 1, 1) := by decide +kernel
theorem dX5_size_1 : decode cX5_size 1 = .ok (.ifCond .lt 9, 3) := by decide +kernel
theorem dX5_size_4 : decode cX5_size 4 = .ok (.iload_n 1, 1) := by decide +kernel
theorem dX5_size_5 : decode cX5_size 5 = .ok (.bipush 7, 2) := by decide +kernel
theorem dX5_size_7 : decode cX5_size 7 = .ok (.if_icmp .lt 5, 3) := by decide +kernel
theorem dX5_size_10 : decode cX5_size 10 = .ok (.iconst (-1), 1) := by decide +kernel
theorem dX5_size_11 : decode cX5_size 11 = .ok (.ireturn, 1) := by decide +kernel
theorem dX5_size_12 : decode cX5_size 12 = .ok (.iload_n 1, 1) := by decide +kernel
theorem dX5_size_13 : decode cX5_size 13 = .ok (.iconst 2, 1) := by decide +kernel
theorem dX5_size_14 : decode cX5_size 14 = .ok (.if_icmp .ge 19, 3) := by decide +kernel
theorem dX5_size_17 : decode cX5_size 17 = .ok (.iload_n 1, 1) := by decide +kernel
theorem dX5_size_18 : decode cX5_size 18 = .ok (.ifCond .ne 10, 3) := by decide +kernel
theorem dX5_size_21 : decode cX5_size 21 = .ok (.aload_n 0, 1) := by decide +kernel
theorem dX5_size_22 : decode cX5_size 22 = .ok (.getfield 123, 3) := by decide +kernel
theorem dX5_size_25 : decode cX5_size 25 = .ok (.goto 7, 3) := by decide +kernel
theorem dX5_size_28 : decode cX5_size 28 = .ok (.aload_n 0, 1) := by decide +kernel
theorem dX5_size_29 : decode cX5_size 29 = .ok (.getfield 160, 3) := by decide +kernel
theorem dX5_size_32 : decode cX5_size 32 = .ok (.ireturn, 1) := by decide +kernel
theorem dX5_size_33 : decode cX5_size 33 = .ok (.iconst 0, 1) := by decide +kernel
theorem dX5_size_34 : decode cX5_size 34 = .ok (.istore_n 2, 1) := by decide +kernel
theorem dX5_size_35 : decode cX5_size 35 = .ok (.iconst 0, 1) := by decide +kernel
theorem dX5_size_36 : decode cX5_size 36 = .ok (.istore_n 3, 1) := by decide +kernel
theorem dX5_size_37 : decode cX5_size 37 = .ok (.iload_n 3, 1) := by decide +kernel
theorem dX5_size_38 : decode cX5_size 38 = .ok (.aload_n 0, 1) := by decide +kernel
theorem dX5_size_39 : decode cX5_size 39 = .ok (.getfield 123, 3) := by decide +kernel
theorem dX5_size_42 : decode cX5_size 42 = .ok (.if_icmp .ge 21, 3) := by decide +kernel
theorem dX5_size_45 : decode cX5_size 45 = .ok (.aload_n 0, 1) := by decide +kernel
theorem dX5_size_46 : decode cX5_size 46 = .ok (.iload_n 3, 1) := by decide +kernel
theorem dX5_size_47 : decode cX5_size 47 = .ok (.iload_n 1, 1) := by decide +kernel
theorem dX5_size_48 : decode cX5_size 48 = .ok (.invokevirtual 139, 3) := by decide +kernel
theorem dX5_size_51 : decode cX5_size 51 = .ok (.ifCond .eq 6, 3) := by decide +kernel
theorem dX5_size_54 : decode cX5_size 54 = .ok (.iinc 2 1, 3) := by decide +kernel
theorem dX5_size_57 : decode cX5_size 57 = .ok (.iinc 3 1, 3) := by decide +kernel
theorem dX5_size_60 : decode cX5_size 60 = .ok (.goto (-23), 3) := by decide +kernel
theorem dX5_size_63 : decode cX5_size 63 = .ok (.iload_n 2, 1) := by decide +kernel
theorem dX5_size_64 : decode cX5_size 64 = .ok (.ireturn, 1) := by decide +kernel
theorem dX5_status_0 : decode cX5_status 0 = .ok (.aload_n 0, 1) := by decide +kernel
theorem dX5_status_1 : decode cX5_status 1 = .ok (.getfield 126, 3) := by decide +kernel
theorem dX5_status_4 : decode cX5_status 4 = .ok (.ireturn, 1) := by decide +kernel
theorem dL_law_0 : decode cL_law 0 = .ok (.new 7, 3) := by decide +kernel
theorem dL_law_3 : decode cL_law 3 = .ok (.dup, 1) := by decide +kernel
theorem dL_law_4 : decode cL_law 4 = .ok (.invokespecial 9, 3) := by decide +kernel
theorem dL_law_7 : decode cL_law 7 = .ok (.astore_n 1, 1) := by decide +kernel
theorem dL_law_8 : decode cL_law 8 = .ok (.new 10, 3) := by decide +kernel
theorem dL_law_11 : decode cL_law 11 = .ok (.dup, 1) := by decide +kernel
theorem dL_law_12 : decode cL_law 12 = .ok (.invokespecial 12, 3) := by decide +kernel
theorem dL_law_15 : decode cL_law 15 = .ok (.astore_n 2, 1) := by decide +kernel
theorem dL_law_16 : decode cL_law 16 = .ok (.iconst 0, 1) := by decide +kernel
theorem dL_law_17 : decode cL_law 17 = .ok (.istore_n 3, 1) := by decide +kernel
theorem dL_law_18 : decode cL_law 18 = .ok (.iload_n 3, 1) := by decide +kernel
theorem dL_law_19 : decode cL_law 19 = .ok (.aload_n 0, 1) := by decide +kernel
theorem dL_law_20 : decode cL_law 20 = .ok (.arraylength, 1) := by decide +kernel
theorem dL_law_21 : decode cL_law 21 = .ok (.iconst 5, 1) := by decide +kernel
theorem dL_law_22 : decode cL_law 22 = .ok (.isub, 1) := by decide +kernel
theorem dL_law_23 : decode cL_law 23 = .ok (.if_icmp .gt 445, 3) := by decide +kernel
theorem dL_law_26 : decode cL_law 26 = .ok (.aload_n 0, 1) := by decide +kernel
theorem dL_law_27 : decode cL_law 27 = .ok (.iload_n 3, 1) := by decide +kernel
theorem dL_law_28 : decode cL_law 28 = .ok (.iaload, 1) := by decide +kernel
theorem dL_law_29 : decode cL_law 29 = .ok (.bipush 15, 2) := by decide +kernel
theorem dL_law_31 : decode cL_law 31 = .ok (.iand, 1) := by decide +kernel
theorem dL_law_32 : decode cL_law 32 = .ok (.tableswitch 430 0 11 #[64, 97, 150, 193, 226, 259, 292, 325, 348, 361, 394, 417], 64) := by decide +kernel
theorem dL_law_96 : decode cL_law 96 = .ok (.aload_n 1, 1) := by decide +kernel
theorem dL_law_97 : decode cL_law 97 = .ok (.aload_n 0, 1) := by decide +kernel
theorem dL_law_98 : decode cL_law 98 = .ok (.iload_n 3, 1) := by decide +kernel
theorem dL_law_99 : decode cL_law 99 = .ok (.iconst 1, 1) := by decide +kernel
theorem dL_law_100 : decode cL_law 100 = .ok (.iadd, 1) := by decide +kernel
theorem dL_law_101 : decode cL_law 101 = .ok (.iaload, 1) := by decide +kernel
theorem dL_law_102 : decode cL_law 102 = .ok (.aload_n 0, 1) := by decide +kernel
theorem dL_law_103 : decode cL_law 103 = .ok (.iload_n 3, 1) := by decide +kernel
theorem dL_law_104 : decode cL_law 104 = .ok (.iconst 2, 1) := by decide +kernel
theorem dL_law_105 : decode cL_law 105 = .ok (.iadd, 1) := by decide +kernel
theorem dL_law_106 : decode cL_law 106 = .ok (.iaload, 1) := by decide +kernel
theorem dL_law_107 : decode cL_law 107 = .ok (.invokevirtual 13, 3) := by decide +kernel
theorem dL_law_110 : decode cL_law 110 = .ok (.aload_n 2, 1) := by decide +kernel
theorem dL_law_111 : decode cL_law 111 = .ok (.aload_n 0, 1) := by decide +kernel
theorem dL_law_112 : decode cL_law 112 = .ok (.iload_n 3, 1) := by decide +kernel
theorem dL_law_113 : decode cL_law 113 = .ok (.iconst 1, 1) := by decide +kernel
theorem dL_law_114 : decode cL_law 114 = .ok (.iadd, 1) := by decide +kernel
theorem dL_law_115 : decode cL_law 115 = .ok (.iaload, 1) := by decide +kernel
theorem dL_law_116 : decode cL_law 116 = .ok (.aload_n 0, 1) := by decide +kernel
theorem dL_law_117 : decode cL_law 117 = .ok (.iload_n 3, 1) := by decide +kernel
theorem dL_law_118 : decode cL_law 118 = .ok (.iconst 2, 1) := by decide +kernel
theorem dL_law_119 : decode cL_law 119 = .ok (.iadd, 1) := by decide +kernel
theorem dL_law_120 : decode cL_law 120 = .ok (.iaload, 1) := by decide +kernel
theorem dL_law_121 : decode cL_law 121 = .ok (.invokevirtual 17, 3) := by decide +kernel
theorem dL_law_124 : decode cL_law 124 = .ok (.if_icmp .eq 338, 3) := by decide +kernel
theorem dL_law_127 : decode cL_law 127 = .ok (.iconst 0, 1) := by decide +kernel
theorem dL_law_128 : decode cL_law 128 = .ok (.ireturn, 1) := by decide +kernel
theorem dL_law_129 : decode cL_law 129 = .ok (.aload_n 1, 1) := by decide +kernel
theorem dL_law_130 : decode cL_law 130 = .ok (.aload_n 0, 1) := by decide +kernel
theorem dL_law_131 : decode cL_law 131 = .ok (.iload_n 3, 1) := by decide +kernel
theorem dL_law_132 : decode cL_law 132 = .ok (.iconst 1, 1) := by decide +kernel
theorem dL_law_133 : decode cL_law 133 = .ok (.iadd, 1) := by decide +kernel
theorem dL_law_134 : decode cL_law 134 = .ok (.iaload, 1) := by decide +kernel
theorem dL_law_135 : decode cL_law 135 = .ok (.aload_n 0, 1) := by decide +kernel
theorem dL_law_136 : decode cL_law 136 = .ok (.iload_n 3, 1) := by decide +kernel
theorem dL_law_137 : decode cL_law 137 = .ok (.iconst 2, 1) := by decide +kernel
theorem dL_law_138 : decode cL_law 138 = .ok (.iadd, 1) := by decide +kernel
theorem dL_law_139 : decode cL_law 139 = .ok (.iaload, 1) := by decide +kernel
theorem dL_law_140 : decode cL_law 140 = .ok (.aload_n 0, 1) := by decide +kernel
theorem dL_law_141 : decode cL_law 141 = .ok (.iload_n 3, 1) := by decide +kernel
theorem dL_law_142 : decode cL_law 142 = .ok (.iconst 3, 1) := by decide +kernel
theorem dL_law_143 : decode cL_law 143 = .ok (.iadd, 1) := by decide +kernel
theorem dL_law_144 : decode cL_law 144 = .ok (.iaload, 1) := by decide +kernel
theorem dL_law_145 : decode cL_law 145 = .ok (.aload_n 0, 1) := by decide +kernel
theorem dL_law_146 : decode cL_law 146 = .ok (.iload_n 3, 1) := by decide +kernel
theorem dL_law_147 : decode cL_law 147 = .ok (.iconst 4, 1) := by decide +kernel
theorem dL_law_148 : decode cL_law 148 = .ok (.iadd, 1) := by decide +kernel
theorem dL_law_149 : decode cL_law 149 = .ok (.iaload, 1) := by decide +kernel
theorem dL_law_150 : decode cL_law 150 = .ok (.invokevirtual 18, 3) := by decide +kernel
theorem dL_law_153 : decode cL_law 153 = .ok (.aload_n 2, 1) := by decide +kernel
theorem dL_law_154 : decode cL_law 154 = .ok (.aload_n 0, 1) := by decide +kernel
theorem dL_law_155 : decode cL_law 155 = .ok (.iload_n 3, 1) := by decide +kernel
theorem dL_law_156 : decode cL_law 156 = .ok (.iconst 1, 1) := by decide +kernel
theorem dL_law_157 : decode cL_law 157 = .ok (.iadd, 1) := by decide +kernel
theorem dL_law_158 : decode cL_law 158 = .ok (.iaload, 1) := by decide +kernel
theorem dL_law_159 : decode cL_law 159 = .ok (.aload_n 0, 1) := by decide +kernel
theorem dL_law_160 : decode cL_law 160 = .ok (.iload_n 3, 1) := by decide +kernel
theorem dL_law_161 : decode cL_law 161 = .ok (.iconst 2, 1) := by decide +kernel
theorem dL_law_162 : decode cL_law 162 = .ok (.iadd, 1) := by decide +kernel
theorem dL_law_163 : decode cL_law 163 = .ok (.iaload, 1) := by decide +kernel
theorem dL_law_164 : decode cL_law 164 = .ok (.aload_n 0, 1) := by decide +kernel
theorem dL_law_165 : decode cL_law 165 = .ok (.iload_n 3, 1) := by decide +kernel
theorem dL_law_166 : decode cL_law 166 = .ok (.iconst 3, 1) := by decide +kernel
theorem dL_law_167 : decode cL_law 167 = .ok (.iadd, 1) := by decide +kernel
theorem dL_law_168 : decode cL_law 168 = .ok (.iaload, 1) := by decide +kernel
theorem dL_law_169 : decode cL_law 169 = .ok (.aload_n 0, 1) := by decide +kernel
theorem dL_law_170 : decode cL_law 170 = .ok (.iload_n 3, 1) := by decide +kernel
theorem dL_law_171 : decode cL_law 171 = .ok (.iconst 4, 1) := by decide +kernel
theorem dL_law_172 : decode cL_law 172 = .ok (.iadd, 1) := by decide +kernel
theorem dL_law_173 : decode cL_law 173 = .ok (.iaload, 1) := by decide +kernel
theorem dL_law_174 : decode cL_law 174 = .ok (.invokevirtual 22, 3) := by decide +kernel
theorem dL_law_177 : decode cL_law 177 = .ok (.if_icmp .eq 285, 3) := by decide +kernel
theorem dL_law_180 : decode cL_law 180 = .ok (.iconst 0, 1) := by decide +kernel
theorem dL_law_181 : decode cL_law 181 = .ok (.ireturn, 1) := by decide +kernel
theorem dL_law_182 : decode cL_law 182 = .ok (.aload_n 1, 1) := by decide +kernel
theorem dL_law_183 : decode cL_law 183 = .ok (.aload_n 0, 1) := by decide +kernel
theorem dL_law_184 : decode cL_law 184 = .ok (.iload_n 3, 1) := by decide +kernel
theorem dL_law_185 : decode cL_law 185 = .ok (.iconst 1, 1) := by decide +kernel
theorem dL_law_186 : decode cL_law 186 = .ok (.iadd, 1) := by decide +kernel
theorem dL_law_187 : decode cL_law 187 = .ok (.iaload, 1) := by decide +kernel
theorem dL_law_188 : decode cL_law 188 = .ok (.aload_n 0, 1) := by decide +kernel
theorem dL_law_189 : decode cL_law 189 = .ok (.iload_n 3, 1) := by decide +kernel
theorem dL_law_190 : decode cL_law 190 = .ok (.iconst 2, 1) := by decide +kernel
theorem dL_law_191 : decode cL_law 191 = .ok (.iadd, 1) := by decide +kernel
theorem dL_law_192 : decode cL_law 192 = .ok (.iaload, 1) := by decide +kernel
theorem dL_law_193 : decode cL_law 193 = .ok (.aload_n 0, 1) := by decide +kernel
theorem dL_law_194 : decode cL_law 194 = .ok (.iload_n 3, 1) := by decide +kernel
theorem dL_law_195 : decode cL_law 195 = .ok (.iconst 3, 1) := by decide +kernel
theorem dL_law_196 : decode cL_law 196 = .ok (.iadd, 1) := by decide +kernel
theorem dL_law_197 : decode cL_law 197 = .ok (.iaload, 1) := by decide +kernel
theorem dL_law_198 : decode cL_law 198 = .ok (.invokevirtual 23, 3) := by decide +kernel
theorem dL_law_201 : decode cL_law 201 = .ok (.aload_n 2, 1) := by decide +kernel
theorem dL_law_202 : decode cL_law 202 = .ok (.aload_n 0, 1) := by decide +kernel
theorem dL_law_203 : decode cL_law 203 = .ok (.iload_n 3, 1) := by decide +kernel
theorem dL_law_204 : decode cL_law 204 = .ok (.iconst 1, 1) := by decide +kernel
theorem dL_law_205 : decode cL_law 205 = .ok (.iadd, 1) := by decide +kernel
theorem dL_law_206 : decode cL_law 206 = .ok (.iaload, 1) := by decide +kernel
theorem dL_law_207 : decode cL_law 207 = .ok (.aload_n 0, 1) := by decide +kernel
theorem dL_law_208 : decode cL_law 208 = .ok (.iload_n 3, 1) := by decide +kernel
theorem dL_law_209 : decode cL_law 209 = .ok (.iconst 2, 1) := by decide +kernel
theorem dL_law_210 : decode cL_law 210 = .ok (.iadd, 1) := by decide +kernel
theorem dL_law_211 : decode cL_law 211 = .ok (.iaload, 1) := by decide +kernel
theorem dL_law_212 : decode cL_law 212 = .ok (.aload_n 0, 1) := by decide +kernel
theorem dL_law_213 : decode cL_law 213 = .ok (.iload_n 3, 1) := by decide +kernel
theorem dL_law_214 : decode cL_law 214 = .ok (.iconst 3, 1) := by decide +kernel
theorem dL_law_215 : decode cL_law 215 = .ok (.iadd, 1) := by decide +kernel
theorem dL_law_216 : decode cL_law 216 = .ok (.iaload, 1) := by decide +kernel
theorem dL_law_217 : decode cL_law 217 = .ok (.invokevirtual 27, 3) := by decide +kernel
theorem dL_law_220 : decode cL_law 220 = .ok (.if_icmp .eq 242, 3) := by decide +kernel
theorem dL_law_223 : decode cL_law 223 = .ok (.iconst 0, 1) := by decide +kernel
theorem dL_law_224 : decode cL_law 224 = .ok (.ireturn, 1) := by decide +kernel
theorem dL_law_225 : decode cL_law 225 = .ok (.aload_n 1, 1) := by decide +kernel
theorem dL_law_226 : decode cL_law 226 = .ok (.aload_n 0, 1) := by decide +kernel
theorem dL_law_227 : decode cL_law 227 = .ok (.iload_n 3, 1) := by decide +kernel
theorem dL_law_228 : decode cL_law 228 = .ok (.iconst 1, 1) := by decide +kernel
theorem dL_law_229 : decode cL_law 229 = .ok (.iadd, 1) := by decide +kernel
theorem dL_law_230 : decode cL_law 230 = .ok (.iaload, 1) := by decide +kernel
theorem dL_law_231 : decode cL_law 231 = .ok (.aload_n 0, 1) := by decide +kernel
theorem dL_law_232 : decode cL_law 232 = .ok (.iload_n 3, 1) := by decide +kernel
theorem dL_law_233 : decode cL_law 233 = .ok (.iconst 2, 1) := by decide +kernel
theorem dL_law_234 : decode cL_law 234 = .ok (.iadd, 1) := by decide +kernel
theorem dL_law_235 : decode cL_law 235 = .ok (.iaload, 1) := by decide +kernel
theorem dL_law_236 : decode cL_law 236 = .ok (.invokevirtual 28, 3) := by decide +kernel
theorem dL_law_239 : decode cL_law 239 = .ok (.aload_n 2, 1) := by decide +kernel
theorem dL_law_240 : decode cL_law 240 = .ok (.aload_n 0, 1) := by decide +kernel
theorem dL_law_241 : decode cL_law 241 = .ok (.iload_n 3, 1) := by decide +kernel
theorem dL_law_242 : decode cL_law 242 = .ok (.iconst 1, 1) := by decide +kernel
theorem dL_law_243 : decode cL_law 243 = .ok (.iadd, 1) := by decide +kernel
theorem dL_law_244 : decode cL_law 244 = .ok (.iaload, 1) := by decide +kernel
theorem dL_law_245 : decode cL_law 245 = .ok (.aload_n 0, 1) := by decide +kernel
theorem dL_law_246 : decode cL_law 246 = .ok (.iload_n 3, 1) := by decide +kernel
theorem dL_law_247 : decode cL_law 247 = .ok (.iconst 2, 1) := by decide +kernel
theorem dL_law_248 : decode cL_law 248 = .ok (.iadd, 1) := by decide +kernel
theorem dL_law_249 : decode cL_law 249 = .ok (.iaload, 1) := by decide +kernel
theorem dL_law_250 : decode cL_law 250 = .ok (.invokevirtual 31, 3) := by decide +kernel
theorem dL_law_253 : decode cL_law 253 = .ok (.if_icmp .eq 209, 3) := by decide +kernel
theorem dL_law_256 : decode cL_law 256 = .ok (.iconst 0, 1) := by decide +kernel
theorem dL_law_257 : decode cL_law 257 = .ok (.ireturn, 1) := by decide +kernel
theorem dL_law_258 : decode cL_law 258 = .ok (.aload_n 1, 1) := by decide +kernel
theorem dL_law_259 : decode cL_law 259 = .ok (.aload_n 0, 1) := by decide +kernel
theorem dL_law_260 : decode cL_law 260 = .ok (.iload_n 3, 1) := by decide +kernel
theorem dL_law_261 : decode cL_law 261 = .ok (.iconst 1, 1) := by decide +kernel
theorem dL_law_262 : decode cL_law 262 = .ok (.iadd, 1) := by decide +kernel
theorem dL_law_263 : decode cL_law 263 = .ok (.iaload, 1) := by decide +kernel
theorem dL_law_264 : decode cL_law 264 = .ok (.aload_n 0, 1) := by decide +kernel
theorem dL_law_265 : decode cL_law 265 = .ok (.iload_n 3, 1) := by decide +kernel
theorem dL_law_266 : decode cL_law 266 = .ok (.iconst 2, 1) := by decide +kernel
theorem dL_law_267 : decode cL_law 267 = .ok (.iadd, 1) := by decide +kernel
theorem dL_law_268 : decode cL_law 268 = .ok (.iaload, 1) := by decide +kernel
theorem dL_law_269 : decode cL_law 269 = .ok (.invokevirtual 32, 3) := by decide +kernel
theorem dL_law_272 : decode cL_law 272 = .ok (.aload_n 2, 1) := by decide +kernel
theorem dL_law_273 : decode cL_law 273 = .ok (.aload_n 0, 1) := by decide +kernel
theorem dL_law_274 : decode cL_law 274 = .ok (.iload_n 3, 1) := by decide +kernel
theorem dL_law_275 : decode cL_law 275 = .ok (.iconst 1, 1) := by decide +kernel
theorem dL_law_276 : decode cL_law 276 = .ok (.iadd, 1) := by decide +kernel
theorem dL_law_277 : decode cL_law 277 = .ok (.iaload, 1) := by decide +kernel
theorem dL_law_278 : decode cL_law 278 = .ok (.aload_n 0, 1) := by decide +kernel
theorem dL_law_279 : decode cL_law 279 = .ok (.iload_n 3, 1) := by decide +kernel
theorem dL_law_280 : decode cL_law 280 = .ok (.iconst 2, 1) := by decide +kernel
theorem dL_law_281 : decode cL_law 281 = .ok (.iadd, 1) := by decide +kernel
theorem dL_law_282 : decode cL_law 282 = .ok (.iaload, 1) := by decide +kernel
theorem dL_law_283 : decode cL_law 283 = .ok (.invokevirtual 35, 3) := by decide +kernel
theorem dL_law_286 : decode cL_law 286 = .ok (.if_icmp .eq 176, 3) := by decide +kernel
theorem dL_law_289 : decode cL_law 289 = .ok (.iconst 0, 1) := by decide +kernel
theorem dL_law_290 : decode cL_law 290 = .ok (.ireturn, 1) := by decide +kernel
theorem dL_law_291 : decode cL_law 291 = .ok (.aload_n 1, 1) := by decide +kernel
theorem dL_law_292 : decode cL_law 292 = .ok (.aload_n 0, 1) := by decide +kernel
theorem dL_law_293 : decode cL_law 293 = .ok (.iload_n 3, 1) := by decide +kernel
theorem dL_law_294 : decode cL_law 294 = .ok (.iconst 1, 1) := by decide +kernel
theorem dL_law_295 : decode cL_law 295 = .ok (.iadd, 1) := by decide +kernel
theorem dL_law_296 : decode cL_law 296 = .ok (.iaload, 1) := by decide +kernel
theorem dL_law_297 : decode cL_law 297 = .ok (.aload_n 0, 1) := by decide +kernel
theorem dL_law_298 : decode cL_law 298 = .ok (.iload_n 3, 1) := by decide +kernel
theorem dL_law_299 : decode cL_law 299 = .ok (.iconst 2, 1) := by decide +kernel
theorem dL_law_300 : decode cL_law 300 = .ok (.iadd, 1) := by decide +kernel
theorem dL_law_301 : decode cL_law 301 = .ok (.iaload, 1) := by decide +kernel
theorem dL_law_302 : decode cL_law 302 = .ok (.invokevirtual 36, 3) := by decide +kernel
theorem dL_law_305 : decode cL_law 305 = .ok (.aload_n 2, 1) := by decide +kernel
theorem dL_law_306 : decode cL_law 306 = .ok (.aload_n 0, 1) := by decide +kernel
theorem dL_law_307 : decode cL_law 307 = .ok (.iload_n 3, 1) := by decide +kernel
theorem dL_law_308 : decode cL_law 308 = .ok (.iconst 1, 1) := by decide +kernel
theorem dL_law_309 : decode cL_law 309 = .ok (.iadd, 1) := by decide +kernel
theorem dL_law_310 : decode cL_law 310 = .ok (.iaload, 1) := by decide +kernel
theorem dL_law_311 : decode cL_law 311 = .ok (.aload_n 0, 1) := by decide +kernel
theorem dL_law_312 : decode cL_law 312 = .ok (.iload_n 3, 1) := by decide +kernel
theorem dL_law_313 : decode cL_law 313 = .ok (.iconst 2, 1) := by decide +kernel
theorem dL_law_314 : decode cL_law 314 = .ok (.iadd, 1) := by decide +kernel
theorem dL_law_315 : decode cL_law 315 = .ok (.iaload, 1) := by decide +kernel
theorem dL_law_316 : decode cL_law 316 = .ok (.invokevirtual 39, 3) := by decide +kernel
theorem dL_law_319 : decode cL_law 319 = .ok (.if_icmp .eq 143, 3) := by decide +kernel
theorem dL_law_322 : decode cL_law 322 = .ok (.iconst 0, 1) := by decide +kernel
theorem dL_law_323 : decode cL_law 323 = .ok (.ireturn, 1) := by decide +kernel
theorem dL_law_324 : decode cL_law 324 = .ok (.aload_n 1, 1) := by decide +kernel
theorem dL_law_325 : decode cL_law 325 = .ok (.aload_n 0, 1) := by decide +kernel
theorem dL_law_326 : decode cL_law 326 = .ok (.iload_n 3, 1) := by decide +kernel
theorem dL_law_327 : decode cL_law 327 = .ok (.iconst 1, 1) := by decide +kernel
theorem dL_law_328 : decode cL_law 328 = .ok (.iadd, 1) := by decide +kernel
theorem dL_law_329 : decode cL_law 329 = .ok (.iaload, 1) := by decide +kernel
theorem dL_law_330 : decode cL_law 330 = .ok (.aload_n 0, 1) := by decide +kernel
theorem dL_law_331 : decode cL_law 331 = .ok (.iload_n 3, 1) := by decide +kernel
theorem dL_law_332 : decode cL_law 332 = .ok (.iconst 2, 1) := by decide +kernel
theorem dL_law_333 : decode cL_law 333 = .ok (.iadd, 1) := by decide +kernel
theorem dL_law_334 : decode cL_law 334 = .ok (.iaload, 1) := by decide +kernel
theorem dL_law_335 : decode cL_law 335 = .ok (.invokevirtual 40, 3) := by decide +kernel
theorem dL_law_338 : decode cL_law 338 = .ok (.aload_n 2, 1) := by decide +kernel
theorem dL_law_339 : decode cL_law 339 = .ok (.aload_n 0, 1) := by decide +kernel
theorem dL_law_340 : decode cL_law 340 = .ok (.iload_n 3, 1) := by decide +kernel
theorem dL_law_341 : decode cL_law 341 = .ok (.iconst 1, 1) := by decide +kernel
theorem dL_law_342 : decode cL_law 342 = .ok (.iadd, 1) := by decide +kernel
theorem dL_law_343 : decode cL_law 343 = .ok (.iaload, 1) := by decide +kernel
theorem dL_law_344 : decode cL_law 344 = .ok (.aload_n 0, 1) := by decide +kernel
theorem dL_law_345 : decode cL_law 345 = .ok (.iload_n 3, 1) := by decide +kernel
theorem dL_law_346 : decode cL_law 346 = .ok (.iconst 2, 1) := by decide +kernel
theorem dL_law_347 : decode cL_law 347 = .ok (.iadd, 1) := by decide +kernel
theorem dL_law_348 : decode cL_law 348 = .ok (.iaload, 1) := by decide +kernel
theorem dL_law_349 : decode cL_law 349 = .ok (.invokevirtual 43, 3) := by decide +kernel
theorem dL_law_352 : decode cL_law 352 = .ok (.if_icmp .eq 110, 3) := by decide +kernel
theorem dL_law_355 : decode cL_law 355 = .ok (.iconst 0, 1) := by decide +kernel
theorem dL_law_356 : decode cL_law 356 = .ok (.ireturn, 1) := by decide +kernel
theorem dL_law_357 : decode cL_law 357 = .ok (.aload_n 1, 1) := by decide +kernel
theorem dL_law_358 : decode cL_law 358 = .ok (.aload_n 0, 1) := by decide +kernel
theorem dL_law_359 : decode cL_law 359 = .ok (.iload_n 3, 1) := by decide +kernel
theorem dL_law_360 : decode cL_law 360 = .ok (.iconst 1, 1) := by decide +kernel
theorem dL_law_361 : decode cL_law 361 = .ok (.iadd, 1) := by decide +kernel
theorem dL_law_362 : decode cL_law 362 = .ok (.iaload, 1) := by decide +kernel
theorem dL_law_363 : decode cL_law 363 = .ok (.invokevirtual 44, 3) := by decide +kernel
theorem dL_law_366 : decode cL_law 366 = .ok (.aload_n 2, 1) := by decide +kernel
theorem dL_law_367 : decode cL_law 367 = .ok (.aload_n 0, 1) := by decide +kernel
theorem dL_law_368 : decode cL_law 368 = .ok (.iload_n 3, 1) := by decide +kernel
theorem dL_law_369 : decode cL_law 369 = .ok (.iconst 1, 1) := by decide +kernel
theorem dL_law_370 : decode cL_law 370 = .ok (.iadd, 1) := by decide +kernel
theorem dL_law_371 : decode cL_law 371 = .ok (.iaload, 1) := by decide +kernel
theorem dL_law_372 : decode cL_law 372 = .ok (.invokevirtual 48, 3) := by decide +kernel
theorem dL_law_375 : decode cL_law 375 = .ok (.if_icmp .eq 87, 3) := by decide +kernel
theorem dL_law_378 : decode cL_law 378 = .ok (.iconst 0, 1) := by decide +kernel
theorem dL_law_379 : decode cL_law 379 = .ok (.ireturn, 1) := by decide +kernel
theorem dL_law_380 : decode cL_law 380 = .ok (.aload_n 1, 1) := by decide +kernel
theorem dL_law_381 : decode cL_law 381 = .ok (.invokevirtual 49, 3) := by decide +kernel
theorem dL_law_384 : decode cL_law 384 = .ok (.aload_n 2, 1) := by decide +kernel
theorem dL_law_385 : decode cL_law 385 = .ok (.invokevirtual 53, 3) := by decide +kernel
theorem dL_law_388 : decode cL_law 388 = .ok (.if_icmp .eq 74, 3) := by decide +kernel
theorem dL_law_391 : decode cL_law 391 = .ok (.iconst 0, 1) := by decide +kernel
theorem dL_law_392 : decode cL_law 392 = .ok (.ireturn, 1) := by decide +kernel
theorem dL_law_393 : decode cL_law 393 = .ok (.aload_n 1, 1) := by decide +kernel
theorem dL_law_394 : decode cL_law 394 = .ok (.aload_n 0, 1) := by decide +kernel
theorem dL_law_395 : decode cL_law 395 = .ok (.iload_n 3, 1) := by decide +kernel
theorem dL_law_396 : decode cL_law 396 = .ok (.iconst 1, 1) := by decide +kernel
theorem dL_law_397 : decode cL_law 397 = .ok (.iadd, 1) := by decide +kernel
theorem dL_law_398 : decode cL_law 398 = .ok (.iaload, 1) := by decide +kernel
theorem dL_law_399 : decode cL_law 399 = .ok (.aload_n 0, 1) := by decide +kernel
theorem dL_law_400 : decode cL_law 400 = .ok (.iload_n 3, 1) := by decide +kernel
theorem dL_law_401 : decode cL_law 401 = .ok (.iconst 2, 1) := by decide +kernel
theorem dL_law_402 : decode cL_law 402 = .ok (.iadd, 1) := by decide +kernel
theorem dL_law_403 : decode cL_law 403 = .ok (.iaload, 1) := by decide +kernel
theorem dL_law_404 : decode cL_law 404 = .ok (.invokevirtual 54, 3) := by decide +kernel
theorem dL_law_407 : decode cL_law 407 = .ok (.aload_n 2, 1) := by decide +kernel
theorem dL_law_408 : decode cL_law 408 = .ok (.aload_n 0, 1) := by decide +kernel
theorem dL_law_409 : decode cL_law 409 = .ok (.iload_n 3, 1) := by decide +kernel
theorem dL_law_410 : decode cL_law 410 = .ok (.iconst 1, 1) := by decide +kernel
theorem dL_law_411 : decode cL_law 411 = .ok (.iadd, 1) := by decide +kernel
theorem dL_law_412 : decode cL_law 412 = .ok (.iaload, 1) := by decide +kernel
theorem dL_law_413 : decode cL_law 413 = .ok (.aload_n 0, 1) := by decide +kernel
theorem dL_law_414 : decode cL_law 414 = .ok (.iload_n 3, 1) := by decide +kernel
theorem dL_law_415 : decode cL_law 415 = .ok (.iconst 2, 1) := by decide +kernel
theorem dL_law_416 : decode cL_law 416 = .ok (.iadd, 1) := by decide +kernel
theorem dL_law_417 : decode cL_law 417 = .ok (.iaload, 1) := by decide +kernel
theorem dL_law_418 : decode cL_law 418 = .ok (.invokevirtual 57, 3) := by decide +kernel
theorem dL_law_421 : decode cL_law 421 = .ok (.if_icmp .eq 41, 3) := by decide +kernel
theorem dL_law_424 : decode cL_law 424 = .ok (.iconst 0, 1) := by decide +kernel
theorem dL_law_425 : decode cL_law 425 = .ok (.ireturn, 1) := by decide +kernel
theorem dL_law_426 : decode cL_law 426 = .ok (.aload_n 1, 1) := by decide +kernel
theorem dL_law_427 : decode cL_law 427 = .ok (.aload_n 0, 1) := by decide +kernel
theorem dL_law_428 : decode cL_law 428 = .ok (.iload_n 3, 1) := by decide +kernel
theorem dL_law_429 : decode cL_law 429 = .ok (.iconst 1, 1) := by decide +kernel
theorem dL_law_430 : decode cL_law 430 = .ok (.iadd, 1) := by decide +kernel
theorem dL_law_431 : decode cL_law 431 = .ok (.iaload, 1) := by decide +kernel
theorem dL_law_432 : decode cL_law 432 = .ok (.invokevirtual 58, 3) := by decide +kernel
theorem dL_law_435 : decode cL_law 435 = .ok (.aload_n 2, 1) := by decide +kernel
theorem dL_law_436 : decode cL_law 436 = .ok (.aload_n 0, 1) := by decide +kernel
theorem dL_law_437 : decode cL_law 437 = .ok (.iload_n 3, 1) := by decide +kernel
theorem dL_law_438 : decode cL_law 438 = .ok (.iconst 1, 1) := by decide +kernel
theorem dL_law_439 : decode cL_law 439 = .ok (.iadd, 1) := by decide +kernel
theorem dL_law_440 : decode cL_law 440 = .ok (.iaload, 1) := by decide +kernel
theorem dL_law_441 : decode cL_law 441 = .ok (.invokevirtual 61, 3) := by decide +kernel
theorem dL_law_444 : decode cL_law 444 = .ok (.if_icmp .eq 18, 3) := by decide +kernel
theorem dL_law_447 : decode cL_law 447 = .ok (.iconst 0, 1) := by decide +kernel
theorem dL_law_448 : decode cL_law 448 = .ok (.ireturn, 1) := by decide +kernel
theorem dL_law_449 : decode cL_law 449 = .ok (.aload_n 1, 1) := by decide +kernel
theorem dL_law_450 : decode cL_law 450 = .ok (.invokevirtual 62, 3) := by decide +kernel
theorem dL_law_453 : decode cL_law 453 = .ok (.aload_n 2, 1) := by decide +kernel
theorem dL_law_454 : decode cL_law 454 = .ok (.invokevirtual 65, 3) := by decide +kernel
theorem dL_law_457 : decode cL_law 457 = .ok (.if_icmp .eq 5, 3) := by decide +kernel
theorem dL_law_460 : decode cL_law 460 = .ok (.iconst 0, 1) := by decide +kernel
theorem dL_law_461 : decode cL_law 461 = .ok (.ireturn, 1) := by decide +kernel
theorem dL_law_462 : decode cL_law 462 = .ok (.iinc 3 5, 3) := by decide +kernel
theorem dL_law_465 : decode cL_law 465 = .ok (.goto (-447), 3) := by decide +kernel
theorem dL_law_468 : decode cL_law 468 = .ok (.iconst 1, 1) := by decide +kernel
theorem dL_law_469 : decode cL_law 469 = .ok (.ireturn, 1) := by decide +kernel
