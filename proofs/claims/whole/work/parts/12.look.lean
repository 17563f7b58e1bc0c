/-! where each instruction stands -/
theorem mi_a1_0 : mi_look mi_m1.1 0 = some (.aload_n 0, 1) := rfl
theorem mi_a1_1 : mi_look mi_m1.1 1 = some (.iconst 0, 1) := rfl
theorem mi_a1_2 : mi_look mi_m1.1 2 = some (.putfield 24, 3) := rfl
theorem mi_a1_5 : mi_look mi_m1.1 5 = some (.return_, 1) := rfl
theorem mi_a2_0 : mi_look mi_m2.1 0 = some (.iload_n 1, 1) := rfl
theorem mi_a2_1 : mi_look mi_m2.1 1 = some (.ifCond .lt 26, 3) := rfl
theorem mi_a2_4 : mi_look mi_m2.1 4 = some (.iload_n 1, 1) := rfl
theorem mi_a2_5 : mi_look mi_m2.1 5 = some (.aload_n 0, 1) := rfl
theorem mi_a2_6 : mi_look mi_m2.1 6 = some (.getfield 24, 3) := rfl
theorem mi_a2_9 : mi_look mi_m2.1 9 = some (.if_icmp .ge 18, 3) := rfl
theorem mi_a2_12 : mi_look mi_m2.1 12 = some (.iload_n 1, 1) := rfl
theorem mi_a2_13 : mi_look mi_m2.1 13 = some (.bipush 64, 2) := rfl
theorem mi_a2_15 : mi_look mi_m2.1 15 = some (.if_icmp .ge 12, 3) := rfl
theorem mi_a2_18 : mi_look mi_m2.1 18 = some (.aload_n 0, 1) := rfl
theorem mi_a2_19 : mi_look mi_m2.1 19 = some (.getfield 11, 3) := rfl
theorem mi_a2_22 : mi_look mi_m2.1 22 = some (.iload_n 1, 1) := rfl
theorem mi_a2_23 : mi_look mi_m2.1 23 = some (.iaload, 1) := rfl
theorem mi_a2_24 : mi_look mi_m2.1 24 = some (.goto 4, 3) := rfl
theorem mi_a2_27 : mi_look mi_m2.1 27 = some (.iconst (-1), 1) := rfl
theorem mi_a2_28 : mi_look mi_m2.1 28 = some (.ireturn, 1) := rfl
theorem mi_a3_0 : mi_look mi_m3.1 0 = some (.iload_n 1, 1) := rfl
theorem mi_a3_1 : mi_look mi_m3.1 1 = some (.ifCond .lt 19, 3) := rfl
theorem mi_a3_4 : mi_look mi_m3.1 4 = some (.iload_n 1, 1) := rfl
theorem mi_a3_5 : mi_look mi_m3.1 5 = some (.bipush 18, 2) := rfl
theorem mi_a3_7 : mi_look mi_m3.1 7 = some (.if_icmp .ge 13, 3) := rfl
theorem mi_a3_10 : mi_look mi_m3.1 10 = some (.iload_n 2, 1) := rfl
theorem mi_a3_11 : mi_look mi_m3.1 11 = some (.ifCond .lt 9, 3) := rfl
theorem mi_a3_14 : mi_look mi_m3.1 14 = some (.iload_n 2, 1) := rfl
theorem mi_a3_15 : mi_look mi_m3.1 15 = some (.bipush 12, 2) := rfl
theorem mi_a3_17 : mi_look mi_m3.1 17 = some (.if_icmp .lt 5, 3) := rfl
theorem mi_a3_20 : mi_look mi_m3.1 20 = some (.iconst 0, 1) := rfl
theorem mi_a3_21 : mi_look mi_m3.1 21 = some (.ireturn, 1) := rfl
theorem mi_a3_22 : mi_look mi_m3.1 22 = some (.aload_n 0, 1) := rfl
theorem mi_a3_23 : mi_look mi_m3.1 23 = some (.getfield 17, 3) := rfl
theorem mi_a3_26 : mi_look mi_m3.1 26 = some (.iload_n 1, 1) := rfl
theorem mi_a3_27 : mi_look mi_m3.1 27 = some (.bipush 12, 2) := rfl
theorem mi_a3_29 : mi_look mi_m3.1 29 = some (.imul, 1) := rfl
theorem mi_a3_30 : mi_look mi_m3.1 30 = some (.iload_n 2, 1) := rfl
theorem mi_a3_31 : mi_look mi_m3.1 31 = some (.iadd, 1) := rfl
theorem mi_a3_32 : mi_look mi_m3.1 32 = some (.iaload, 1) := rfl
theorem mi_a3_33 : mi_look mi_m3.1 33 = some (.ireturn, 1) := rfl
theorem mi_a4_0 : mi_look mi_m4.1 0 = some (.aload_n 0, 1) := rfl
theorem mi_a4_1 : mi_look mi_m4.1 1 = some (.aload_n 1, 1) := rfl
theorem mi_a4_2 : mi_look mi_m4.1 2 = some (.aload_n 0, 1) := rfl
theorem mi_a4_3 : mi_look mi_m4.1 3 = some (.aload_n 1, 1) := rfl
theorem mi_a4_4 : mi_look mi_m4.1 4 = some (.getfield 28, 3) := rfl
theorem mi_a4_7 : mi_look mi_m4.1 7 = some (.iload_n 2, 1) := rfl
theorem mi_a4_8 : mi_look mi_m4.1 8 = some (.invokevirtual 33, 3) := rfl
theorem mi_a4_11 : mi_look mi_m4.1 11 = some (.iload_n 3, 1) := rfl
theorem mi_a4_12 : mi_look mi_m4.1 12 = some (.iload 4, 2) := rfl
theorem mi_a4_14 : mi_look mi_m4.1 14 = some (.invokevirtual 34, 3) := rfl
theorem mi_a4_17 : mi_look mi_m4.1 17 = some (.ireturn, 1) := rfl
theorem mi_a5_0 : mi_look mi_m5.1 0 = some (.aload_n 0, 1) := rfl
theorem mi_a5_1 : mi_look mi_m5.1 1 = some (.aload_n 2, 1) := rfl
theorem mi_a5_2 : mi_look mi_m5.1 2 = some (.aload_n 0, 1) := rfl
theorem mi_a5_3 : mi_look mi_m5.1 3 = some (.iload_n 1, 1) := rfl
theorem mi_a5_4 : mi_look mi_m5.1 4 = some (.invokestatic 38, 3) := rfl
theorem mi_a5_7 : mi_look mi_m5.1 7 = some (.iload_n 3, 1) := rfl
theorem mi_a5_8 : mi_look mi_m5.1 8 = some (.invokevirtual 33, 3) := rfl
theorem mi_a5_11 : mi_look mi_m5.1 11 = some (.iload 4, 2) := rfl
theorem mi_a5_13 : mi_look mi_m5.1 13 = some (.iload 5, 2) := rfl
theorem mi_a5_15 : mi_look mi_m5.1 15 = some (.invokevirtual 34, 3) := rfl
theorem mi_a5_18 : mi_look mi_m5.1 18 = some (.ireturn, 1) := rfl
theorem mi_a6_0 : mi_look mi_m6.1 0 = some (.aload_n 0, 1) := rfl
theorem mi_a6_1 : mi_look mi_m6.1 1 = some (.aload_n 2, 1) := rfl
theorem mi_a6_2 : mi_look mi_m6.1 2 = some (.aload_n 0, 1) := rfl
theorem mi_a6_3 : mi_look mi_m6.1 3 = some (.iload_n 1, 1) := rfl
theorem mi_a6_4 : mi_look mi_m6.1 4 = some (.iload_n 3, 1) := rfl
theorem mi_a6_5 : mi_look mi_m6.1 5 = some (.invokevirtual 33, 3) := rfl
theorem mi_a6_8 : mi_look mi_m6.1 8 = some (.iload 4, 2) := rfl
theorem mi_a6_10 : mi_look mi_m6.1 10 = some (.iload 5, 2) := rfl
theorem mi_a6_12 : mi_look mi_m6.1 12 = some (.invokevirtual 34, 3) := rfl
theorem mi_a6_15 : mi_look mi_m6.1 15 = some (.ireturn, 1) := rfl
theorem mi_a7_0 : mi_look mi_m7.1 0 = some (.iload_n 2, 1) := rfl
theorem mi_a7_1 : mi_look mi_m7.1 1 = some (.ifCond .eq 10, 3) := rfl
theorem mi_a7_4 : mi_look mi_m7.1 4 = some (.iload 4, 2) := rfl
theorem mi_a7_6 : mi_look mi_m7.1 6 = some (.bipush 40, 2) := rfl
theorem mi_a7_8 : mi_look mi_m7.1 8 = some (.if_icmp .le 5, 3) := rfl
theorem mi_a7_11 : mi_look mi_m7.1 11 = some (.iconst 0, 1) := rfl
theorem mi_a7_12 : mi_look mi_m7.1 12 = some (.ireturn, 1) := rfl
theorem mi_a7_13 : mi_look mi_m7.1 13 = some (.aload_n 0, 1) := rfl
theorem mi_a7_14 : mi_look mi_m7.1 14 = some (.iload_n 2, 1) := rfl
theorem mi_a7_15 : mi_look mi_m7.1 15 = some (.invokevirtual 42, 3) := rfl
theorem mi_a7_18 : mi_look mi_m7.1 18 = some (.iload_n 2, 1) := rfl
theorem mi_a7_19 : mi_look mi_m7.1 19 = some (.bipush 60, 2) := rfl
theorem mi_a7_21 : mi_look mi_m7.1 21 = some (.if_icmp .ge 15, 3) := rfl
theorem mi_a7_24 : mi_look mi_m7.1 24 = some (.aload_n 0, 1) := rfl
theorem mi_a7_25 : mi_look mi_m7.1 25 = some (.aload_n 1, 1) := rfl
theorem mi_a7_26 : mi_look mi_m7.1 26 = some (.iload_n 2, 1) := rfl
theorem mi_a7_27 : mi_look mi_m7.1 27 = some (.iload_n 3, 1) := rfl
theorem mi_a7_28 : mi_look mi_m7.1 28 = some (.iload 4, 2) := rfl
theorem mi_a7_30 : mi_look mi_m7.1 30 = some (.iconst 1, 1) := rfl
theorem mi_a7_31 : mi_look mi_m7.1 31 = some (.iadd, 1) := rfl
theorem mi_a7_32 : mi_look mi_m7.1 32 = some (.invokevirtual 46, 3) := rfl
theorem mi_a7_35 : mi_look mi_m7.1 35 = some (.ireturn, 1) := rfl
theorem mi_a7_36 : mi_look mi_m7.1 36 = some (.iload_n 2, 1) := rfl
theorem mi_a7_37 : mi_look mi_m7.1 37 = some (.bipush 100, 2) := rfl
theorem mi_a7_39 : mi_look mi_m7.1 39 = some (.if_icmp .ge 15, 3) := rfl
theorem mi_a7_42 : mi_look mi_m7.1 42 = some (.aload_n 0, 1) := rfl
theorem mi_a7_43 : mi_look mi_m7.1 43 = some (.aload_n 1, 1) := rfl
theorem mi_a7_44 : mi_look mi_m7.1 44 = some (.iload_n 2, 1) := rfl
theorem mi_a7_45 : mi_look mi_m7.1 45 = some (.iload_n 3, 1) := rfl
theorem mi_a7_46 : mi_look mi_m7.1 46 = some (.iload 4, 2) := rfl
theorem mi_a7_48 : mi_look mi_m7.1 48 = some (.iconst 1, 1) := rfl
theorem mi_a7_49 : mi_look mi_m7.1 49 = some (.iadd, 1) := rfl
theorem mi_a7_50 : mi_look mi_m7.1 50 = some (.invokevirtual 49, 3) := rfl
theorem mi_a7_53 : mi_look mi_m7.1 53 = some (.ireturn, 1) := rfl
theorem mi_a7_54 : mi_look mi_m7.1 54 = some (.iload_n 2, 1) := rfl
theorem mi_a7_55 : mi_look mi_m7.1 55 = some (.sipush 140, 3) := rfl
theorem mi_a7_58 : mi_look mi_m7.1 58 = some (.if_icmp .ge 15, 3) := rfl
theorem mi_a7_61 : mi_look mi_m7.1 61 = some (.aload_n 0, 1) := rfl
theorem mi_a7_62 : mi_look mi_m7.1 62 = some (.aload_n 1, 1) := rfl
theorem mi_a7_63 : mi_look mi_m7.1 63 = some (.iload_n 2, 1) := rfl
theorem mi_a7_64 : mi_look mi_m7.1 64 = some (.iload_n 3, 1) := rfl
theorem mi_a7_65 : mi_look mi_m7.1 65 = some (.iload 4, 2) := rfl
theorem mi_a7_67 : mi_look mi_m7.1 67 = some (.iconst 1, 1) := rfl
theorem mi_a7_68 : mi_look mi_m7.1 68 = some (.iadd, 1) := rfl
theorem mi_a7_69 : mi_look mi_m7.1 69 = some (.invokevirtual 52, 3) := rfl
theorem mi_a7_72 : mi_look mi_m7.1 72 = some (.ireturn, 1) := rfl
theorem mi_a7_73 : mi_look mi_m7.1 73 = some (.iload_n 2, 1) := rfl
theorem mi_a7_74 : mi_look mi_m7.1 74 = some (.sipush 180, 3) := rfl
theorem mi_a7_77 : mi_look mi_m7.1 77 = some (.if_icmp .ge 17, 3) := rfl
theorem mi_a7_80 : mi_look mi_m7.1 80 = some (.aload_n 0, 1) := rfl
theorem mi_a7_81 : mi_look mi_m7.1 81 = some (.aload_n 1, 1) := rfl
theorem mi_a7_82 : mi_look mi_m7.1 82 = some (.iload_n 2, 1) := rfl
theorem mi_a7_83 : mi_look mi_m7.1 83 = some (.iload_n 3, 1) := rfl
theorem mi_a7_84 : mi_look mi_m7.1 84 = some (.iload 4, 2) := rfl
theorem mi_a7_86 : mi_look mi_m7.1 86 = some (.iconst 1, 1) := rfl
theorem mi_a7_87 : mi_look mi_m7.1 87 = some (.iadd, 1) := rfl
theorem mi_a7_88 : mi_look mi_m7.1 88 = some (.invokevirtual 55, 3) := rfl
theorem mi_a7_91 : mi_look mi_m7.1 91 = some (.goto 14, 3) := rfl
theorem mi_a7_94 : mi_look mi_m7.1 94 = some (.aload_n 0, 1) := rfl
theorem mi_a7_95 : mi_look mi_m7.1 95 = some (.aload_n 1, 1) := rfl
theorem mi_a7_96 : mi_look mi_m7.1 96 = some (.iload_n 2, 1) := rfl
theorem mi_a7_97 : mi_look mi_m7.1 97 = some (.iload_n 3, 1) := rfl
theorem mi_a7_98 : mi_look mi_m7.1 98 = some (.iload 4, 2) := rfl
theorem mi_a7_100 : mi_look mi_m7.1 100 = some (.iconst 1, 1) := rfl
theorem mi_a7_101 : mi_look mi_m7.1 101 = some (.iadd, 1) := rfl
theorem mi_a7_102 : mi_look mi_m7.1 102 = some (.invokevirtual 58, 3) := rfl
theorem mi_a7_105 : mi_look mi_m7.1 105 = some (.ireturn, 1) := rfl
theorem mi_a8_0 : mi_look mi_m8.1 0 = some (.aload_n 0, 1) := rfl
theorem mi_a8_1 : mi_look mi_m8.1 1 = some (.getfield 24, 3) := rfl
theorem mi_a8_4 : mi_look mi_m8.1 4 = some (.ifCond .lt 22, 3) := rfl
theorem mi_a8_7 : mi_look mi_m8.1 7 = some (.aload_n 0, 1) := rfl
theorem mi_a8_8 : mi_look mi_m8.1 8 = some (.getfield 24, 3) := rfl
theorem mi_a8_11 : mi_look mi_m8.1 11 = some (.bipush 64, 2) := rfl
theorem mi_a8_13 : mi_look mi_m8.1 13 = some (.if_icmp .ge 13, 3) := rfl
theorem mi_a8_16 : mi_look mi_m8.1 16 = some (.aload_n 0, 1) := rfl
theorem mi_a8_17 : mi_look mi_m8.1 17 = some (.getfield 11, 3) := rfl
theorem mi_a8_20 : mi_look mi_m8.1 20 = some (.aload_n 0, 1) := rfl
theorem mi_a8_21 : mi_look mi_m8.1 21 = some (.getfield 24, 3) := rfl
theorem mi_a8_24 : mi_look mi_m8.1 24 = some (.iload_n 1, 1) := rfl
theorem mi_a8_25 : mi_look mi_m8.1 25 = some (.iastore, 1) := rfl
theorem mi_a8_26 : mi_look mi_m8.1 26 = some (.aload_n 0, 1) := rfl
theorem mi_a8_27 : mi_look mi_m8.1 27 = some (.dup, 1) := rfl
theorem mi_a8_28 : mi_look mi_m8.1 28 = some (.getfield 24, 3) := rfl
theorem mi_a8_31 : mi_look mi_m8.1 31 = some (.iconst 1, 1) := rfl
theorem mi_a8_32 : mi_look mi_m8.1 32 = some (.iadd, 1) := rfl
theorem mi_a8_33 : mi_look mi_m8.1 33 = some (.putfield 24, 3) := rfl
theorem mi_a8_36 : mi_look mi_m8.1 36 = some (.return_, 1) := rfl
theorem mi_a9_0 : mi_look mi_m9.1 0 = some (.iload_n 2, 1) := rfl
theorem mi_a9_1 : mi_look mi_m9.1 1 = some (.lookupswitch 281 #[(10, 91), (11, 103), (20, 127), (21, 149), (30, 162), (40, 188), (41, 200), (50, 224), (51, 248), (52, 269)], 91) := rfl
theorem mi_a9_92 : mi_look mi_m9.1 92 = some (.aload_n 0, 1) := rfl
theorem mi_a9_93 : mi_look mi_m9.1 93 = some (.aload_n 1, 1) := rfl
theorem mi_a9_94 : mi_look mi_m9.1 94 = some (.iconst 0, 1) := rfl
theorem mi_a9_95 : mi_look mi_m9.1 95 = some (.iload_n 3, 1) := rfl
theorem mi_a9_96 : mi_look mi_m9.1 96 = some (.iload 4, 2) := rfl
theorem mi_a9_98 : mi_look mi_m9.1 98 = some (.invokevirtual 61, 3) := rfl
theorem mi_a9_101 : mi_look mi_m9.1 101 = some (.iconst 1, 1) := rfl
theorem mi_a9_102 : mi_look mi_m9.1 102 = some (.iadd, 1) := rfl
theorem mi_a9_103 : mi_look mi_m9.1 103 = some (.ireturn, 1) := rfl
theorem mi_a9_104 : mi_look mi_m9.1 104 = some (.aload_n 0, 1) := rfl
theorem mi_a9_105 : mi_look mi_m9.1 105 = some (.aload_n 1, 1) := rfl
theorem mi_a9_106 : mi_look mi_m9.1 106 = some (.iconst 1, 1) := rfl
theorem mi_a9_107 : mi_look mi_m9.1 107 = some (.iload_n 3, 1) := rfl
theorem mi_a9_108 : mi_look mi_m9.1 108 = some (.iload 4, 2) := rfl
theorem mi_a9_110 : mi_look mi_m9.1 110 = some (.invokevirtual 61, 3) := rfl
theorem mi_a9_113 : mi_look mi_m9.1 113 = some (.iconst 3, 1) := rfl
theorem mi_a9_114 : mi_look mi_m9.1 114 = some (.imul, 1) := rfl
theorem mi_a9_115 : mi_look mi_m9.1 115 = some (.aload_n 0, 1) := rfl
theorem mi_a9_116 : mi_look mi_m9.1 116 = some (.aload_n 1, 1) := rfl
theorem mi_a9_117 : mi_look mi_m9.1 117 = some (.iconst 0, 1) := rfl
theorem mi_a9_118 : mi_look mi_m9.1 118 = some (.iload_n 3, 1) := rfl
theorem mi_a9_119 : mi_look mi_m9.1 119 = some (.iconst 1, 1) := rfl
theorem mi_a9_120 : mi_look mi_m9.1 120 = some (.iadd, 1) := rfl
theorem mi_a9_121 : mi_look mi_m9.1 121 = some (.iload 4, 2) := rfl
theorem mi_a9_123 : mi_look mi_m9.1 123 = some (.invokevirtual 61, 3) := rfl
theorem mi_a9_126 : mi_look mi_m9.1 126 = some (.isub, 1) := rfl
theorem mi_a9_127 : mi_look mi_m9.1 127 = some (.ireturn, 1) := rfl
theorem mi_a9_128 : mi_look mi_m9.1 128 = some (.aload_n 0, 1) := rfl
theorem mi_a9_129 : mi_look mi_m9.1 129 = some (.aload_n 1, 1) := rfl
theorem mi_a9_130 : mi_look mi_m9.1 130 = some (.iconst 3, 1) := rfl
theorem mi_a9_131 : mi_look mi_m9.1 131 = some (.iload_n 3, 1) := rfl
theorem mi_a9_132 : mi_look mi_m9.1 132 = some (.iload 4, 2) := rfl
theorem mi_a9_134 : mi_look mi_m9.1 134 = some (.invokevirtual 61, 3) := rfl
theorem mi_a9_137 : mi_look mi_m9.1 137 = some (.aload_n 0, 1) := rfl
theorem mi_a9_138 : mi_look mi_m9.1 138 = some (.aload_n 1, 1) := rfl
theorem mi_a9_139 : mi_look mi_m9.1 139 = some (.iconst 3, 1) := rfl
theorem mi_a9_140 : mi_look mi_m9.1 140 = some (.iload_n 3, 1) := rfl
theorem mi_a9_141 : mi_look mi_m9.1 141 = some (.iconst 1, 1) := rfl
theorem mi_a9_142 : mi_look mi_m9.1 142 = some (.iadd, 1) := rfl
theorem mi_a9_143 : mi_look mi_m9.1 143 = some (.iload 4, 2) := rfl
theorem mi_a9_145 : mi_look mi_m9.1 145 = some (.invokevirtual 61, 3) := rfl
theorem mi_a9_148 : mi_look mi_m9.1 148 = some (.iadd, 1) := rfl
theorem mi_a9_149 : mi_look mi_m9.1 149 = some (.ireturn, 1) := rfl
theorem mi_a9_150 : mi_look mi_m9.1 150 = some (.aload_n 0, 1) := rfl
theorem mi_a9_151 : mi_look mi_m9.1 151 = some (.aload_n 1, 1) := rfl
theorem mi_a9_152 : mi_look mi_m9.1 152 = some (.iconst 4, 1) := rfl
theorem mi_a9_153 : mi_look mi_m9.1 153 = some (.iload_n 3, 1) := rfl
theorem mi_a9_154 : mi_look mi_m9.1 154 = some (.iload 4, 2) := rfl
theorem mi_a9_156 : mi_look mi_m9.1 156 = some (.invokevirtual 61, 3) := rfl
theorem mi_a9_159 : mi_look mi_m9.1 159 = some (.bipush 85, 2) := rfl
theorem mi_a9_161 : mi_look mi_m9.1 161 = some (.ixor, 1) := rfl
theorem mi_a9_162 : mi_look mi_m9.1 162 = some (.ireturn, 1) := rfl
theorem mi_a9_163 : mi_look mi_m9.1 163 = some (.aload_n 0, 1) := rfl
theorem mi_a9_164 : mi_look mi_m9.1 164 = some (.bipush 13, 2) := rfl
theorem mi_a9_166 : mi_look mi_m9.1 166 = some (.aload_n 1, 1) := rfl
theorem mi_a9_167 : mi_look mi_m9.1 167 = some (.iconst 2, 1) := rfl
theorem mi_a9_168 : mi_look mi_m9.1 168 = some (.iload_n 3, 1) := rfl
theorem mi_a9_169 : mi_look mi_m9.1 169 = some (.iload 4, 2) := rfl
theorem mi_a9_171 : mi_look mi_m9.1 171 = some (.invokevirtual 64, 3) := rfl
theorem mi_a9_174 : mi_look mi_m9.1 174 = some (.aload_n 0, 1) := rfl
theorem mi_a9_175 : mi_look mi_m9.1 175 = some (.bipush 14, 2) := rfl
theorem mi_a9_177 : mi_look mi_m9.1 177 = some (.aload_n 1, 1) := rfl
theorem mi_a9_178 : mi_look mi_m9.1 178 = some (.iconst 2, 1) := rfl
theorem mi_a9_179 : mi_look mi_m9.1 179 = some (.iload_n 3, 1) := rfl
theorem mi_a9_180 : mi_look mi_m9.1 180 = some (.iconst 1, 1) := rfl
theorem mi_a9_181 : mi_look mi_m9.1 181 = some (.iadd, 1) := rfl
theorem mi_a9_182 : mi_look mi_m9.1 182 = some (.iload 4, 2) := rfl
theorem mi_a9_184 : mi_look mi_m9.1 184 = some (.invokevirtual 64, 3) := rfl
theorem mi_a9_187 : mi_look mi_m9.1 187 = some (.iadd, 1) := rfl
theorem mi_a9_188 : mi_look mi_m9.1 188 = some (.ireturn, 1) := rfl
theorem mi_a9_189 : mi_look mi_m9.1 189 = some (.aload_n 0, 1) := rfl
theorem mi_a9_190 : mi_look mi_m9.1 190 = some (.aload_n 1, 1) := rfl
theorem mi_a9_191 : mi_look mi_m9.1 191 = some (.iconst 5, 1) := rfl
theorem mi_a9_192 : mi_look mi_m9.1 192 = some (.iload_n 3, 1) := rfl
theorem mi_a9_193 : mi_look mi_m9.1 193 = some (.iload 4, 2) := rfl
theorem mi_a9_195 : mi_look mi_m9.1 195 = some (.invokevirtual 61, 3) := rfl
theorem mi_a9_198 : mi_look mi_m9.1 198 = some (.iload_n 3, 1) := rfl
theorem mi_a9_199 : mi_look mi_m9.1 199 = some (.iadd, 1) := rfl
theorem mi_a9_200 : mi_look mi_m9.1 200 = some (.ireturn, 1) := rfl
theorem mi_a9_201 : mi_look mi_m9.1 201 = some (.aload_n 0, 1) := rfl
theorem mi_a9_202 : mi_look mi_m9.1 202 = some (.aload_n 1, 1) := rfl
theorem mi_a9_203 : mi_look mi_m9.1 203 = some (.bipush 6, 2) := rfl
theorem mi_a9_205 : mi_look mi_m9.1 205 = some (.iload_n 3, 1) := rfl
theorem mi_a9_206 : mi_look mi_m9.1 206 = some (.iload 4, 2) := rfl
theorem mi_a9_208 : mi_look mi_m9.1 208 = some (.invokevirtual 61, 3) := rfl
theorem mi_a9_211 : mi_look mi_m9.1 211 = some (.iconst 2, 1) := rfl
theorem mi_a9_212 : mi_look mi_m9.1 212 = some (.imul, 1) := rfl
theorem mi_a9_213 : mi_look mi_m9.1 213 = some (.aload_n 0, 1) := rfl
theorem mi_a9_214 : mi_look mi_m9.1 214 = some (.aload_n 1, 1) := rfl
theorem mi_a9_215 : mi_look mi_m9.1 215 = some (.bipush 6, 2) := rfl
theorem mi_a9_217 : mi_look mi_m9.1 217 = some (.iconst 1, 1) := rfl
theorem mi_a9_218 : mi_look mi_m9.1 218 = some (.iload 4, 2) := rfl
theorem mi_a9_220 : mi_look mi_m9.1 220 = some (.invokevirtual 61, 3) := rfl
theorem mi_a9_223 : mi_look mi_m9.1 223 = some (.iadd, 1) := rfl
theorem mi_a9_224 : mi_look mi_m9.1 224 = some (.ireturn, 1) := rfl
theorem mi_a9_225 : mi_look mi_m9.1 225 = some (.aload_n 0, 1) := rfl
theorem mi_a9_226 : mi_look mi_m9.1 226 = some (.bipush 16, 2) := rfl
theorem mi_a9_228 : mi_look mi_m9.1 228 = some (.aload_n 1, 1) := rfl
theorem mi_a9_229 : mi_look mi_m9.1 229 = some (.bipush 7, 2) := rfl
theorem mi_a9_231 : mi_look mi_m9.1 231 = some (.iload_n 3, 1) := rfl
theorem mi_a9_232 : mi_look mi_m9.1 232 = some (.iload 4, 2) := rfl
theorem mi_a9_234 : mi_look mi_m9.1 234 = some (.invokevirtual 64, 3) := rfl
theorem mi_a9_237 : mi_look mi_m9.1 237 = some (.aload_n 0, 1) := rfl
theorem mi_a9_238 : mi_look mi_m9.1 238 = some (.aload_n 1, 1) := rfl
theorem mi_a9_239 : mi_look mi_m9.1 239 = some (.bipush 8, 2) := rfl
theorem mi_a9_241 : mi_look mi_m9.1 241 = some (.iload_n 3, 1) := rfl
theorem mi_a9_242 : mi_look mi_m9.1 242 = some (.iload 4, 2) := rfl
theorem mi_a9_244 : mi_look mi_m9.1 244 = some (.invokevirtual 61, 3) := rfl
theorem mi_a9_247 : mi_look mi_m9.1 247 = some (.isub, 1) := rfl
theorem mi_a9_248 : mi_look mi_m9.1 248 = some (.ireturn, 1) := rfl
theorem mi_a9_249 : mi_look mi_m9.1 249 = some (.aload_n 0, 1) := rfl
theorem mi_a9_250 : mi_look mi_m9.1 250 = some (.aload_n 1, 1) := rfl
theorem mi_a9_251 : mi_look mi_m9.1 251 = some (.bipush 52, 2) := rfl
theorem mi_a9_253 : mi_look mi_m9.1 253 = some (.iload_n 3, 1) := rfl
theorem mi_a9_254 : mi_look mi_m9.1 254 = some (.iload 4, 2) := rfl
theorem mi_a9_256 : mi_look mi_m9.1 256 = some (.invokevirtual 34, 3) := rfl
theorem mi_a9_259 : mi_look mi_m9.1 259 = some (.aload_n 0, 1) := rfl
theorem mi_a9_260 : mi_look mi_m9.1 260 = some (.aload_n 1, 1) := rfl
theorem mi_a9_261 : mi_look mi_m9.1 261 = some (.iconst 5, 1) := rfl
theorem mi_a9_262 : mi_look mi_m9.1 262 = some (.iconst 2, 1) := rfl
theorem mi_a9_263 : mi_look mi_m9.1 263 = some (.iload 4, 2) := rfl
theorem mi_a9_265 : mi_look mi_m9.1 265 = some (.invokevirtual 61, 3) := rfl
theorem mi_a9_268 : mi_look mi_m9.1 268 = some (.iadd, 1) := rfl
theorem mi_a9_269 : mi_look mi_m9.1 269 = some (.ireturn, 1) := rfl
theorem mi_a9_270 : mi_look mi_m9.1 270 = some (.aload_n 0, 1) := rfl
theorem mi_a9_271 : mi_look mi_m9.1 271 = some (.aload_n 1, 1) := rfl
theorem mi_a9_272 : mi_look mi_m9.1 272 = some (.iconst 5, 1) := rfl
theorem mi_a9_273 : mi_look mi_m9.1 273 = some (.iload_n 3, 1) := rfl
theorem mi_a9_274 : mi_look mi_m9.1 274 = some (.iload 4, 2) := rfl
theorem mi_a9_276 : mi_look mi_m9.1 276 = some (.invokevirtual 61, 3) := rfl
theorem mi_a9_279 : mi_look mi_m9.1 279 = some (.iconst 5, 1) := rfl
theorem mi_a9_280 : mi_look mi_m9.1 280 = some (.imul, 1) := rfl
theorem mi_a9_281 : mi_look mi_m9.1 281 = some (.ireturn, 1) := rfl
theorem mi_a9_282 : mi_look mi_m9.1 282 = some (.iconst 0, 1) := rfl
theorem mi_a9_283 : mi_look mi_m9.1 283 = some (.ireturn, 1) := rfl
theorem mi_a10_0 : mi_look mi_m10.1 0 = some (.iload_n 2, 1) := rfl
theorem mi_a10_1 : mi_look mi_m10.1 1 = some (.tableswitch 169 60 70 #[59, 74, 91, 109, 116, 169, 169, 169, 169, 169, 149], 59) := rfl
theorem mi_a10_60 : mi_look mi_m10.1 60 = some (.aload_n 1, 1) := rfl
theorem mi_a10_61 : mi_look mi_m10.1 61 = some (.dup, 1) := rfl
theorem mi_a10_62 : mi_look mi_m10.1 62 = some (.getfield 68, 3) := rfl
theorem mi_a10_65 : mi_look mi_m10.1 65 = some (.iload_n 3, 1) := rfl
theorem mi_a10_66 : mi_look mi_m10.1 66 = some (.iadd, 1) := rfl
theorem mi_a10_67 : mi_look mi_m10.1 67 = some (.putfield 68, 3) := rfl
theorem mi_a10_70 : mi_look mi_m10.1 70 = some (.aload_n 1, 1) := rfl
theorem mi_a10_71 : mi_look mi_m10.1 71 = some (.getfield 68, 3) := rfl
theorem mi_a10_74 : mi_look mi_m10.1 74 = some (.ireturn, 1) := rfl
theorem mi_a10_75 : mi_look mi_m10.1 75 = some (.aload_n 1, 1) := rfl
theorem mi_a10_76 : mi_look mi_m10.1 76 = some (.dup, 1) := rfl
theorem mi_a10_77 : mi_look mi_m10.1 77 = some (.getfield 68, 3) := rfl
theorem mi_a10_80 : mi_look mi_m10.1 80 = some (.iconst 3, 1) := rfl
theorem mi_a10_81 : mi_look mi_m10.1 81 = some (.iload_n 3, 1) := rfl
theorem mi_a10_82 : mi_look mi_m10.1 82 = some (.imul, 1) := rfl
theorem mi_a10_83 : mi_look mi_m10.1 83 = some (.isub, 1) := rfl
theorem mi_a10_84 : mi_look mi_m10.1 84 = some (.putfield 68, 3) := rfl
theorem mi_a10_87 : mi_look mi_m10.1 87 = some (.aload_n 1, 1) := rfl
theorem mi_a10_88 : mi_look mi_m10.1 88 = some (.getfield 68, 3) := rfl
theorem mi_a10_91 : mi_look mi_m10.1 91 = some (.ireturn, 1) := rfl
theorem mi_a10_92 : mi_look mi_m10.1 92 = some (.aload_n 1, 1) := rfl
theorem mi_a10_93 : mi_look mi_m10.1 93 = some (.aload_n 1, 1) := rfl
theorem mi_a10_94 : mi_look mi_m10.1 94 = some (.getfield 68, 3) := rfl
theorem mi_a10_97 : mi_look mi_m10.1 97 = some (.bipush 31, 2) := rfl
theorem mi_a10_99 : mi_look mi_m10.1 99 = some (.imul, 1) := rfl
theorem mi_a10_100 : mi_look mi_m10.1 100 = some (.iload_n 3, 1) := rfl
theorem mi_a10_101 : mi_look mi_m10.1 101 = some (.iadd, 1) := rfl
theorem mi_a10_102 : mi_look mi_m10.1 102 = some (.putfield 68, 3) := rfl
theorem mi_a10_105 : mi_look mi_m10.1 105 = some (.aload_n 1, 1) := rfl
theorem mi_a10_106 : mi_look mi_m10.1 106 = some (.getfield 68, 3) := rfl
theorem mi_a10_109 : mi_look mi_m10.1 109 = some (.ireturn, 1) := rfl
theorem mi_a10_110 : mi_look mi_m10.1 110 = some (.aload_n 1, 1) := rfl
theorem mi_a10_111 : mi_look mi_m10.1 111 = some (.getfield 68, 3) := rfl
theorem mi_a10_114 : mi_look mi_m10.1 114 = some (.iload_n 3, 1) := rfl
theorem mi_a10_115 : mi_look mi_m10.1 115 = some (.ixor, 1) := rfl
theorem mi_a10_116 : mi_look mi_m10.1 116 = some (.ireturn, 1) := rfl
theorem mi_a10_117 : mi_look mi_m10.1 117 = some (.aload_n 0, 1) := rfl
theorem mi_a10_118 : mi_look mi_m10.1 118 = some (.aload_n 1, 1) := rfl
theorem mi_a10_119 : mi_look mi_m10.1 119 = some (.bipush 9, 2) := rfl
theorem mi_a10_121 : mi_look mi_m10.1 121 = some (.iload_n 3, 1) := rfl
theorem mi_a10_122 : mi_look mi_m10.1 122 = some (.iload 4, 2) := rfl
theorem mi_a10_124 : mi_look mi_m10.1 124 = some (.invokevirtual 61, 3) := rfl
theorem mi_a10_127 : mi_look mi_m10.1 127 = some (.aload_n 0, 1) := rfl
theorem mi_a10_128 : mi_look mi_m10.1 128 = some (.aload_n 1, 1) := rfl
theorem mi_a10_129 : mi_look mi_m10.1 129 = some (.bipush 10, 2) := rfl
theorem mi_a10_131 : mi_look mi_m10.1 131 = some (.iconst 1, 1) := rfl
theorem mi_a10_132 : mi_look mi_m10.1 132 = some (.iload 4, 2) := rfl
theorem mi_a10_134 : mi_look mi_m10.1 134 = some (.invokevirtual 61, 3) := rfl
theorem mi_a10_137 : mi_look mi_m10.1 137 = some (.iadd, 1) := rfl
theorem mi_a10_138 : mi_look mi_m10.1 138 = some (.aload_n 0, 1) := rfl
theorem mi_a10_139 : mi_look mi_m10.1 139 = some (.aload_n 1, 1) := rfl
theorem mi_a10_140 : mi_look mi_m10.1 140 = some (.bipush 63, 2) := rfl
theorem mi_a10_142 : mi_look mi_m10.1 142 = some (.iload_n 3, 1) := rfl
theorem mi_a10_143 : mi_look mi_m10.1 143 = some (.iload 4, 2) := rfl
theorem mi_a10_145 : mi_look mi_m10.1 145 = some (.invokevirtual 34, 3) := rfl
theorem mi_a10_148 : mi_look mi_m10.1 148 = some (.iadd, 1) := rfl
theorem mi_a10_149 : mi_look mi_m10.1 149 = some (.ireturn, 1) := rfl
theorem mi_a10_150 : mi_look mi_m10.1 150 = some (.aload_n 1, 1) := rfl
theorem mi_a10_151 : mi_look mi_m10.1 151 = some (.dup, 1) := rfl
theorem mi_a10_152 : mi_look mi_m10.1 152 = some (.getfield 71, 3) := rfl
theorem mi_a10_155 : mi_look mi_m10.1 155 = some (.iconst 1, 1) := rfl
theorem mi_a10_156 : mi_look mi_m10.1 156 = some (.iadd, 1) := rfl
theorem mi_a10_157 : mi_look mi_m10.1 157 = some (.putfield 71, 3) := rfl
theorem mi_a10_160 : mi_look mi_m10.1 160 = some (.aload_n 1, 1) := rfl
theorem mi_a10_161 : mi_look mi_m10.1 161 = some (.getfield 71, 3) := rfl
theorem mi_a10_164 : mi_look mi_m10.1 164 = some (.bipush 7, 2) := rfl
theorem mi_a10_166 : mi_look mi_m10.1 166 = some (.imul, 1) := rfl
theorem mi_a10_167 : mi_look mi_m10.1 167 = some (.iload_n 3, 1) := rfl
theorem mi_a10_168 : mi_look mi_m10.1 168 = some (.iadd, 1) := rfl
theorem mi_a10_169 : mi_look mi_m10.1 169 = some (.ireturn, 1) := rfl
theorem mi_a10_170 : mi_look mi_m10.1 170 = some (.iconst 0, 1) := rfl
theorem mi_a10_171 : mi_look mi_m10.1 171 = some (.ireturn, 1) := rfl
theorem mi_a11_0 : mi_look mi_m11.1 0 = some (.iload_n 2, 1) := rfl
theorem mi_a11_1 : mi_look mi_m11.1 1 = some (.lookupswitch 189 #[(100, 75), (101, 82), (110, 98), (111, 123), (112, 137), (120, 144), (130, 161), (131, 174)], 75) := rfl
theorem mi_a11_76 : mi_look mi_m11.1 76 = some (.aload_n 1, 1) := rfl
theorem mi_a11_77 : mi_look mi_m11.1 77 = some (.getfield 68, 3) := rfl
theorem mi_a11_80 : mi_look mi_m11.1 80 = some (.iload_n 3, 1) := rfl
theorem mi_a11_81 : mi_look mi_m11.1 81 = some (.iadd, 1) := rfl
theorem mi_a11_82 : mi_look mi_m11.1 82 = some (.ireturn, 1) := rfl
theorem mi_a11_83 : mi_look mi_m11.1 83 = some (.aload_n 0, 1) := rfl
theorem mi_a11_84 : mi_look mi_m11.1 84 = some (.iconst 0, 1) := rfl
theorem mi_a11_85 : mi_look mi_m11.1 85 = some (.aload_n 1, 1) := rfl
theorem mi_a11_86 : mi_look mi_m11.1 86 = some (.bipush 9, 2) := rfl
theorem mi_a11_88 : mi_look mi_m11.1 88 = some (.iload_n 3, 1) := rfl
theorem mi_a11_89 : mi_look mi_m11.1 89 = some (.iconst 2, 1) := rfl
theorem mi_a11_90 : mi_look mi_m11.1 90 = some (.iadd, 1) := rfl
theorem mi_a11_91 : mi_look mi_m11.1 91 = some (.iload 4, 2) := rfl
theorem mi_a11_93 : mi_look mi_m11.1 93 = some (.invokevirtual 74, 3) := rfl
theorem mi_a11_96 : mi_look mi_m11.1 96 = some (.iconst 1, 1) := rfl
theorem mi_a11_97 : mi_look mi_m11.1 97 = some (.iadd, 1) := rfl
theorem mi_a11_98 : mi_look mi_m11.1 98 = some (.ireturn, 1) := rfl
theorem mi_a11_99 : mi_look mi_m11.1 99 = some (.aload_n 0, 1) := rfl
theorem mi_a11_100 : mi_look mi_m11.1 100 = some (.iconst 1, 1) := rfl
theorem mi_a11_101 : mi_look mi_m11.1 101 = some (.aload_n 1, 1) := rfl
theorem mi_a11_102 : mi_look mi_m11.1 102 = some (.bipush 10, 2) := rfl
theorem mi_a11_104 : mi_look mi_m11.1 104 = some (.iload_n 3, 1) := rfl
theorem mi_a11_105 : mi_look mi_m11.1 105 = some (.iload 4, 2) := rfl
theorem mi_a11_107 : mi_look mi_m11.1 107 = some (.invokevirtual 74, 3) := rfl
theorem mi_a11_110 : mi_look mi_m11.1 110 = some (.iconst 2, 1) := rfl
theorem mi_a11_111 : mi_look mi_m11.1 111 = some (.imul, 1) := rfl
theorem mi_a11_112 : mi_look mi_m11.1 112 = some (.aload_n 0, 1) := rfl
theorem mi_a11_113 : mi_look mi_m11.1 113 = some (.aload_n 1, 1) := rfl
theorem mi_a11_114 : mi_look mi_m11.1 114 = some (.bipush 112, 2) := rfl
theorem mi_a11_116 : mi_look mi_m11.1 116 = some (.iload_n 3, 1) := rfl
theorem mi_a11_117 : mi_look mi_m11.1 117 = some (.iload 4, 2) := rfl
theorem mi_a11_119 : mi_look mi_m11.1 119 = some (.invokevirtual 34, 3) := rfl
theorem mi_a11_122 : mi_look mi_m11.1 122 = some (.iadd, 1) := rfl
theorem mi_a11_123 : mi_look mi_m11.1 123 = some (.ireturn, 1) := rfl
theorem mi_a11_124 : mi_look mi_m11.1 124 = some (.aload_n 0, 1) := rfl
theorem mi_a11_125 : mi_look mi_m11.1 125 = some (.bipush 14, 2) := rfl
theorem mi_a11_127 : mi_look mi_m11.1 127 = some (.aload_n 1, 1) := rfl
theorem mi_a11_128 : mi_look mi_m11.1 128 = some (.iconst 4, 1) := rfl
theorem mi_a11_129 : mi_look mi_m11.1 129 = some (.iload_n 3, 1) := rfl
theorem mi_a11_130 : mi_look mi_m11.1 130 = some (.iload 4, 2) := rfl
theorem mi_a11_132 : mi_look mi_m11.1 132 = some (.invokevirtual 64, 3) := rfl
theorem mi_a11_135 : mi_look mi_m11.1 135 = some (.iconst 1, 1) := rfl
theorem mi_a11_136 : mi_look mi_m11.1 136 = some (.isub, 1) := rfl
theorem mi_a11_137 : mi_look mi_m11.1 137 = some (.ireturn, 1) := rfl
theorem mi_a11_138 : mi_look mi_m11.1 138 = some (.aload_n 1, 1) := rfl
theorem mi_a11_139 : mi_look mi_m11.1 139 = some (.getfield 71, 3) := rfl
theorem mi_a11_142 : mi_look mi_m11.1 142 = some (.iload_n 3, 1) := rfl
theorem mi_a11_143 : mi_look mi_m11.1 143 = some (.isub, 1) := rfl
theorem mi_a11_144 : mi_look mi_m11.1 144 = some (.ireturn, 1) := rfl
theorem mi_a11_145 : mi_look mi_m11.1 145 = some (.aload_n 0, 1) := rfl
theorem mi_a11_146 : mi_look mi_m11.1 146 = some (.aload_n 1, 1) := rfl
theorem mi_a11_147 : mi_look mi_m11.1 147 = some (.iconst 5, 1) := rfl
theorem mi_a11_148 : mi_look mi_m11.1 148 = some (.iload_n 3, 1) := rfl
theorem mi_a11_149 : mi_look mi_m11.1 149 = some (.iload 4, 2) := rfl
theorem mi_a11_151 : mi_look mi_m11.1 151 = some (.invokevirtual 61, 3) := rfl
theorem mi_a11_154 : mi_look mi_m11.1 154 = some (.iconst 3, 1) := rfl
theorem mi_a11_155 : mi_look mi_m11.1 155 = some (.imul, 1) := rfl
theorem mi_a11_156 : mi_look mi_m11.1 156 = some (.aload_n 1, 1) := rfl
theorem mi_a11_157 : mi_look mi_m11.1 157 = some (.getfield 68, 3) := rfl
theorem mi_a11_160 : mi_look mi_m11.1 160 = some (.iadd, 1) := rfl
theorem mi_a11_161 : mi_look mi_m11.1 161 = some (.ireturn, 1) := rfl
theorem mi_a11_162 : mi_look mi_m11.1 162 = some (.aload_n 0, 1) := rfl
theorem mi_a11_163 : mi_look mi_m11.1 163 = some (.iconst 3, 1) := rfl
theorem mi_a11_164 : mi_look mi_m11.1 164 = some (.aload_n 1, 1) := rfl
theorem mi_a11_165 : mi_look mi_m11.1 165 = some (.iconst 0, 1) := rfl
theorem mi_a11_166 : mi_look mi_m11.1 166 = some (.iload_n 3, 1) := rfl
theorem mi_a11_167 : mi_look mi_m11.1 167 = some (.iload 4, 2) := rfl
theorem mi_a11_169 : mi_look mi_m11.1 169 = some (.invokevirtual 74, 3) := rfl
theorem mi_a11_172 : mi_look mi_m11.1 172 = some (.iconst 3, 1) := rfl
theorem mi_a11_173 : mi_look mi_m11.1 173 = some (.imul, 1) := rfl
theorem mi_a11_174 : mi_look mi_m11.1 174 = some (.ireturn, 1) := rfl
theorem mi_a11_175 : mi_look mi_m11.1 175 = some (.aload_n 0, 1) := rfl
theorem mi_a11_176 : mi_look mi_m11.1 176 = some (.iconst 3, 1) := rfl
theorem mi_a11_177 : mi_look mi_m11.1 177 = some (.aload_n 1, 1) := rfl
theorem mi_a11_178 : mi_look mi_m11.1 178 = some (.iconst 1, 1) := rfl
theorem mi_a11_179 : mi_look mi_m11.1 179 = some (.iload_n 3, 1) := rfl
theorem mi_a11_180 : mi_look mi_m11.1 180 = some (.iconst 1, 1) := rfl
theorem mi_a11_181 : mi_look mi_m11.1 181 = some (.iadd, 1) := rfl
theorem mi_a11_182 : mi_look mi_m11.1 182 = some (.iload 4, 2) := rfl
theorem mi_a11_184 : mi_look mi_m11.1 184 = some (.invokevirtual 74, 3) := rfl
theorem mi_a11_187 : mi_look mi_m11.1 187 = some (.iconst 5, 1) := rfl
theorem mi_a11_188 : mi_look mi_m11.1 188 = some (.iadd, 1) := rfl
theorem mi_a11_189 : mi_look mi_m11.1 189 = some (.ireturn, 1) := rfl
theorem mi_a11_190 : mi_look mi_m11.1 190 = some (.iconst 0, 1) := rfl
theorem mi_a11_191 : mi_look mi_m11.1 191 = some (.ireturn, 1) := rfl
theorem mi_a12_0 : mi_look mi_m12.1 0 = some (.iload_n 2, 1) := rfl
theorem mi_a12_1 : mi_look mi_m12.1 1 = some (.tableswitch 257 140 163 #[111, 118, 141, 257, 257, 257, 257, 257, 257, 257, 157, 172, 194, 257, 257, 257, 257, 257, 257, 257, 208, 210, 227, 232], 111) := rfl
theorem mi_a12_112 : mi_look mi_m12.1 112 = some (.aload_n 1, 1) := rfl
theorem mi_a12_113 : mi_look mi_m12.1 113 = some (.getfield 68, 3) := rfl
theorem mi_a12_116 : mi_look mi_m12.1 116 = some (.iload_n 3, 1) := rfl
theorem mi_a12_117 : mi_look mi_m12.1 117 = some (.isub, 1) := rfl
theorem mi_a12_118 : mi_look mi_m12.1 118 = some (.ireturn, 1) := rfl
theorem mi_a12_119 : mi_look mi_m12.1 119 = some (.aload_n 0, 1) := rfl
theorem mi_a12_120 : mi_look mi_m12.1 120 = some (.iconst 4, 1) := rfl
theorem mi_a12_121 : mi_look mi_m12.1 121 = some (.aload_n 1, 1) := rfl
theorem mi_a12_122 : mi_look mi_m12.1 122 = some (.iconst 2, 1) := rfl
theorem mi_a12_123 : mi_look mi_m12.1 123 = some (.iload_n 3, 1) := rfl
theorem mi_a12_124 : mi_look mi_m12.1 124 = some (.iload 4, 2) := rfl
theorem mi_a12_126 : mi_look mi_m12.1 126 = some (.invokevirtual 74, 3) := rfl
theorem mi_a12_129 : mi_look mi_m12.1 129 = some (.aload_n 0, 1) := rfl
theorem mi_a12_130 : mi_look mi_m12.1 130 = some (.bipush 13, 2) := rfl
theorem mi_a12_132 : mi_look mi_m12.1 132 = some (.aload_n 1, 1) := rfl
theorem mi_a12_133 : mi_look mi_m12.1 133 = some (.iconst 2, 1) := rfl
theorem mi_a12_134 : mi_look mi_m12.1 134 = some (.iconst 1, 1) := rfl
theorem mi_a12_135 : mi_look mi_m12.1 135 = some (.iload 4, 2) := rfl
theorem mi_a12_137 : mi_look mi_m12.1 137 = some (.invokevirtual 64, 3) := rfl
theorem mi_a12_140 : mi_look mi_m12.1 140 = some (.isub, 1) := rfl
theorem mi_a12_141 : mi_look mi_m12.1 141 = some (.ireturn, 1) := rfl
theorem mi_a12_142 : mi_look mi_m12.1 142 = some (.aload_n 0, 1) := rfl
theorem mi_a12_143 : mi_look mi_m12.1 143 = some (.iconst 4, 1) := rfl
theorem mi_a12_144 : mi_look mi_m12.1 144 = some (.aload_n 1, 1) := rfl
theorem mi_a12_145 : mi_look mi_m12.1 145 = some (.bipush 10, 2) := rfl
theorem mi_a12_147 : mi_look mi_m12.1 147 = some (.iload_n 3, 1) := rfl
theorem mi_a12_148 : mi_look mi_m12.1 148 = some (.iconst 1, 1) := rfl
theorem mi_a12_149 : mi_look mi_m12.1 149 = some (.iadd, 1) := rfl
theorem mi_a12_150 : mi_look mi_m12.1 150 = some (.iload 4, 2) := rfl
theorem mi_a12_152 : mi_look mi_m12.1 152 = some (.invokevirtual 74, 3) := rfl
theorem mi_a12_155 : mi_look mi_m12.1 155 = some (.iconst 4, 1) := rfl
theorem mi_a12_156 : mi_look mi_m12.1 156 = some (.iadd, 1) := rfl
theorem mi_a12_157 : mi_look mi_m12.1 157 = some (.ireturn, 1) := rfl
theorem mi_a12_158 : mi_look mi_m12.1 158 = some (.aload_n 0, 1) := rfl
theorem mi_a12_159 : mi_look mi_m12.1 159 = some (.aload_n 1, 1) := rfl
theorem mi_a12_160 : mi_look mi_m12.1 160 = some (.iconst 5, 1) := rfl
theorem mi_a12_161 : mi_look mi_m12.1 161 = some (.iload_n 3, 1) := rfl
theorem mi_a12_162 : mi_look mi_m12.1 162 = some (.iload 4, 2) := rfl
theorem mi_a12_164 : mi_look mi_m12.1 164 = some (.invokevirtual 61, 3) := rfl
theorem mi_a12_167 : mi_look mi_m12.1 167 = some (.aload_n 1, 1) := rfl
theorem mi_a12_168 : mi_look mi_m12.1 168 = some (.getfield 68, 3) := rfl
theorem mi_a12_171 : mi_look mi_m12.1 171 = some (.iadd, 1) := rfl
theorem mi_a12_172 : mi_look mi_m12.1 172 = some (.ireturn, 1) := rfl
theorem mi_a12_173 : mi_look mi_m12.1 173 = some (.aload_n 0, 1) := rfl
theorem mi_a12_174 : mi_look mi_m12.1 174 = some (.iconst 5, 1) := rfl
theorem mi_a12_175 : mi_look mi_m12.1 175 = some (.aload_n 1, 1) := rfl
theorem mi_a12_176 : mi_look mi_m12.1 176 = some (.bipush 9, 2) := rfl
theorem mi_a12_178 : mi_look mi_m12.1 178 = some (.iload_n 3, 1) := rfl
theorem mi_a12_179 : mi_look mi_m12.1 179 = some (.iload 4, 2) := rfl
theorem mi_a12_181 : mi_look mi_m12.1 181 = some (.invokevirtual 74, 3) := rfl
theorem mi_a12_184 : mi_look mi_m12.1 184 = some (.aload_n 0, 1) := rfl
theorem mi_a12_185 : mi_look mi_m12.1 185 = some (.aload_n 1, 1) := rfl
theorem mi_a12_186 : mi_look mi_m12.1 186 = some (.iconst 2, 1) := rfl
theorem mi_a12_187 : mi_look mi_m12.1 187 = some (.iconst 0, 1) := rfl
theorem mi_a12_188 : mi_look mi_m12.1 188 = some (.iload 4, 2) := rfl
theorem mi_a12_190 : mi_look mi_m12.1 190 = some (.invokevirtual 61, 3) := rfl
theorem mi_a12_193 : mi_look mi_m12.1 193 = some (.ixor, 1) := rfl
theorem mi_a12_194 : mi_look mi_m12.1 194 = some (.ireturn, 1) := rfl
theorem mi_a12_195 : mi_look mi_m12.1 195 = some (.aload_n 0, 1) := rfl
theorem mi_a12_196 : mi_look mi_m12.1 196 = some (.bipush 15, 2) := rfl
theorem mi_a12_198 : mi_look mi_m12.1 198 = some (.aload_n 1, 1) := rfl
theorem mi_a12_199 : mi_look mi_m12.1 199 = some (.iconst 4, 1) := rfl
theorem mi_a12_200 : mi_look mi_m12.1 200 = some (.iload_n 3, 1) := rfl
theorem mi_a12_201 : mi_look mi_m12.1 201 = some (.iload 4, 2) := rfl
theorem mi_a12_203 : mi_look mi_m12.1 203 = some (.invokevirtual 64, 3) := rfl
theorem mi_a12_206 : mi_look mi_m12.1 206 = some (.iconst 1, 1) := rfl
theorem mi_a12_207 : mi_look mi_m12.1 207 = some (.iadd, 1) := rfl
theorem mi_a12_208 : mi_look mi_m12.1 208 = some (.ireturn, 1) := rfl
theorem mi_a12_209 : mi_look mi_m12.1 209 = some (.iload_n 3, 1) := rfl
theorem mi_a12_210 : mi_look mi_m12.1 210 = some (.ireturn, 1) := rfl
theorem mi_a12_211 : mi_look mi_m12.1 211 = some (.aload_n 0, 1) := rfl
theorem mi_a12_212 : mi_look mi_m12.1 212 = some (.bipush 17, 2) := rfl
theorem mi_a12_214 : mi_look mi_m12.1 214 = some (.aload_n 1, 1) := rfl
theorem mi_a12_215 : mi_look mi_m12.1 215 = some (.bipush 8, 2) := rfl
theorem mi_a12_217 : mi_look mi_m12.1 217 = some (.iload_n 3, 1) := rfl
theorem mi_a12_218 : mi_look mi_m12.1 218 = some (.iload 4, 2) := rfl
theorem mi_a12_220 : mi_look mi_m12.1 220 = some (.invokevirtual 64, 3) := rfl
theorem mi_a12_223 : mi_look mi_m12.1 223 = some (.sipush 255, 3) := rfl
theorem mi_a12_226 : mi_look mi_m12.1 226 = some (.iand, 1) := rfl
theorem mi_a12_227 : mi_look mi_m12.1 227 = some (.ireturn, 1) := rfl
theorem mi_a12_228 : mi_look mi_m12.1 228 = some (.iload_n 3, 1) := rfl
theorem mi_a12_229 : mi_look mi_m12.1 229 = some (.bipush 99, 2) := rfl
theorem mi_a12_231 : mi_look mi_m12.1 231 = some (.iadd, 1) := rfl
theorem mi_a12_232 : mi_look mi_m12.1 232 = some (.ireturn, 1) := rfl
theorem mi_a12_233 : mi_look mi_m12.1 233 = some (.aload_n 0, 1) := rfl
theorem mi_a12_234 : mi_look mi_m12.1 234 = some (.aload_n 1, 1) := rfl
theorem mi_a12_235 : mi_look mi_m12.1 235 = some (.sipush 162, 3) := rfl
theorem mi_a12_238 : mi_look mi_m12.1 238 = some (.iload_n 3, 1) := rfl
theorem mi_a12_239 : mi_look mi_m12.1 239 = some (.iload 4, 2) := rfl
theorem mi_a12_241 : mi_look mi_m12.1 241 = some (.invokevirtual 34, 3) := rfl
theorem mi_a12_244 : mi_look mi_m12.1 244 = some (.aload_n 0, 1) := rfl
theorem mi_a12_245 : mi_look mi_m12.1 245 = some (.bipush 6, 2) := rfl
theorem mi_a12_247 : mi_look mi_m12.1 247 = some (.aload_n 1, 1) := rfl
theorem mi_a12_248 : mi_look mi_m12.1 248 = some (.bipush 9, 2) := rfl
theorem mi_a12_250 : mi_look mi_m12.1 250 = some (.iconst 1, 1) := rfl
theorem mi_a12_251 : mi_look mi_m12.1 251 = some (.iload 4, 2) := rfl
theorem mi_a12_253 : mi_look mi_m12.1 253 = some (.invokevirtual 74, 3) := rfl
theorem mi_a12_256 : mi_look mi_m12.1 256 = some (.iadd, 1) := rfl
theorem mi_a12_257 : mi_look mi_m12.1 257 = some (.ireturn, 1) := rfl
theorem mi_a12_258 : mi_look mi_m12.1 258 = some (.iconst 0, 1) := rfl
theorem mi_a12_259 : mi_look mi_m12.1 259 = some (.ireturn, 1) := rfl
theorem mi_a13_0 : mi_look mi_m13.1 0 = some (.iload_n 2, 1) := rfl
theorem mi_a13_1 : mi_look mi_m13.1 1 = some (.tableswitch 235 180 204 #[115, 130, 235, 235, 235, 235, 235, 235, 235, 235, 152, 235, 235, 235, 235, 235, 235, 235, 235, 235, 165, 172, 197, 235, 221], 115) := rfl
theorem mi_a13_116 : mi_look mi_m13.1 116 = some (.aload_n 0, 1) := rfl
theorem mi_a13_117 : mi_look mi_m13.1 117 = some (.bipush 8, 2) := rfl
theorem mi_a13_119 : mi_look mi_m13.1 119 = some (.aload_n 1, 1) := rfl
theorem mi_a13_120 : mi_look mi_m13.1 120 = some (.bipush 9, 2) := rfl
theorem mi_a13_122 : mi_look mi_m13.1 122 = some (.iload_n 3, 1) := rfl
theorem mi_a13_123 : mi_look mi_m13.1 123 = some (.iload 4, 2) := rfl
theorem mi_a13_125 : mi_look mi_m13.1 125 = some (.invokevirtual 74, 3) := rfl
theorem mi_a13_128 : mi_look mi_m13.1 128 = some (.iconst 1, 1) := rfl
theorem mi_a13_129 : mi_look mi_m13.1 129 = some (.isub, 1) := rfl
theorem mi_a13_130 : mi_look mi_m13.1 130 = some (.ireturn, 1) := rfl
theorem mi_a13_131 : mi_look mi_m13.1 131 = some (.aload_n 0, 1) := rfl
theorem mi_a13_132 : mi_look mi_m13.1 132 = some (.bipush 8, 2) := rfl
theorem mi_a13_134 : mi_look mi_m13.1 134 = some (.aload_n 1, 1) := rfl
theorem mi_a13_135 : mi_look mi_m13.1 135 = some (.iconst 2, 1) := rfl
theorem mi_a13_136 : mi_look mi_m13.1 136 = some (.iload_n 3, 1) := rfl
theorem mi_a13_137 : mi_look mi_m13.1 137 = some (.iload 4, 2) := rfl
theorem mi_a13_139 : mi_look mi_m13.1 139 = some (.invokevirtual 74, 3) := rfl
theorem mi_a13_142 : mi_look mi_m13.1 142 = some (.aload_n 0, 1) := rfl
theorem mi_a13_143 : mi_look mi_m13.1 143 = some (.aload_n 1, 1) := rfl
theorem mi_a13_144 : mi_look mi_m13.1 144 = some (.iconst 1, 1) := rfl
theorem mi_a13_145 : mi_look mi_m13.1 145 = some (.iconst 2, 1) := rfl
theorem mi_a13_146 : mi_look mi_m13.1 146 = some (.iload 4, 2) := rfl
theorem mi_a13_148 : mi_look mi_m13.1 148 = some (.invokevirtual 61, 3) := rfl
theorem mi_a13_151 : mi_look mi_m13.1 151 = some (.iadd, 1) := rfl
theorem mi_a13_152 : mi_look mi_m13.1 152 = some (.ireturn, 1) := rfl
theorem mi_a13_153 : mi_look mi_m13.1 153 = some (.aload_n 0, 1) := rfl
theorem mi_a13_154 : mi_look mi_m13.1 154 = some (.aload_n 1, 1) := rfl
theorem mi_a13_155 : mi_look mi_m13.1 155 = some (.bipush 10, 2) := rfl
theorem mi_a13_157 : mi_look mi_m13.1 157 = some (.iload_n 3, 1) := rfl
theorem mi_a13_158 : mi_look mi_m13.1 158 = some (.iload 4, 2) := rfl
theorem mi_a13_160 : mi_look mi_m13.1 160 = some (.invokevirtual 61, 3) := rfl
theorem mi_a13_163 : mi_look mi_m13.1 163 = some (.iconst 2, 1) := rfl
theorem mi_a13_164 : mi_look mi_m13.1 164 = some (.imul, 1) := rfl
theorem mi_a13_165 : mi_look mi_m13.1 165 = some (.ireturn, 1) := rfl
theorem mi_a13_166 : mi_look mi_m13.1 166 = some (.aload_n 1, 1) := rfl
theorem mi_a13_167 : mi_look mi_m13.1 167 = some (.getfield 71, 3) := rfl
theorem mi_a13_170 : mi_look mi_m13.1 170 = some (.iload_n 3, 1) := rfl
theorem mi_a13_171 : mi_look mi_m13.1 171 = some (.iadd, 1) := rfl
theorem mi_a13_172 : mi_look mi_m13.1 172 = some (.ireturn, 1) := rfl
theorem mi_a13_173 : mi_look mi_m13.1 173 = some (.aload_n 0, 1) := rfl
theorem mi_a13_174 : mi_look mi_m13.1 174 = some (.bipush 17, 2) := rfl
theorem mi_a13_176 : mi_look mi_m13.1 176 = some (.aload_n 1, 1) := rfl
theorem mi_a13_177 : mi_look mi_m13.1 177 = some (.bipush 7, 2) := rfl
theorem mi_a13_179 : mi_look mi_m13.1 179 = some (.iload_n 3, 1) := rfl
theorem mi_a13_180 : mi_look mi_m13.1 180 = some (.iload 4, 2) := rfl
theorem mi_a13_182 : mi_look mi_m13.1 182 = some (.invokevirtual 64, 3) := rfl
theorem mi_a13_185 : mi_look mi_m13.1 185 = some (.aload_n 0, 1) := rfl
theorem mi_a13_186 : mi_look mi_m13.1 186 = some (.aload_n 1, 1) := rfl
theorem mi_a13_187 : mi_look mi_m13.1 187 = some (.sipush 200, 3) := rfl
theorem mi_a13_190 : mi_look mi_m13.1 190 = some (.iload_n 3, 1) := rfl
theorem mi_a13_191 : mi_look mi_m13.1 191 = some (.iload 4, 2) := rfl
theorem mi_a13_193 : mi_look mi_m13.1 193 = some (.invokevirtual 34, 3) := rfl
theorem mi_a13_196 : mi_look mi_m13.1 196 = some (.iadd, 1) := rfl
theorem mi_a13_197 : mi_look mi_m13.1 197 = some (.ireturn, 1) := rfl
theorem mi_a13_198 : mi_look mi_m13.1 198 = some (.aload_n 0, 1) := rfl
theorem mi_a13_199 : mi_look mi_m13.1 199 = some (.bipush 15, 2) := rfl
theorem mi_a13_201 : mi_look mi_m13.1 201 = some (.aload_n 1, 1) := rfl
theorem mi_a13_202 : mi_look mi_m13.1 202 = some (.iconst 2, 1) := rfl
theorem mi_a13_203 : mi_look mi_m13.1 203 = some (.iload_n 3, 1) := rfl
theorem mi_a13_204 : mi_look mi_m13.1 204 = some (.iload 4, 2) := rfl
theorem mi_a13_206 : mi_look mi_m13.1 206 = some (.invokevirtual 64, 3) := rfl
theorem mi_a13_209 : mi_look mi_m13.1 209 = some (.aload_n 0, 1) := rfl
theorem mi_a13_210 : mi_look mi_m13.1 210 = some (.bipush 10, 2) := rfl
theorem mi_a13_212 : mi_look mi_m13.1 212 = some (.aload_n 1, 1) := rfl
theorem mi_a13_213 : mi_look mi_m13.1 213 = some (.iconst 2, 1) := rfl
theorem mi_a13_214 : mi_look mi_m13.1 214 = some (.iload_n 3, 1) := rfl
theorem mi_a13_215 : mi_look mi_m13.1 215 = some (.iload 4, 2) := rfl
theorem mi_a13_217 : mi_look mi_m13.1 217 = some (.invokevirtual 74, 3) := rfl
theorem mi_a13_220 : mi_look mi_m13.1 220 = some (.iadd, 1) := rfl
theorem mi_a13_221 : mi_look mi_m13.1 221 = some (.ireturn, 1) := rfl
theorem mi_a13_222 : mi_look mi_m13.1 222 = some (.aload_n 0, 1) := rfl
theorem mi_a13_223 : mi_look mi_m13.1 223 = some (.bipush 10, 2) := rfl
theorem mi_a13_225 : mi_look mi_m13.1 225 = some (.aload_n 1, 1) := rfl
theorem mi_a13_226 : mi_look mi_m13.1 226 = some (.iconst 5, 1) := rfl
theorem mi_a13_227 : mi_look mi_m13.1 227 = some (.iload_n 3, 1) := rfl
theorem mi_a13_228 : mi_look mi_m13.1 228 = some (.iload 4, 2) := rfl
theorem mi_a13_230 : mi_look mi_m13.1 230 = some (.invokevirtual 74, 3) := rfl
theorem mi_a13_233 : mi_look mi_m13.1 233 = some (.iconst 1, 1) := rfl
theorem mi_a13_234 : mi_look mi_m13.1 234 = some (.iadd, 1) := rfl
theorem mi_a13_235 : mi_look mi_m13.1 235 = some (.ireturn, 1) := rfl
theorem mi_a13_236 : mi_look mi_m13.1 236 = some (.iconst 0, 1) := rfl
theorem mi_a13_237 : mi_look mi_m13.1 237 = some (.ireturn, 1) := rfl
theorem mi_a14_0 : mi_look mi_m14.1 0 = some (.aload_n 0, 1) := rfl
theorem mi_a14_1 : mi_look mi_m14.1 1 = some (.invokespecial 1, 3) := rfl
theorem mi_a14_4 : mi_look mi_m14.1 4 = some (.aload_n 0, 1) := rfl
theorem mi_a14_5 : mi_look mi_m14.1 5 = some (.iload_n 1, 1) := rfl
theorem mi_a14_6 : mi_look mi_m14.1 6 = some (.putfield 7, 3) := rfl
theorem mi_a14_9 : mi_look mi_m14.1 9 = some (.aload_n 0, 1) := rfl
theorem mi_a14_10 : mi_look mi_m14.1 10 = some (.iload_n 2, 1) := rfl
theorem mi_a14_11 : mi_look mi_m14.1 11 = some (.putfield 13, 3) := rfl
theorem mi_a14_14 : mi_look mi_m14.1 14 = some (.aload_n 0, 1) := rfl
theorem mi_a14_15 : mi_look mi_m14.1 15 = some (.iload_n 1, 1) := rfl
theorem mi_a14_16 : mi_look mi_m14.1 16 = some (.invokestatic 16, 3) := rfl
theorem mi_a14_19 : mi_look mi_m14.1 19 = some (.putfield 22, 3) := rfl
theorem mi_a14_22 : mi_look mi_m14.1 22 = some (.aload_n 0, 1) := rfl
theorem mi_a14_23 : mi_look mi_m14.1 23 = some (.aload_n 0, 1) := rfl
theorem mi_a14_24 : mi_look mi_m14.1 24 = some (.getfield 22, 3) := rfl
theorem mi_a14_27 : mi_look mi_m14.1 27 = some (.invokestatic 25, 3) := rfl
theorem mi_a14_30 : mi_look mi_m14.1 30 = some (.putfield 28, 3) := rfl
theorem mi_a14_33 : mi_look mi_m14.1 33 = some (.return_, 1) := rfl
theorem mi_a15_0 : mi_look mi_m15.1 0 = some (.aload_n 0, 1) := rfl
theorem mi_a15_1 : mi_look mi_m15.1 1 = some (.getfield 22, 3) := rfl
theorem mi_a15_4 : mi_look mi_m15.1 4 = some (.iload_n 1, 1) := rfl
theorem mi_a15_5 : mi_look mi_m15.1 5 = some (.invokestatic 31, 3) := rfl
theorem mi_a15_8 : mi_look mi_m15.1 8 = some (.ireturn, 1) := rfl
theorem mi_a16_0 : mi_look mi_m16.1 0 = some (.iload_n 2, 1) := rfl
theorem mi_a16_1 : mi_look mi_m16.1 1 = some (.ifCond .ne 10, 3) := rfl
theorem mi_a16_4 : mi_look mi_m16.1 4 = some (.aload_n 0, 1) := rfl
theorem mi_a16_5 : mi_look mi_m16.1 5 = some (.getfield 28, 3) := rfl
theorem mi_a16_8 : mi_look mi_m16.1 8 = some (.goto 7, 3) := rfl
theorem mi_a16_11 : mi_look mi_m16.1 11 = some (.iload_n 2, 1) := rfl
theorem mi_a16_12 : mi_look mi_m16.1 12 = some (.invokestatic 35, 3) := rfl
theorem mi_a16_15 : mi_look mi_m16.1 15 = some (.iload_n 1, 1) := rfl
theorem mi_a16_16 : mi_look mi_m16.1 16 = some (.invokestatic 31, 3) := rfl
theorem mi_a16_19 : mi_look mi_m16.1 19 = some (.ireturn, 1) := rfl
theorem mi_a17_0 : mi_look mi_m17.1 0 = some (.aload_n 0, 1) := rfl
theorem mi_a17_1 : mi_look mi_m17.1 1 = some (.iconst 3, 1) := rfl
theorem mi_a17_2 : mi_look mi_m17.1 2 = some (.invokevirtual 38, 3) := rfl
theorem mi_a17_5 : mi_look mi_m17.1 5 = some (.ifCond .eq 5, 3) := rfl
theorem mi_a17_8 : mi_look mi_m17.1 8 = some (.iconst 4, 1) := rfl
theorem mi_a17_9 : mi_look mi_m17.1 9 = some (.ireturn, 1) := rfl
theorem mi_a17_10 : mi_look mi_m17.1 10 = some (.aload_n 0, 1) := rfl
theorem mi_a17_11 : mi_look mi_m17.1 11 = some (.iconst 2, 1) := rfl
theorem mi_a17_12 : mi_look mi_m17.1 12 = some (.invokevirtual 38, 3) := rfl
theorem mi_a17_15 : mi_look mi_m17.1 15 = some (.ifCond .eq 7, 3) := rfl
theorem mi_a17_18 : mi_look mi_m17.1 18 = some (.iconst 1, 1) := rfl
theorem mi_a17_19 : mi_look mi_m17.1 19 = some (.goto 5, 3) := rfl
theorem mi_a17_22 : mi_look mi_m17.1 22 = some (.bipush 6, 2) := rfl
theorem mi_a17_24 : mi_look mi_m17.1 24 = some (.ireturn, 1) := rfl
theorem mi_a18_0 : mi_look mi_m18.1 0 = some (.new 42, 3) := rfl
theorem mi_a18_3 : mi_look mi_m18.1 3 = some (.dup, 1) := rfl
theorem mi_a18_4 : mi_look mi_m18.1 4 = some (.aload_n 1, 1) := rfl
theorem mi_a18_5 : mi_look mi_m18.1 5 = some (.invokespecial 44, 3) := rfl
theorem mi_a18_8 : mi_look mi_m18.1 8 = some (.astore_n 2, 1) := rfl
theorem mi_a18_9 : mi_look mi_m18.1 9 = some (.aload_n 0, 1) := rfl
theorem mi_a18_10 : mi_look mi_m18.1 10 = some (.getfield 47, 3) := rfl
theorem mi_a18_13 : mi_look mi_m18.1 13 = some (.ifnonnull 11, 3) := rfl
theorem mi_a18_16 : mi_look mi_m18.1 16 = some (.aload_n 0, 1) := rfl
theorem mi_a18_17 : mi_look mi_m18.1 17 = some (.aload_n 2, 1) := rfl
theorem mi_a18_18 : mi_look mi_m18.1 18 = some (.putfield 51, 3) := rfl
theorem mi_a18_21 : mi_look mi_m18.1 21 = some (.goto 11, 3) := rfl
theorem mi_a18_24 : mi_look mi_m18.1 24 = some (.aload_n 0, 1) := rfl
theorem mi_a18_25 : mi_look mi_m18.1 25 = some (.getfield 47, 3) := rfl
theorem mi_a18_28 : mi_look mi_m18.1 28 = some (.aload_n 2, 1) := rfl
theorem mi_a18_29 : mi_look mi_m18.1 29 = some (.putfield 54, 3) := rfl
theorem mi_a18_32 : mi_look mi_m18.1 32 = some (.aload_n 0, 1) := rfl
theorem mi_a18_33 : mi_look mi_m18.1 33 = some (.aload_n 2, 1) := rfl
theorem mi_a18_34 : mi_look mi_m18.1 34 = some (.putfield 47, 3) := rfl
theorem mi_a18_37 : mi_look mi_m18.1 37 = some (.aload_n 0, 1) := rfl
theorem mi_a18_38 : mi_look mi_m18.1 38 = some (.dup, 1) := rfl
theorem mi_a18_39 : mi_look mi_m18.1 39 = some (.getfield 57, 3) := rfl
theorem mi_a18_42 : mi_look mi_m18.1 42 = some (.iconst 1, 1) := rfl
theorem mi_a18_43 : mi_look mi_m18.1 43 = some (.iadd, 1) := rfl
theorem mi_a18_44 : mi_look mi_m18.1 44 = some (.putfield 57, 3) := rfl
theorem mi_a18_47 : mi_look mi_m18.1 47 = some (.aload_n 1, 1) := rfl
theorem mi_a18_48 : mi_look mi_m18.1 48 = some (.dup, 1) := rfl
theorem mi_a18_49 : mi_look mi_m18.1 49 = some (.getfield 60, 3) := rfl
theorem mi_a18_52 : mi_look mi_m18.1 52 = some (.iconst 1, 1) := rfl
theorem mi_a18_53 : mi_look mi_m18.1 53 = some (.iadd, 1) := rfl
theorem mi_a18_54 : mi_look mi_m18.1 54 = some (.putfield 60, 3) := rfl
theorem mi_a18_57 : mi_look mi_m18.1 57 = some (.return_, 1) := rfl
theorem mi_a19_0 : mi_look mi_m19.1 0 = some (.iload_n 0, 1) := rfl
theorem mi_a19_1 : mi_look mi_m19.1 1 = some (.ifCond .lt 12, 3) := rfl
theorem mi_a19_4 : mi_look mi_m19.1 4 = some (.iload_n 0, 1) := rfl
theorem mi_a19_5 : mi_look mi_m19.1 5 = some (.iconst 5, 1) := rfl
theorem mi_a19_6 : mi_look mi_m19.1 6 = some (.if_icmp .gt 7, 3) := rfl
theorem mi_a19_9 : mi_look mi_m19.1 9 = some (.iconst 1, 1) := rfl
theorem mi_a19_10 : mi_look mi_m19.1 10 = some (.goto 4, 3) := rfl
theorem mi_a19_13 : mi_look mi_m19.1 13 = some (.iconst 0, 1) := rfl
theorem mi_a19_14 : mi_look mi_m19.1 14 = some (.ireturn, 1) := rfl
theorem mi_a20_0 : mi_look mi_m20.1 0 = some (.iload_n 1, 1) := rfl
theorem mi_a20_1 : mi_look mi_m20.1 1 = some (.tableswitch 69 0 5 #[39, 44, 49, 54, 59, 64], 39) := rfl
theorem mi_a20_40 : mi_look mi_m20.1 40 = some (.aload_n 0, 1) := rfl
theorem mi_a20_41 : mi_look mi_m20.1 41 = some (.getfield 7, 3) := rfl
theorem mi_a20_44 : mi_look mi_m20.1 44 = some (.ireturn, 1) := rfl
theorem mi_a20_45 : mi_look mi_m20.1 45 = some (.aload_n 0, 1) := rfl
theorem mi_a20_46 : mi_look mi_m20.1 46 = some (.getfield 13, 3) := rfl
theorem mi_a20_49 : mi_look mi_m20.1 49 = some (.ireturn, 1) := rfl
theorem mi_a20_50 : mi_look mi_m20.1 50 = some (.aload_n 0, 1) := rfl
theorem mi_a20_51 : mi_look mi_m20.1 51 = some (.getfield 63, 3) := rfl
theorem mi_a20_54 : mi_look mi_m20.1 54 = some (.ireturn, 1) := rfl
theorem mi_a20_55 : mi_look mi_m20.1 55 = some (.aload_n 0, 1) := rfl
theorem mi_a20_56 : mi_look mi_m20.1 56 = some (.getfield 57, 3) := rfl
theorem mi_a20_59 : mi_look mi_m20.1 59 = some (.ireturn, 1) := rfl
theorem mi_a20_60 : mi_look mi_m20.1 60 = some (.aload_n 0, 1) := rfl
theorem mi_a20_61 : mi_look mi_m20.1 61 = some (.getfield 60, 3) := rfl
theorem mi_a20_64 : mi_look mi_m20.1 64 = some (.ireturn, 1) := rfl
theorem mi_a20_65 : mi_look mi_m20.1 65 = some (.aload_n 0, 1) := rfl
theorem mi_a20_66 : mi_look mi_m20.1 66 = some (.getfield 66, 3) := rfl
theorem mi_a20_69 : mi_look mi_m20.1 69 = some (.ireturn, 1) := rfl
theorem mi_a20_70 : mi_look mi_m20.1 70 = some (.iconst 0, 1) := rfl
theorem mi_a20_71 : mi_look mi_m20.1 71 = some (.ireturn, 1) := rfl
theorem mi_a21_0 : mi_look mi_m21.1 0 = some (.iload_n 0, 1) := rfl
theorem mi_a21_1 : mi_look mi_m21.1 1 = some (.ifCond .lt 13, 3) := rfl
theorem mi_a21_4 : mi_look mi_m21.1 4 = some (.iload_n 0, 1) := rfl
theorem mi_a21_5 : mi_look mi_m21.1 5 = some (.bipush 11, 2) := rfl
theorem mi_a21_7 : mi_look mi_m21.1 7 = some (.if_icmp .ge 7, 3) := rfl
theorem mi_a21_10 : mi_look mi_m21.1 10 = some (.iconst 1, 1) := rfl
theorem mi_a21_11 : mi_look mi_m21.1 11 = some (.goto 4, 3) := rfl
theorem mi_a21_14 : mi_look mi_m21.1 14 = some (.iconst 0, 1) := rfl
theorem mi_a21_15 : mi_look mi_m21.1 15 = some (.ireturn, 1) := rfl
theorem mi_a22_0 : mi_look mi_m22.1 0 = some (.iload_n 0, 1) := rfl
theorem mi_a22_1 : mi_look mi_m22.1 1 = some (.ifCond .lt 13, 3) := rfl
theorem mi_a22_4 : mi_look mi_m22.1 4 = some (.iload_n 0, 1) := rfl
theorem mi_a22_5 : mi_look mi_m22.1 5 = some (.bipush 12, 2) := rfl
theorem mi_a22_7 : mi_look mi_m22.1 7 = some (.if_icmp .ge 7, 3) := rfl
theorem mi_a22_10 : mi_look mi_m22.1 10 = some (.iconst 1, 1) := rfl
theorem mi_a22_11 : mi_look mi_m22.1 11 = some (.goto 4, 3) := rfl
theorem mi_a22_14 : mi_look mi_m22.1 14 = some (.iconst 0, 1) := rfl
theorem mi_a22_15 : mi_look mi_m22.1 15 = some (.ireturn, 1) := rfl
theorem mi_a23_0 : mi_look mi_m23.1 0 = some (.iload_n 0, 1) := rfl
theorem mi_a23_1 : mi_look mi_m23.1 1 = some (.ifCond .lt 13, 3) := rfl
theorem mi_a23_4 : mi_look mi_m23.1 4 = some (.iload_n 0, 1) := rfl
theorem mi_a23_5 : mi_look mi_m23.1 5 = some (.bipush 7, 2) := rfl
theorem mi_a23_7 : mi_look mi_m23.1 7 = some (.if_icmp .ge 7, 3) := rfl
theorem mi_a23_10 : mi_look mi_m23.1 10 = some (.iconst 1, 1) := rfl
theorem mi_a23_11 : mi_look mi_m23.1 11 = some (.goto 4, 3) := rfl
theorem mi_a23_14 : mi_look mi_m23.1 14 = some (.iconst 0, 1) := rfl
theorem mi_a23_15 : mi_look mi_m23.1 15 = some (.ireturn, 1) := rfl
theorem mi_a24_0 : mi_look mi_m24.1 0 = some (.iload_n 0, 1) := rfl
theorem mi_a24_1 : mi_look mi_m24.1 1 = some (.ifCond .lt 13, 3) := rfl
theorem mi_a24_4 : mi_look mi_m24.1 4 = some (.iload_n 0, 1) := rfl
theorem mi_a24_5 : mi_look mi_m24.1 5 = some (.bipush 18, 2) := rfl
theorem mi_a24_7 : mi_look mi_m24.1 7 = some (.if_icmp .ge 7, 3) := rfl
theorem mi_a24_10 : mi_look mi_m24.1 10 = some (.iconst 1, 1) := rfl
theorem mi_a24_11 : mi_look mi_m24.1 11 = some (.goto 4, 3) := rfl
theorem mi_a24_14 : mi_look mi_m24.1 14 = some (.iconst 0, 1) := rfl
theorem mi_a24_15 : mi_look mi_m24.1 15 = some (.ireturn, 1) := rfl
theorem mi_a25_0 : mi_look mi_m25.1 0 = some (.iload_n 0, 1) := rfl
theorem mi_a25_1 : mi_look mi_m25.1 1 = some (.iconst 1, 1) := rfl
theorem mi_a25_2 : mi_look mi_m25.1 2 = some (.iload_n 1, 1) := rfl
theorem mi_a25_3 : mi_look mi_m25.1 3 = some (.ishl, 1) := rfl
theorem mi_a25_4 : mi_look mi_m25.1 4 = some (.iand, 1) := rfl
theorem mi_a25_5 : mi_look mi_m25.1 5 = some (.ifCond .eq 7, 3) := rfl
theorem mi_a25_8 : mi_look mi_m25.1 8 = some (.iconst 1, 1) := rfl
theorem mi_a25_9 : mi_look mi_m25.1 9 = some (.goto 4, 3) := rfl
theorem mi_a25_12 : mi_look mi_m25.1 12 = some (.iconst 0, 1) := rfl
theorem mi_a25_13 : mi_look mi_m25.1 13 = some (.ireturn, 1) := rfl
theorem mi_a26_0 : mi_look mi_m26.1 0 = some (.iload_n 0, 1) := rfl
theorem mi_a26_1 : mi_look mi_m26.1 1 = some (.invokestatic 11, 3) := rfl
theorem mi_a26_4 : mi_look mi_m26.1 4 = some (.ifCond .eq 11, 3) := rfl
theorem mi_a26_7 : mi_look mi_m26.1 7 = some (.getstatic 15, 3) := rfl
theorem mi_a26_10 : mi_look mi_m26.1 10 = some (.iload_n 0, 1) := rfl
theorem mi_a26_11 : mi_look mi_m26.1 11 = some (.iaload, 1) := rfl
theorem mi_a26_12 : mi_look mi_m26.1 12 = some (.goto 4, 3) := rfl
theorem mi_a26_15 : mi_look mi_m26.1 15 = some (.iconst (-1), 1) := rfl
theorem mi_a26_16 : mi_look mi_m26.1 16 = some (.ireturn, 1) := rfl
theorem mi_a28_0 : mi_look mi_m28.1 0 = some (.iload_n 0, 1) := rfl
theorem mi_a28_1 : mi_look mi_m28.1 1 = some (.invokestatic 22, 3) := rfl
theorem mi_a28_4 : mi_look mi_m28.1 4 = some (.ifCond .eq 11, 3) := rfl
theorem mi_a28_7 : mi_look mi_m28.1 7 = some (.getstatic 25, 3) := rfl
theorem mi_a28_10 : mi_look mi_m28.1 10 = some (.iload_n 0, 1) := rfl
theorem mi_a28_11 : mi_look mi_m28.1 11 = some (.iaload, 1) := rfl
theorem mi_a28_12 : mi_look mi_m28.1 12 = some (.goto 4, 3) := rfl
theorem mi_a28_15 : mi_look mi_m28.1 15 = some (.iconst 0, 1) := rfl
theorem mi_a28_16 : mi_look mi_m28.1 16 = some (.ireturn, 1) := rfl
theorem mi_a32_0 : mi_look mi_m32.1 0 = some (.iconst 3, 1) := rfl
theorem mi_a32_1 : mi_look mi_m32.1 1 = some (.iload_n 0, 1) := rfl
theorem mi_a32_2 : mi_look mi_m32.1 2 = some (.invokestatic 48, 3) := rfl
theorem mi_a32_5 : mi_look mi_m32.1 5 = some (.ior, 1) := rfl
theorem mi_a32_6 : mi_look mi_m32.1 6 = some (.ireturn, 1) := rfl
theorem mi_a33_0 : mi_look mi_m33.1 0 = some (.iconst 0, 1) := rfl
theorem mi_a33_1 : mi_look mi_m33.1 1 = some (.istore_n 1, 1) := rfl
theorem mi_a33_2 : mi_look mi_m33.1 2 = some (.iconst 0, 1) := rfl
theorem mi_a33_3 : mi_look mi_m33.1 3 = some (.istore_n 2, 1) := rfl
theorem mi_a33_4 : mi_look mi_m33.1 4 = some (.iload_n 2, 1) := rfl
theorem mi_a33_5 : mi_look mi_m33.1 5 = some (.bipush 7, 2) := rfl
theorem mi_a33_7 : mi_look mi_m33.1 7 = some (.if_icmp .ge 24, 3) := rfl
theorem mi_a33_10 : mi_look mi_m33.1 10 = some (.iload_n 0, 1) := rfl
theorem mi_a33_11 : mi_look mi_m33.1 11 = some (.iload_n 2, 1) := rfl
theorem mi_a33_12 : mi_look mi_m33.1 12 = some (.invokestatic 41, 3) := rfl
theorem mi_a33_15 : mi_look mi_m33.1 15 = some (.ifCond .eq 10, 3) := rfl
theorem mi_a33_18 : mi_look mi_m33.1 18 = some (.iload_n 1, 1) := rfl
theorem mi_a33_19 : mi_look mi_m33.1 19 = some (.iload_n 2, 1) := rfl
theorem mi_a33_20 : mi_look mi_m33.1 20 = some (.invokestatic 51, 3) := rfl
theorem mi_a33_23 : mi_look mi_m33.1 23 = some (.ior, 1) := rfl
theorem mi_a33_24 : mi_look mi_m33.1 24 = some (.istore_n 1, 1) := rfl
theorem mi_a33_25 : mi_look mi_m33.1 25 = some (.iinc 2 1, 3) := rfl
theorem mi_a33_28 : mi_look mi_m33.1 28 = some (.goto (-24), 3) := rfl
theorem mi_a33_31 : mi_look mi_m33.1 31 = some (.iload_n 1, 1) := rfl
theorem mi_a33_32 : mi_look mi_m33.1 32 = some (.ireturn, 1) := rfl
theorem mi_a35_0 : mi_look mi_m35.1 0 = some (.aload_n 0, 1) := rfl
theorem mi_a35_1 : mi_look mi_m35.1 1 = some (.invokespecial 1, 3) := rfl
theorem mi_a35_4 : mi_look mi_m35.1 4 = some (.aload_n 0, 1) := rfl
theorem mi_a35_5 : mi_look mi_m35.1 5 = some (.aload_n 1, 1) := rfl
theorem mi_a35_6 : mi_look mi_m35.1 6 = some (.putfield 7, 3) := rfl
theorem mi_a35_9 : mi_look mi_m35.1 9 = some (.return_, 1) := rfl
theorem mi_a36_0 : mi_look mi_m36.1 0 = some (.aload_n 0, 1) := rfl
theorem mi_a36_1 : mi_look mi_m36.1 1 = some (.invokespecial 1, 3) := rfl
theorem mi_a36_4 : mi_look mi_m36.1 4 = some (.aload_n 0, 1) := rfl
theorem mi_a36_5 : mi_look mi_m36.1 5 = some (.new 7, 3) := rfl
theorem mi_a36_8 : mi_look mi_m36.1 8 = some (.dup, 1) := rfl
theorem mi_a36_9 : mi_look mi_m36.1 9 = some (.invokespecial 9, 3) := rfl
theorem mi_a36_12 : mi_look mi_m36.1 12 = some (.putfield 10, 3) := rfl
theorem mi_a36_15 : mi_look mi_m36.1 15 = some (.aload_n 0, 1) := rfl
theorem mi_a36_16 : mi_look mi_m36.1 16 = some (.sipush 300, 3) := rfl
theorem mi_a36_19 : mi_look mi_m36.1 19 = some (.anewarray 16, 3) := rfl
theorem mi_a36_22 : mi_look mi_m36.1 22 = some (.putfield 18, 3) := rfl
theorem mi_a36_25 : mi_look mi_m36.1 25 = some (.aload_n 0, 1) := rfl
theorem mi_a36_26 : mi_look mi_m36.1 26 = some (.sipush 300, 3) := rfl
theorem mi_a36_29 : mi_look mi_m36.1 29 = some (.anewarray 16, 3) := rfl
theorem mi_a36_32 : mi_look mi_m36.1 32 = some (.putfield 22, 3) := rfl
theorem mi_a36_35 : mi_look mi_m36.1 35 = some (.return_, 1) := rfl
theorem mi_a37_0 : mi_look mi_m37.1 0 = some (.iload_n 1, 1) := rfl
theorem mi_a37_1 : mi_look mi_m37.1 1 = some (.invokestatic 25, 3) := rfl
theorem mi_a37_4 : mi_look mi_m37.1 4 = some (.ifCond .ne 10, 3) := rfl
theorem mi_a37_7 : mi_look mi_m37.1 7 = some (.aload_n 0, 1) := rfl
theorem mi_a37_8 : mi_look mi_m37.1 8 = some (.iconst 1, 1) := rfl
theorem mi_a37_9 : mi_look mi_m37.1 9 = some (.putfield 31, 3) := rfl
theorem mi_a37_12 : mi_look mi_m37.1 12 = some (.iconst (-1), 1) := rfl
theorem mi_a37_13 : mi_look mi_m37.1 13 = some (.ireturn, 1) := rfl
theorem mi_a37_14 : mi_look mi_m37.1 14 = some (.aload_n 0, 1) := rfl
theorem mi_a37_15 : mi_look mi_m37.1 15 = some (.getfield 35, 3) := rfl
theorem mi_a37_18 : mi_look mi_m37.1 18 = some (.sipush 300, 3) := rfl
theorem mi_a37_21 : mi_look mi_m37.1 21 = some (.if_icmp .lt 10, 3) := rfl
theorem mi_a37_24 : mi_look mi_m37.1 24 = some (.aload_n 0, 1) := rfl
theorem mi_a37_25 : mi_look mi_m37.1 25 = some (.iconst 5, 1) := rfl
theorem mi_a37_26 : mi_look mi_m37.1 26 = some (.putfield 31, 3) := rfl
theorem mi_a37_29 : mi_look mi_m37.1 29 = some (.iconst (-1), 1) := rfl
theorem mi_a37_30 : mi_look mi_m37.1 30 = some (.ireturn, 1) := rfl
theorem mi_a37_31 : mi_look mi_m37.1 31 = some (.aload_n 0, 1) := rfl
theorem mi_a37_32 : mi_look mi_m37.1 32 = some (.getfield 18, 3) := rfl
theorem mi_a37_35 : mi_look mi_m37.1 35 = some (.aload_n 0, 1) := rfl
theorem mi_a37_36 : mi_look mi_m37.1 36 = some (.getfield 35, 3) := rfl
theorem mi_a37_39 : mi_look mi_m37.1 39 = some (.new 16, 3) := rfl
theorem mi_a37_42 : mi_look mi_m37.1 42 = some (.dup, 1) := rfl
theorem mi_a37_43 : mi_look mi_m37.1 43 = some (.iload_n 1, 1) := rfl
theorem mi_a37_44 : mi_look mi_m37.1 44 = some (.iload_n 2, 1) := rfl
theorem mi_a37_45 : mi_look mi_m37.1 45 = some (.invokespecial 38, 3) := rfl
theorem mi_a37_48 : mi_look mi_m37.1 48 = some (.aastore, 1) := rfl
theorem mi_a37_49 : mi_look mi_m37.1 49 = some (.aload_n 0, 1) := rfl
theorem mi_a37_50 : mi_look mi_m37.1 50 = some (.dup, 1) := rfl
theorem mi_a37_51 : mi_look mi_m37.1 51 = some (.getfield 35, 3) := rfl
theorem mi_a37_54 : mi_look mi_m37.1 54 = some (.iconst 1, 1) := rfl
theorem mi_a37_55 : mi_look mi_m37.1 55 = some (.iadd, 1) := rfl
theorem mi_a37_56 : mi_look mi_m37.1 56 = some (.putfield 35, 3) := rfl
theorem mi_a37_59 : mi_look mi_m37.1 59 = some (.aload_n 0, 1) := rfl
theorem mi_a37_60 : mi_look mi_m37.1 60 = some (.iconst 0, 1) := rfl
theorem mi_a37_61 : mi_look mi_m37.1 61 = some (.putfield 31, 3) := rfl
theorem mi_a37_64 : mi_look mi_m37.1 64 = some (.aload_n 0, 1) := rfl
theorem mi_a37_65 : mi_look mi_m37.1 65 = some (.getfield 35, 3) := rfl
theorem mi_a37_68 : mi_look mi_m37.1 68 = some (.iconst 1, 1) := rfl
theorem mi_a37_69 : mi_look mi_m37.1 69 = some (.isub, 1) := rfl
theorem mi_a37_70 : mi_look mi_m37.1 70 = some (.ireturn, 1) := rfl
theorem mi_a38_0 : mi_look mi_m38.1 0 = some (.aload_n 0, 1) := rfl
theorem mi_a38_1 : mi_look mi_m38.1 1 = some (.iload_n 1, 1) := rfl
theorem mi_a38_2 : mi_look mi_m38.1 2 = some (.invokevirtual 41, 3) := rfl
theorem mi_a38_5 : mi_look mi_m38.1 5 = some (.astore 5, 2) := rfl
theorem mi_a38_7 : mi_look mi_m38.1 7 = some (.aload_n 0, 1) := rfl
theorem mi_a38_8 : mi_look mi_m38.1 8 = some (.aload 5, 2) := rfl
theorem mi_a38_10 : mi_look mi_m38.1 10 = some (.iload_n 2, 1) := rfl
theorem mi_a38_11 : mi_look mi_m38.1 11 = some (.iload_n 3, 1) := rfl
theorem mi_a38_12 : mi_look mi_m38.1 12 = some (.invokestatic 45, 3) := rfl
theorem mi_a38_15 : mi_look mi_m38.1 15 = some (.putfield 31, 3) := rfl
theorem mi_a38_18 : mi_look mi_m38.1 18 = some (.aload 5, 2) := rfl
theorem mi_a38_20 : mi_look mi_m38.1 20 = some (.ifnull 10, 3) := rfl
theorem mi_a38_23 : mi_look mi_m38.1 23 = some (.aload_n 0, 1) := rfl
theorem mi_a38_24 : mi_look mi_m38.1 24 = some (.getfield 31, 3) := rfl
theorem mi_a38_27 : mi_look mi_m38.1 27 = some (.ifCond .eq 5, 3) := rfl
theorem mi_a38_30 : mi_look mi_m38.1 30 = some (.iconst 0, 1) := rfl
theorem mi_a38_31 : mi_look mi_m38.1 31 = some (.ireturn, 1) := rfl
theorem mi_a38_32 : mi_look mi_m38.1 32 = some (.aload_n 0, 1) := rfl
theorem mi_a38_33 : mi_look mi_m38.1 33 = some (.getfield 10, 3) := rfl
theorem mi_a38_36 : mi_look mi_m38.1 36 = some (.invokevirtual 49, 3) := rfl
theorem mi_a38_39 : mi_look mi_m38.1 39 = some (.aload_n 0, 1) := rfl
theorem mi_a38_40 : mi_look mi_m38.1 40 = some (.getfield 10, 3) := rfl
theorem mi_a38_43 : mi_look mi_m38.1 43 = some (.aload 5, 2) := rfl
theorem mi_a38_45 : mi_look mi_m38.1 45 = some (.iload_n 2, 1) := rfl
theorem mi_a38_46 : mi_look mi_m38.1 46 = some (.iload 4, 2) := rfl
theorem mi_a38_48 : mi_look mi_m38.1 48 = some (.iconst 0, 1) := rfl
theorem mi_a38_49 : mi_look mi_m38.1 49 = some (.invokevirtual 52, 3) := rfl
theorem mi_a38_52 : mi_look mi_m38.1 52 = some (.ireturn, 1) := rfl
theorem mi_a39_0 : mi_look mi_m39.1 0 = some (.aload_n 0, 1) := rfl
theorem mi_a39_1 : mi_look mi_m39.1 1 = some (.iload_n 1, 1) := rfl
theorem mi_a39_2 : mi_look mi_m39.1 2 = some (.iload_n 2, 1) := rfl
theorem mi_a39_3 : mi_look mi_m39.1 3 = some (.invokestatic 56, 3) := rfl
theorem mi_a39_6 : mi_look mi_m39.1 6 = some (.putfield 31, 3) := rfl
theorem mi_a39_9 : mi_look mi_m39.1 9 = some (.aload_n 0, 1) := rfl
theorem mi_a39_10 : mi_look mi_m39.1 10 = some (.getfield 31, 3) := rfl
theorem mi_a39_13 : mi_look mi_m39.1 13 = some (.ifCond .eq 5, 3) := rfl
theorem mi_a39_16 : mi_look mi_m39.1 16 = some (.iconst 0, 1) := rfl
theorem mi_a39_17 : mi_look mi_m39.1 17 = some (.ireturn, 1) := rfl
theorem mi_a39_18 : mi_look mi_m39.1 18 = some (.aload_n 0, 1) := rfl
theorem mi_a39_19 : mi_look mi_m39.1 19 = some (.getfield 10, 3) := rfl
theorem mi_a39_22 : mi_look mi_m39.1 22 = some (.invokevirtual 49, 3) := rfl
theorem mi_a39_25 : mi_look mi_m39.1 25 = some (.iconst 0, 1) := rfl
theorem mi_a39_26 : mi_look mi_m39.1 26 = some (.istore 4, 2) := rfl
theorem mi_a39_28 : mi_look mi_m39.1 28 = some (.iconst 0, 1) := rfl
theorem mi_a39_29 : mi_look mi_m39.1 29 = some (.istore 5, 2) := rfl
theorem mi_a39_31 : mi_look mi_m39.1 31 = some (.iload 5, 2) := rfl
theorem mi_a39_33 : mi_look mi_m39.1 33 = some (.aload_n 0, 1) := rfl
theorem mi_a39_34 : mi_look mi_m39.1 34 = some (.getfield 35, 3) := rfl
theorem mi_a39_37 : mi_look mi_m39.1 37 = some (.if_icmp .ge 67, 3) := rfl
theorem mi_a39_40 : mi_look mi_m39.1 40 = some (.iload 5, 2) := rfl
theorem mi_a39_42 : mi_look mi_m39.1 42 = some (.sipush 300, 3) := rfl
theorem mi_a39_45 : mi_look mi_m39.1 45 = some (.if_icmp .ge 59, 3) := rfl
theorem mi_a39_48 : mi_look mi_m39.1 48 = some (.aload_n 0, 1) := rfl
theorem mi_a39_49 : mi_look mi_m39.1 49 = some (.getfield 18, 3) := rfl
theorem mi_a39_52 : mi_look mi_m39.1 52 = some (.iload 5, 2) := rfl
theorem mi_a39_54 : mi_look mi_m39.1 54 = some (.aaload, 1) := rfl
theorem mi_a39_55 : mi_look mi_m39.1 55 = some (.astore 6, 2) := rfl
theorem mi_a39_57 : mi_look mi_m39.1 57 = some (.aload 6, 2) := rfl
theorem mi_a39_59 : mi_look mi_m39.1 59 = some (.ifnull 39, 3) := rfl
theorem mi_a39_62 : mi_look mi_m39.1 62 = some (.aload 6, 2) := rfl
theorem mi_a39_64 : mi_look mi_m39.1 64 = some (.iload_n 2, 1) := rfl
theorem mi_a39_65 : mi_look mi_m39.1 65 = some (.invokevirtual 60, 3) := rfl
theorem mi_a39_68 : mi_look mi_m39.1 68 = some (.ifCond .eq 30, 3) := rfl
theorem mi_a39_71 : mi_look mi_m39.1 71 = some (.aload 6, 2) := rfl
theorem mi_a39_73 : mi_look mi_m39.1 73 = some (.iload_n 1, 1) := rfl
theorem mi_a39_74 : mi_look mi_m39.1 74 = some (.iload_n 2, 1) := rfl
theorem mi_a39_75 : mi_look mi_m39.1 75 = some (.invokevirtual 63, 3) := rfl
theorem mi_a39_78 : mi_look mi_m39.1 78 = some (.ifCond .eq 20, 3) := rfl
theorem mi_a39_81 : mi_look mi_m39.1 81 = some (.iload 4, 2) := rfl
theorem mi_a39_83 : mi_look mi_m39.1 83 = some (.aload_n 0, 1) := rfl
theorem mi_a39_84 : mi_look mi_m39.1 84 = some (.getfield 10, 3) := rfl
theorem mi_a39_87 : mi_look mi_m39.1 87 = some (.aload 6, 2) := rfl
theorem mi_a39_89 : mi_look mi_m39.1 89 = some (.iload_n 1, 1) := rfl
theorem mi_a39_90 : mi_look mi_m39.1 90 = some (.iload_n 3, 1) := rfl
theorem mi_a39_91 : mi_look mi_m39.1 91 = some (.iconst 0, 1) := rfl
theorem mi_a39_92 : mi_look mi_m39.1 92 = some (.invokevirtual 52, 3) := rfl
theorem mi_a39_95 : mi_look mi_m39.1 95 = some (.iadd, 1) := rfl
theorem mi_a39_96 : mi_look mi_m39.1 96 = some (.istore 4, 2) := rfl
theorem mi_a39_98 : mi_look mi_m39.1 98 = some (.iinc 5 1, 3) := rfl
theorem mi_a39_101 : mi_look mi_m39.1 101 = some (.goto (-70), 3) := rfl
theorem mi_a39_104 : mi_look mi_m39.1 104 = some (.iload 4, 2) := rfl
theorem mi_a39_106 : mi_look mi_m39.1 106 = some (.ireturn, 1) := rfl
theorem mi_a40_0 : mi_look mi_m40.1 0 = some (.aload_n 0, 1) := rfl
theorem mi_a40_1 : mi_look mi_m40.1 1 = some (.iload_n 1, 1) := rfl
theorem mi_a40_2 : mi_look mi_m40.1 2 = some (.invokevirtual 41, 3) := rfl
theorem mi_a40_5 : mi_look mi_m40.1 5 = some (.astore_n 3, 1) := rfl
theorem mi_a40_6 : mi_look mi_m40.1 6 = some (.aload_n 3, 1) := rfl
theorem mi_a40_7 : mi_look mi_m40.1 7 = some (.ifnonnull 10, 3) := rfl
theorem mi_a40_10 : mi_look mi_m40.1 10 = some (.aload_n 0, 1) := rfl
theorem mi_a40_11 : mi_look mi_m40.1 11 = some (.iconst 1, 1) := rfl
theorem mi_a40_12 : mi_look mi_m40.1 12 = some (.putfield 31, 3) := rfl
theorem mi_a40_15 : mi_look mi_m40.1 15 = some (.iconst 0, 1) := rfl
theorem mi_a40_16 : mi_look mi_m40.1 16 = some (.ireturn, 1) := rfl
theorem mi_a40_17 : mi_look mi_m40.1 17 = some (.aload_n 0, 1) := rfl
theorem mi_a40_18 : mi_look mi_m40.1 18 = some (.iconst 0, 1) := rfl
theorem mi_a40_19 : mi_look mi_m40.1 19 = some (.putfield 31, 3) := rfl
theorem mi_a40_22 : mi_look mi_m40.1 22 = some (.aload_n 0, 1) := rfl
theorem mi_a40_23 : mi_look mi_m40.1 23 = some (.getfield 10, 3) := rfl
theorem mi_a40_26 : mi_look mi_m40.1 26 = some (.invokevirtual 49, 3) := rfl
theorem mi_a40_29 : mi_look mi_m40.1 29 = some (.iconst 0, 1) := rfl
theorem mi_a40_30 : mi_look mi_m40.1 30 = some (.istore 4, 2) := rfl
theorem mi_a40_32 : mi_look mi_m40.1 32 = some (.bipush 24, 2) := rfl
theorem mi_a40_34 : mi_look mi_m40.1 34 = some (.istore 5, 2) := rfl
theorem mi_a40_36 : mi_look mi_m40.1 36 = some (.iload 5, 2) := rfl
theorem mi_a40_38 : mi_look mi_m40.1 38 = some (.ifCond .lt 29, 3) := rfl
theorem mi_a40_41 : mi_look mi_m40.1 41 = some (.iload 4, 2) := rfl
theorem mi_a40_43 : mi_look mi_m40.1 43 = some (.aload_n 0, 1) := rfl
theorem mi_a40_44 : mi_look mi_m40.1 44 = some (.aload_n 3, 1) := rfl
theorem mi_a40_45 : mi_look mi_m40.1 45 = some (.iload_n 2, 1) := rfl
theorem mi_a40_46 : mi_look mi_m40.1 46 = some (.iload 5, 2) := rfl
theorem mi_a40_48 : mi_look mi_m40.1 48 = some (.iushr, 1) := rfl
theorem mi_a40_49 : mi_look mi_m40.1 49 = some (.sipush 255, 3) := rfl
theorem mi_a40_52 : mi_look mi_m40.1 52 = some (.iand, 1) := rfl
theorem mi_a40_53 : mi_look mi_m40.1 53 = some (.iload 4, 2) := rfl
theorem mi_a40_55 : mi_look mi_m40.1 55 = some (.invokevirtual 67, 3) := rfl
theorem mi_a40_58 : mi_look mi_m40.1 58 = some (.iadd, 1) := rfl
theorem mi_a40_59 : mi_look mi_m40.1 59 = some (.istore 4, 2) := rfl
theorem mi_a40_61 : mi_look mi_m40.1 61 = some (.iinc 5 (-8), 3) := rfl
theorem mi_a40_64 : mi_look mi_m40.1 64 = some (.goto (-28), 3) := rfl
theorem mi_a40_67 : mi_look mi_m40.1 67 = some (.iload 4, 2) := rfl
theorem mi_a40_69 : mi_look mi_m40.1 69 = some (.ireturn, 1) := rfl
theorem mi_a41_0 : mi_look mi_m41.1 0 = some (.aload_n 0, 1) := rfl
theorem mi_a41_1 : mi_look mi_m41.1 1 = some (.iload_n 1, 1) := rfl
theorem mi_a41_2 : mi_look mi_m41.1 2 = some (.invokevirtual 41, 3) := rfl
theorem mi_a41_5 : mi_look mi_m41.1 5 = some (.astore_n 3, 1) := rfl
theorem mi_a41_6 : mi_look mi_m41.1 6 = some (.aload_n 0, 1) := rfl
theorem mi_a41_7 : mi_look mi_m41.1 7 = some (.iload_n 2, 1) := rfl
theorem mi_a41_8 : mi_look mi_m41.1 8 = some (.invokevirtual 41, 3) := rfl
theorem mi_a41_11 : mi_look mi_m41.1 11 = some (.astore 4, 2) := rfl
theorem mi_a41_13 : mi_look mi_m41.1 13 = some (.aload_n 3, 1) := rfl
theorem mi_a41_14 : mi_look mi_m41.1 14 = some (.ifnull 8, 3) := rfl
theorem mi_a41_17 : mi_look mi_m41.1 17 = some (.aload 4, 2) := rfl
theorem mi_a41_19 : mi_look mi_m41.1 19 = some (.ifnonnull 10, 3) := rfl
theorem mi_a41_22 : mi_look mi_m41.1 22 = some (.aload_n 0, 1) := rfl
theorem mi_a41_23 : mi_look mi_m41.1 23 = some (.iconst 1, 1) := rfl
theorem mi_a41_24 : mi_look mi_m41.1 24 = some (.putfield 31, 3) := rfl
theorem mi_a41_27 : mi_look mi_m41.1 27 = some (.iconst (-1), 1) := rfl
theorem mi_a41_28 : mi_look mi_m41.1 28 = some (.ireturn, 1) := rfl
theorem mi_a41_29 : mi_look mi_m41.1 29 = some (.aload_n 0, 1) := rfl
theorem mi_a41_30 : mi_look mi_m41.1 30 = some (.getfield 70, 3) := rfl
theorem mi_a41_33 : mi_look mi_m41.1 33 = some (.sipush 400, 3) := rfl
theorem mi_a41_36 : mi_look mi_m41.1 36 = some (.if_icmp .lt 10, 3) := rfl
theorem mi_a41_39 : mi_look mi_m41.1 39 = some (.aload_n 0, 1) := rfl
theorem mi_a41_40 : mi_look mi_m41.1 40 = some (.iconst 5, 1) := rfl
theorem mi_a41_41 : mi_look mi_m41.1 41 = some (.putfield 31, 3) := rfl
theorem mi_a41_44 : mi_look mi_m41.1 44 = some (.iconst (-1), 1) := rfl
theorem mi_a41_45 : mi_look mi_m41.1 45 = some (.ireturn, 1) := rfl
theorem mi_a41_46 : mi_look mi_m41.1 46 = some (.aload_n 3, 1) := rfl
theorem mi_a41_47 : mi_look mi_m41.1 47 = some (.aload 4, 2) := rfl
theorem mi_a41_49 : mi_look mi_m41.1 49 = some (.invokevirtual 73, 3) := rfl
theorem mi_a41_52 : mi_look mi_m41.1 52 = some (.aload_n 0, 1) := rfl
theorem mi_a41_53 : mi_look mi_m41.1 53 = some (.dup, 1) := rfl
theorem mi_a41_54 : mi_look mi_m41.1 54 = some (.getfield 70, 3) := rfl
theorem mi_a41_57 : mi_look mi_m41.1 57 = some (.iconst 1, 1) := rfl
theorem mi_a41_58 : mi_look mi_m41.1 58 = some (.iadd, 1) := rfl
theorem mi_a41_59 : mi_look mi_m41.1 59 = some (.putfield 70, 3) := rfl
theorem mi_a41_62 : mi_look mi_m41.1 62 = some (.aload_n 0, 1) := rfl
theorem mi_a41_63 : mi_look mi_m41.1 63 = some (.iconst 0, 1) := rfl
theorem mi_a41_64 : mi_look mi_m41.1 64 = some (.putfield 31, 3) := rfl
theorem mi_a41_67 : mi_look mi_m41.1 67 = some (.aload_n 0, 1) := rfl
theorem mi_a41_68 : mi_look mi_m41.1 68 = some (.getfield 70, 3) := rfl
theorem mi_a41_71 : mi_look mi_m41.1 71 = some (.iconst 1, 1) := rfl
theorem mi_a41_72 : mi_look mi_m41.1 72 = some (.isub, 1) := rfl
theorem mi_a41_73 : mi_look mi_m41.1 73 = some (.ireturn, 1) := rfl
theorem mi_a42_0 : mi_look mi_m42.1 0 = some (.aload_n 0, 1) := rfl
theorem mi_a42_1 : mi_look mi_m42.1 1 = some (.iload_n 1, 1) := rfl
theorem mi_a42_2 : mi_look mi_m42.1 2 = some (.invokevirtual 41, 3) := rfl
theorem mi_a42_5 : mi_look mi_m42.1 5 = some (.astore_n 3, 1) := rfl
theorem mi_a42_6 : mi_look mi_m42.1 6 = some (.aload_n 3, 1) := rfl
theorem mi_a42_7 : mi_look mi_m42.1 7 = some (.ifnonnull 10, 3) := rfl
theorem mi_a42_10 : mi_look mi_m42.1 10 = some (.aload_n 0, 1) := rfl
theorem mi_a42_11 : mi_look mi_m42.1 11 = some (.iconst 1, 1) := rfl
theorem mi_a42_12 : mi_look mi_m42.1 12 = some (.putfield 31, 3) := rfl
theorem mi_a42_15 : mi_look mi_m42.1 15 = some (.iconst 0, 1) := rfl
theorem mi_a42_16 : mi_look mi_m42.1 16 = some (.ireturn, 1) := rfl
theorem mi_a42_17 : mi_look mi_m42.1 17 = some (.aload_n 0, 1) := rfl
theorem mi_a42_18 : mi_look mi_m42.1 18 = some (.iconst 0, 1) := rfl
theorem mi_a42_19 : mi_look mi_m42.1 19 = some (.putfield 31, 3) := rfl
theorem mi_a42_22 : mi_look mi_m42.1 22 = some (.aload_n 0, 1) := rfl
theorem mi_a42_23 : mi_look mi_m42.1 23 = some (.getfield 10, 3) := rfl
theorem mi_a42_26 : mi_look mi_m42.1 26 = some (.invokevirtual 49, 3) := rfl
theorem mi_a42_29 : mi_look mi_m42.1 29 = some (.aload_n 0, 1) := rfl
theorem mi_a42_30 : mi_look mi_m42.1 30 = some (.dup, 1) := rfl
theorem mi_a42_31 : mi_look mi_m42.1 31 = some (.getfield 77, 3) := rfl
theorem mi_a42_34 : mi_look mi_m42.1 34 = some (.iconst 1, 1) := rfl
theorem mi_a42_35 : mi_look mi_m42.1 35 = some (.iadd, 1) := rfl
theorem mi_a42_36 : mi_look mi_m42.1 36 = some (.putfield 77, 3) := rfl
theorem mi_a42_39 : mi_look mi_m42.1 39 = some (.aload_n 0, 1) := rfl
theorem mi_a42_40 : mi_look mi_m42.1 40 = some (.iconst 0, 1) := rfl
theorem mi_a42_41 : mi_look mi_m42.1 41 = some (.putfield 80, 3) := rfl
theorem mi_a42_44 : mi_look mi_m42.1 44 = some (.aload_n 0, 1) := rfl
theorem mi_a42_45 : mi_look mi_m42.1 45 = some (.aload_n 3, 1) := rfl
theorem mi_a42_46 : mi_look mi_m42.1 46 = some (.iload_n 2, 1) := rfl
theorem mi_a42_47 : mi_look mi_m42.1 47 = some (.invokevirtual 83, 3) := rfl
theorem mi_a42_50 : mi_look mi_m42.1 50 = some (.iconst 0, 1) := rfl
theorem mi_a42_51 : mi_look mi_m42.1 51 = some (.istore 4, 2) := rfl
theorem mi_a42_53 : mi_look mi_m42.1 53 = some (.iload 4, 2) := rfl
theorem mi_a42_55 : mi_look mi_m42.1 55 = some (.aload_n 0, 1) := rfl
theorem mi_a42_56 : mi_look mi_m42.1 56 = some (.getfield 80, 3) := rfl
theorem mi_a42_59 : mi_look mi_m42.1 59 = some (.if_icmp .ge 28, 3) := rfl
theorem mi_a42_62 : mi_look mi_m42.1 62 = some (.iload 4, 2) := rfl
theorem mi_a42_64 : mi_look mi_m42.1 64 = some (.sipush 300, 3) := rfl
theorem mi_a42_67 : mi_look mi_m42.1 67 = some (.if_icmp .ge 20, 3) := rfl
theorem mi_a42_70 : mi_look mi_m42.1 70 = some (.aload_n 0, 1) := rfl
theorem mi_a42_71 : mi_look mi_m42.1 71 = some (.aload_n 0, 1) := rfl
theorem mi_a42_72 : mi_look mi_m42.1 72 = some (.getfield 22, 3) := rfl
theorem mi_a42_75 : mi_look mi_m42.1 75 = some (.iload 4, 2) := rfl
theorem mi_a42_77 : mi_look mi_m42.1 77 = some (.aaload, 1) := rfl
theorem mi_a42_78 : mi_look mi_m42.1 78 = some (.invokevirtual 87, 3) := rfl
theorem mi_a42_81 : mi_look mi_m42.1 81 = some (.iinc 4 1, 3) := rfl
theorem mi_a42_84 : mi_look mi_m42.1 84 = some (.goto (-31), 3) := rfl
theorem mi_a42_87 : mi_look mi_m42.1 87 = some (.aload_n 0, 1) := rfl
theorem mi_a42_88 : mi_look mi_m42.1 88 = some (.getfield 80, 3) := rfl
theorem mi_a42_91 : mi_look mi_m42.1 91 = some (.ireturn, 1) := rfl
theorem mi_a43_0 : mi_look mi_m43.1 0 = some (.aload_n 0, 1) := rfl
theorem mi_a43_1 : mi_look mi_m43.1 1 = some (.iload_n 1, 1) := rfl
theorem mi_a43_2 : mi_look mi_m43.1 2 = some (.invokevirtual 41, 3) := rfl
theorem mi_a43_5 : mi_look mi_m43.1 5 = some (.astore_n 3, 1) := rfl
theorem mi_a43_6 : mi_look mi_m43.1 6 = some (.aload_n 3, 1) := rfl
theorem mi_a43_7 : mi_look mi_m43.1 7 = some (.ifnull 10, 3) := rfl
theorem mi_a43_10 : mi_look mi_m43.1 10 = some (.iload_n 2, 1) := rfl
theorem mi_a43_11 : mi_look mi_m43.1 11 = some (.invokestatic 90, 3) := rfl
theorem mi_a43_14 : mi_look mi_m43.1 14 = some (.ifCond .ne 5, 3) := rfl
theorem mi_a43_17 : mi_look mi_m43.1 17 = some (.iconst (-1), 1) := rfl
theorem mi_a43_18 : mi_look mi_m43.1 18 = some (.ireturn, 1) := rfl
theorem mi_a43_19 : mi_look mi_m43.1 19 = some (.aload_n 3, 1) := rfl
theorem mi_a43_20 : mi_look mi_m43.1 20 = some (.iload_n 2, 1) := rfl
theorem mi_a43_21 : mi_look mi_m43.1 21 = some (.invokevirtual 60, 3) := rfl
theorem mi_a43_24 : mi_look mi_m43.1 24 = some (.ifCond .eq 7, 3) := rfl
theorem mi_a43_27 : mi_look mi_m43.1 27 = some (.iconst 1, 1) := rfl
theorem mi_a43_28 : mi_look mi_m43.1 28 = some (.goto 4, 3) := rfl
theorem mi_a43_31 : mi_look mi_m43.1 31 = some (.iconst 0, 1) := rfl
theorem mi_a43_32 : mi_look mi_m43.1 32 = some (.ireturn, 1) := rfl
theorem mi_a44_0 : mi_look mi_m44.1 0 = some (.aload_n 0, 1) := rfl
theorem mi_a44_1 : mi_look mi_m44.1 1 = some (.getfield 10, 3) := rfl
theorem mi_a44_4 : mi_look mi_m44.1 4 = some (.iload_n 1, 1) := rfl
theorem mi_a44_5 : mi_look mi_m44.1 5 = some (.invokevirtual 93, 3) := rfl
theorem mi_a44_8 : mi_look mi_m44.1 8 = some (.ireturn, 1) := rfl
theorem mi_a45_0 : mi_look mi_m45.1 0 = some (.aload_n 0, 1) := rfl
theorem mi_a45_1 : mi_look mi_m45.1 1 = some (.getfield 10, 3) := rfl
theorem mi_a45_4 : mi_look mi_m45.1 4 = some (.getfield 97, 3) := rfl
theorem mi_a45_7 : mi_look mi_m45.1 7 = some (.ireturn, 1) := rfl
theorem mi_a46_0 : mi_look mi_m46.1 0 = some (.aload_n 0, 1) := rfl
theorem mi_a46_1 : mi_look mi_m46.1 1 = some (.iload_n 1, 1) := rfl
theorem mi_a46_2 : mi_look mi_m46.1 2 = some (.invokevirtual 41, 3) := rfl
theorem mi_a46_5 : mi_look mi_m46.1 5 = some (.astore_n 3, 1) := rfl
theorem mi_a46_6 : mi_look mi_m46.1 6 = some (.aload_n 3, 1) := rfl
theorem mi_a46_7 : mi_look mi_m46.1 7 = some (.ifnull 10, 3) := rfl
theorem mi_a46_10 : mi_look mi_m46.1 10 = some (.iload_n 2, 1) := rfl
theorem mi_a46_11 : mi_look mi_m46.1 11 = some (.invokestatic 100, 3) := rfl
theorem mi_a46_14 : mi_look mi_m46.1 14 = some (.ifCond .ne 10, 3) := rfl
theorem mi_a46_17 : mi_look mi_m46.1 17 = some (.aload_n 0, 1) := rfl
theorem mi_a46_18 : mi_look mi_m46.1 18 = some (.iconst 1, 1) := rfl
theorem mi_a46_19 : mi_look mi_m46.1 19 = some (.putfield 31, 3) := rfl
theorem mi_a46_22 : mi_look mi_m46.1 22 = some (.iconst 0, 1) := rfl
theorem mi_a46_23 : mi_look mi_m46.1 23 = some (.ireturn, 1) := rfl
theorem mi_a46_24 : mi_look mi_m46.1 24 = some (.aload_n 0, 1) := rfl
theorem mi_a46_25 : mi_look mi_m46.1 25 = some (.iconst 0, 1) := rfl
theorem mi_a46_26 : mi_look mi_m46.1 26 = some (.putfield 31, 3) := rfl
theorem mi_a46_29 : mi_look mi_m46.1 29 = some (.aload_n 3, 1) := rfl
theorem mi_a46_30 : mi_look mi_m46.1 30 = some (.iload_n 2, 1) := rfl
theorem mi_a46_31 : mi_look mi_m46.1 31 = some (.invokevirtual 103, 3) := rfl
theorem mi_a46_34 : mi_look mi_m46.1 34 = some (.ireturn, 1) := rfl
theorem mi_a47_0 : mi_look mi_m47.1 0 = some (.iload_n 1, 1) := rfl
theorem mi_a47_1 : mi_look mi_m47.1 1 = some (.ifCond .ne 8, 3) := rfl
theorem mi_a47_4 : mi_look mi_m47.1 4 = some (.aload_n 0, 1) := rfl
theorem mi_a47_5 : mi_look mi_m47.1 5 = some (.getfield 35, 3) := rfl
theorem mi_a47_8 : mi_look mi_m47.1 8 = some (.ireturn, 1) := rfl
theorem mi_a47_9 : mi_look mi_m47.1 9 = some (.iload_n 1, 1) := rfl
theorem mi_a47_10 : mi_look mi_m47.1 10 = some (.iconst 1, 1) := rfl
theorem mi_a47_11 : mi_look mi_m47.1 11 = some (.if_icmp .ne 8, 3) := rfl
theorem mi_a47_14 : mi_look mi_m47.1 14 = some (.aload_n 0, 1) := rfl
theorem mi_a47_15 : mi_look mi_m47.1 15 = some (.getfield 70, 3) := rfl
theorem mi_a47_18 : mi_look mi_m47.1 18 = some (.ireturn, 1) := rfl
theorem mi_a47_19 : mi_look mi_m47.1 19 = some (.iload_n 1, 1) := rfl
theorem mi_a47_20 : mi_look mi_m47.1 20 = some (.invokestatic 90, 3) := rfl
theorem mi_a47_23 : mi_look mi_m47.1 23 = some (.ifCond .eq 11, 3) := rfl
theorem mi_a47_26 : mi_look mi_m47.1 26 = some (.aload_n 0, 1) := rfl
theorem mi_a47_27 : mi_look mi_m47.1 27 = some (.iload_n 1, 1) := rfl
theorem mi_a47_28 : mi_look mi_m47.1 28 = some (.invokevirtual 106, 3) := rfl
theorem mi_a47_31 : mi_look mi_m47.1 31 = some (.goto 4, 3) := rfl
theorem mi_a47_34 : mi_look mi_m47.1 34 = some (.iconst (-1), 1) := rfl
theorem mi_a47_35 : mi_look mi_m47.1 35 = some (.ireturn, 1) := rfl
theorem mi_a48_0 : mi_look mi_m48.1 0 = some (.aload_n 0, 1) := rfl
theorem mi_a48_1 : mi_look mi_m48.1 1 = some (.getfield 31, 3) := rfl
theorem mi_a48_4 : mi_look mi_m48.1 4 = some (.ireturn, 1) := rfl
theorem mi_a49_0 : mi_look mi_m49.1 0 = some (.iload_n 1, 1) := rfl
theorem mi_a49_1 : mi_look mi_m49.1 1 = some (.ifCond .lt 18, 3) := rfl
theorem mi_a49_4 : mi_look mi_m49.1 4 = some (.iload_n 1, 1) := rfl
theorem mi_a49_5 : mi_look mi_m49.1 5 = some (.aload_n 0, 1) := rfl
theorem mi_a49_6 : mi_look mi_m49.1 6 = some (.getfield 35, 3) := rfl
theorem mi_a49_9 : mi_look mi_m49.1 9 = some (.if_icmp .ge 10, 3) := rfl
theorem mi_a49_12 : mi_look mi_m49.1 12 = some (.iload_n 1, 1) := rfl
theorem mi_a49_13 : mi_look mi_m49.1 13 = some (.sipush 300, 3) := rfl
theorem mi_a49_16 : mi_look mi_m49.1 16 = some (.if_icmp .lt 5, 3) := rfl
theorem mi_a49_19 : mi_look mi_m49.1 19 = some (.aconst_null, 1) := rfl
theorem mi_a49_20 : mi_look mi_m49.1 20 = some (.areturn, 1) := rfl
theorem mi_a49_21 : mi_look mi_m49.1 21 = some (.aload_n 0, 1) := rfl
theorem mi_a49_22 : mi_look mi_m49.1 22 = some (.getfield 18, 3) := rfl
theorem mi_a49_25 : mi_look mi_m49.1 25 = some (.iload_n 1, 1) := rfl
theorem mi_a49_26 : mi_look mi_m49.1 26 = some (.aaload, 1) := rfl
theorem mi_a49_27 : mi_look mi_m49.1 27 = some (.areturn, 1) := rfl
theorem mi_a50_0 : mi_look mi_m50.1 0 = some (.aload_n 0, 1) := rfl
theorem mi_a50_1 : mi_look mi_m50.1 1 = some (.ifnull 17, 3) := rfl
theorem mi_a50_4 : mi_look mi_m50.1 4 = some (.iload_n 1, 1) := rfl
theorem mi_a50_5 : mi_look mi_m50.1 5 = some (.invokestatic 109, 3) := rfl
theorem mi_a50_8 : mi_look mi_m50.1 8 = some (.ifCond .eq 10, 3) := rfl
theorem mi_a50_11 : mi_look mi_m50.1 11 = some (.iload_n 2, 1) := rfl
theorem mi_a50_12 : mi_look mi_m50.1 12 = some (.invokestatic 90, 3) := rfl
theorem mi_a50_15 : mi_look mi_m50.1 15 = some (.ifCond .ne 5, 3) := rfl
theorem mi_a50_18 : mi_look mi_m50.1 18 = some (.iconst 1, 1) := rfl
theorem mi_a50_19 : mi_look mi_m50.1 19 = some (.ireturn, 1) := rfl
theorem mi_a50_20 : mi_look mi_m50.1 20 = some (.aload_n 0, 1) := rfl
theorem mi_a50_21 : mi_look mi_m50.1 21 = some (.iload_n 2, 1) := rfl
theorem mi_a50_22 : mi_look mi_m50.1 22 = some (.invokevirtual 60, 3) := rfl
theorem mi_a50_25 : mi_look mi_m50.1 25 = some (.ifCond .ne 5, 3) := rfl
theorem mi_a50_28 : mi_look mi_m50.1 28 = some (.iconst 2, 1) := rfl
theorem mi_a50_29 : mi_look mi_m50.1 29 = some (.ireturn, 1) := rfl
theorem mi_a50_30 : mi_look mi_m50.1 30 = some (.aload_n 0, 1) := rfl
theorem mi_a50_31 : mi_look mi_m50.1 31 = some (.iload_n 1, 1) := rfl
theorem mi_a50_32 : mi_look mi_m50.1 32 = some (.iload_n 2, 1) := rfl
theorem mi_a50_33 : mi_look mi_m50.1 33 = some (.invokevirtual 63, 3) := rfl
theorem mi_a50_36 : mi_look mi_m50.1 36 = some (.ifCond .eq 7, 3) := rfl
theorem mi_a50_39 : mi_look mi_m50.1 39 = some (.iconst 0, 1) := rfl
theorem mi_a50_40 : mi_look mi_m50.1 40 = some (.goto 4, 3) := rfl
theorem mi_a50_43 : mi_look mi_m50.1 43 = some (.iconst 3, 1) := rfl
theorem mi_a50_44 : mi_look mi_m50.1 44 = some (.ireturn, 1) := rfl
theorem mi_a51_0 : mi_look mi_m51.1 0 = some (.iload_n 0, 1) := rfl
theorem mi_a51_1 : mi_look mi_m51.1 1 = some (.invokestatic 109, 3) := rfl
theorem mi_a51_4 : mi_look mi_m51.1 4 = some (.ifCond .eq 10, 3) := rfl
theorem mi_a51_7 : mi_look mi_m51.1 7 = some (.iload_n 1, 1) := rfl
theorem mi_a51_8 : mi_look mi_m51.1 8 = some (.invokestatic 90, 3) := rfl
theorem mi_a51_11 : mi_look mi_m51.1 11 = some (.ifCond .ne 5, 3) := rfl
theorem mi_a51_14 : mi_look mi_m51.1 14 = some (.iconst 1, 1) := rfl
theorem mi_a51_15 : mi_look mi_m51.1 15 = some (.ireturn, 1) := rfl
theorem mi_a51_16 : mi_look mi_m51.1 16 = some (.iload_n 1, 1) := rfl
theorem mi_a51_17 : mi_look mi_m51.1 17 = some (.ifCond .eq 14, 3) := rfl
theorem mi_a51_20 : mi_look mi_m51.1 20 = some (.iload_n 1, 1) := rfl
theorem mi_a51_21 : mi_look mi_m51.1 21 = some (.invokestatic 112, 3) := rfl
theorem mi_a51_24 : mi_look mi_m51.1 24 = some (.iload_n 0, 1) := rfl
theorem mi_a51_25 : mi_look mi_m51.1 25 = some (.invokestatic 115, 3) := rfl
theorem mi_a51_28 : mi_look mi_m51.1 28 = some (.ifCond .eq 5, 3) := rfl
theorem mi_a51_31 : mi_look mi_m51.1 31 = some (.iconst 0, 1) := rfl
theorem mi_a51_32 : mi_look mi_m51.1 32 = some (.ireturn, 1) := rfl
theorem mi_a51_33 : mi_look mi_m51.1 33 = some (.iconst 3, 1) := rfl
theorem mi_a51_34 : mi_look mi_m51.1 34 = some (.ireturn, 1) := rfl
theorem mi_a52_0 : mi_look mi_m52.1 0 = some (.iload_n 2, 1) := rfl
theorem mi_a52_1 : mi_look mi_m52.1 1 = some (.bipush 15, 2) := rfl
theorem mi_a52_3 : mi_look mi_m52.1 3 = some (.iand, 1) := rfl
theorem mi_a52_4 : mi_look mi_m52.1 4 = some (.istore 4, 2) := rfl
theorem mi_a52_6 : mi_look mi_m52.1 6 = some (.iload_n 2, 1) := rfl
theorem mi_a52_7 : mi_look mi_m52.1 7 = some (.iconst 4, 1) := rfl
theorem mi_a52_8 : mi_look mi_m52.1 8 = some (.iushr, 1) := rfl
theorem mi_a52_9 : mi_look mi_m52.1 9 = some (.bipush 7, 2) := rfl
theorem mi_a52_11 : mi_look mi_m52.1 11 = some (.iand, 1) := rfl
theorem mi_a52_12 : mi_look mi_m52.1 12 = some (.istore 5, 2) := rfl
theorem mi_a52_14 : mi_look mi_m52.1 14 = some (.iload_n 2, 1) := rfl
theorem mi_a52_15 : mi_look mi_m52.1 15 = some (.sipush 128, 3) := rfl
theorem mi_a52_18 : mi_look mi_m52.1 18 = some (.iand, 1) := rfl
theorem mi_a52_19 : mi_look mi_m52.1 19 = some (.ifCond .ne 7, 3) := rfl
theorem mi_a52_22 : mi_look mi_m52.1 22 = some (.iload_n 3, 1) := rfl
theorem mi_a52_23 : mi_look mi_m52.1 23 = some (.goto 6, 3) := rfl
theorem mi_a52_26 : mi_look mi_m52.1 26 = some (.iconst 0, 1) := rfl
theorem mi_a52_27 : mi_look mi_m52.1 27 = some (.iload_n 3, 1) := rfl
theorem mi_a52_28 : mi_look mi_m52.1 28 = some (.isub, 1) := rfl
theorem mi_a52_29 : mi_look mi_m52.1 29 = some (.istore 6, 2) := rfl
theorem mi_a52_31 : mi_look mi_m52.1 31 = some (.aload_n 1, 1) := rfl
theorem mi_a52_32 : mi_look mi_m52.1 32 = some (.iload 4, 2) := rfl
theorem mi_a52_34 : mi_look mi_m52.1 34 = some (.iload 5, 2) := rfl
theorem mi_a52_36 : mi_look mi_m52.1 36 = some (.invokestatic 45, 3) := rfl
theorem mi_a52_39 : mi_look mi_m52.1 39 = some (.ifCond .ne 19, 3) := rfl
theorem mi_a52_42 : mi_look mi_m52.1 42 = some (.aload_n 0, 1) := rfl
theorem mi_a52_43 : mi_look mi_m52.1 43 = some (.getfield 10, 3) := rfl
theorem mi_a52_46 : mi_look mi_m52.1 46 = some (.aload_n 1, 1) := rfl
theorem mi_a52_47 : mi_look mi_m52.1 47 = some (.iload 4, 2) := rfl
theorem mi_a52_49 : mi_look mi_m52.1 49 = some (.iload 6, 2) := rfl
theorem mi_a52_51 : mi_look mi_m52.1 51 = some (.iconst 0, 1) := rfl
theorem mi_a52_52 : mi_look mi_m52.1 52 = some (.invokevirtual 52, 3) := rfl
theorem mi_a52_55 : mi_look mi_m52.1 55 = some (.goto 4, 3) := rfl
theorem mi_a52_58 : mi_look mi_m52.1 58 = some (.iconst 0, 1) := rfl
theorem mi_a52_59 : mi_look mi_m52.1 59 = some (.ireturn, 1) := rfl
theorem mi_a53_0 : mi_look mi_m53.1 0 = some (.aload_n 0, 1) := rfl
theorem mi_a53_1 : mi_look mi_m53.1 1 = some (.getfield 80, 3) := rfl
theorem mi_a53_4 : mi_look mi_m53.1 4 = some (.sipush 300, 3) := rfl
theorem mi_a53_7 : mi_look mi_m53.1 7 = some (.if_icmp .lt 4, 3) := rfl
theorem mi_a53_10 : mi_look mi_m53.1 10 = some (.return_, 1) := rfl
theorem mi_a53_11 : mi_look mi_m53.1 11 = some (.aload_n 0, 1) := rfl
theorem mi_a53_12 : mi_look mi_m53.1 12 = some (.getfield 22, 3) := rfl
theorem mi_a53_15 : mi_look mi_m53.1 15 = some (.aload_n 0, 1) := rfl
theorem mi_a53_16 : mi_look mi_m53.1 16 = some (.getfield 80, 3) := rfl
theorem mi_a53_19 : mi_look mi_m53.1 19 = some (.aload_n 1, 1) := rfl
theorem mi_a53_20 : mi_look mi_m53.1 20 = some (.aastore, 1) := rfl
theorem mi_a53_21 : mi_look mi_m53.1 21 = some (.aload_n 0, 1) := rfl
theorem mi_a53_22 : mi_look mi_m53.1 22 = some (.dup, 1) := rfl
theorem mi_a53_23 : mi_look mi_m53.1 23 = some (.getfield 80, 3) := rfl
theorem mi_a53_26 : mi_look mi_m53.1 26 = some (.iconst 1, 1) := rfl
theorem mi_a53_27 : mi_look mi_m53.1 27 = some (.iadd, 1) := rfl
theorem mi_a53_28 : mi_look mi_m53.1 28 = some (.putfield 80, 3) := rfl
theorem mi_a53_31 : mi_look mi_m53.1 31 = some (.aload_n 1, 1) := rfl
theorem mi_a53_32 : mi_look mi_m53.1 32 = some (.aload_n 0, 1) := rfl
theorem mi_a53_33 : mi_look mi_m53.1 33 = some (.getfield 77, 3) := rfl
theorem mi_a53_36 : mi_look mi_m53.1 36 = some (.putfield 118, 3) := rfl
theorem mi_a53_39 : mi_look mi_m53.1 39 = some (.aload_n 1, 1) := rfl
theorem mi_a53_40 : mi_look mi_m53.1 40 = some (.dup, 1) := rfl
theorem mi_a53_41 : mi_look mi_m53.1 41 = some (.getfield 119, 3) := rfl
theorem mi_a53_44 : mi_look mi_m53.1 44 = some (.iconst 1, 1) := rfl
theorem mi_a53_45 : mi_look mi_m53.1 45 = some (.iadd, 1) := rfl
theorem mi_a53_46 : mi_look mi_m53.1 46 = some (.putfield 119, 3) := rfl
theorem mi_a53_49 : mi_look mi_m53.1 49 = some (.aload_n 1, 1) := rfl
theorem mi_a53_50 : mi_look mi_m53.1 50 = some (.aload_n 0, 1) := rfl
theorem mi_a53_51 : mi_look mi_m53.1 51 = some (.getfield 10, 3) := rfl
theorem mi_a53_54 : mi_look mi_m53.1 54 = some (.aload_n 1, 1) := rfl
theorem mi_a53_55 : mi_look mi_m53.1 55 = some (.aload_n 1, 1) := rfl
theorem mi_a53_56 : mi_look mi_m53.1 56 = some (.invokevirtual 122, 3) := rfl
theorem mi_a53_59 : mi_look mi_m53.1 59 = some (.iload_n 2, 1) := rfl
theorem mi_a53_60 : mi_look mi_m53.1 60 = some (.iconst 0, 1) := rfl
theorem mi_a53_61 : mi_look mi_m53.1 61 = some (.invokevirtual 52, 3) := rfl
theorem mi_a53_64 : mi_look mi_m53.1 64 = some (.putfield 126, 3) := rfl
theorem mi_a53_67 : mi_look mi_m53.1 67 = some (.return_, 1) := rfl
theorem mi_a54_0 : mi_look mi_m54.1 0 = some (.aload_n 1, 1) := rfl
theorem mi_a54_1 : mi_look mi_m54.1 1 = some (.ifnonnull 4, 3) := rfl
theorem mi_a54_4 : mi_look mi_m54.1 4 = some (.return_, 1) := rfl
theorem mi_a54_5 : mi_look mi_m54.1 5 = some (.aload_n 1, 1) := rfl
theorem mi_a54_6 : mi_look mi_m54.1 6 = some (.getfield 129, 3) := rfl
theorem mi_a54_9 : mi_look mi_m54.1 9 = some (.astore_n 2, 1) := rfl
theorem mi_a54_10 : mi_look mi_m54.1 10 = some (.aload_n 2, 1) := rfl
theorem mi_a54_11 : mi_look mi_m54.1 11 = some (.ifnull 40, 3) := rfl
theorem mi_a54_14 : mi_look mi_m54.1 14 = some (.aload_n 2, 1) := rfl
theorem mi_a54_15 : mi_look mi_m54.1 15 = some (.getfield 133, 3) := rfl
theorem mi_a54_18 : mi_look mi_m54.1 18 = some (.astore_n 3, 1) := rfl
theorem mi_a54_19 : mi_look mi_m54.1 19 = some (.aload_n 3, 1) := rfl
theorem mi_a54_20 : mi_look mi_m54.1 20 = some (.ifnull 23, 3) := rfl
theorem mi_a54_23 : mi_look mi_m54.1 23 = some (.aload_n 3, 1) := rfl
theorem mi_a54_24 : mi_look mi_m54.1 24 = some (.getfield 118, 3) := rfl
theorem mi_a54_27 : mi_look mi_m54.1 27 = some (.aload_n 0, 1) := rfl
theorem mi_a54_28 : mi_look mi_m54.1 28 = some (.getfield 77, 3) := rfl
theorem mi_a54_31 : mi_look mi_m54.1 31 = some (.if_icmp .eq 12, 3) := rfl
theorem mi_a54_34 : mi_look mi_m54.1 34 = some (.aload_n 0, 1) := rfl
theorem mi_a54_35 : mi_look mi_m54.1 35 = some (.aload_n 3, 1) := rfl
theorem mi_a54_36 : mi_look mi_m54.1 36 = some (.aload_n 1, 1) := rfl
theorem mi_a54_37 : mi_look mi_m54.1 37 = some (.getfield 126, 3) := rfl
theorem mi_a54_40 : mi_look mi_m54.1 40 = some (.invokevirtual 83, 3) := rfl
theorem mi_a54_43 : mi_look mi_m54.1 43 = some (.aload_n 2, 1) := rfl
theorem mi_a54_44 : mi_look mi_m54.1 44 = some (.getfield 139, 3) := rfl
theorem mi_a54_47 : mi_look mi_m54.1 47 = some (.astore_n 2, 1) := rfl
theorem mi_a54_48 : mi_look mi_m54.1 48 = some (.goto (-38), 3) := rfl
theorem mi_a54_51 : mi_look mi_m54.1 51 = some (.return_, 1) := rfl
theorem mi_a55_0 : mi_look mi_m55.1 0 = some (.iconst 0, 1) := rfl
theorem mi_a55_1 : mi_look mi_m55.1 1 = some (.istore_n 2, 1) := rfl
theorem mi_a55_2 : mi_look mi_m55.1 2 = some (.iconst 0, 1) := rfl
theorem mi_a55_3 : mi_look mi_m55.1 3 = some (.istore_n 3, 1) := rfl
theorem mi_a55_4 : mi_look mi_m55.1 4 = some (.iload_n 3, 1) := rfl
theorem mi_a55_5 : mi_look mi_m55.1 5 = some (.aload_n 0, 1) := rfl
theorem mi_a55_6 : mi_look mi_m55.1 6 = some (.getfield 35, 3) := rfl
theorem mi_a55_9 : mi_look mi_m55.1 9 = some (.if_icmp .ge 41, 3) := rfl
theorem mi_a55_12 : mi_look mi_m55.1 12 = some (.iload_n 3, 1) := rfl
theorem mi_a55_13 : mi_look mi_m55.1 13 = some (.sipush 300, 3) := rfl
theorem mi_a55_16 : mi_look mi_m55.1 16 = some (.if_icmp .ge 34, 3) := rfl
theorem mi_a55_19 : mi_look mi_m55.1 19 = some (.aload_n 0, 1) := rfl
theorem mi_a55_20 : mi_look mi_m55.1 20 = some (.getfield 18, 3) := rfl
theorem mi_a55_23 : mi_look mi_m55.1 23 = some (.iload_n 3, 1) := rfl
theorem mi_a55_24 : mi_look mi_m55.1 24 = some (.aaload, 1) := rfl
theorem mi_a55_25 : mi_look mi_m55.1 25 = some (.astore 4, 2) := rfl
theorem mi_a55_27 : mi_look mi_m55.1 27 = some (.aload 4, 2) := rfl
theorem mi_a55_29 : mi_look mi_m55.1 29 = some (.ifnull 15, 3) := rfl
theorem mi_a55_32 : mi_look mi_m55.1 32 = some (.aload 4, 2) := rfl
theorem mi_a55_34 : mi_look mi_m55.1 34 = some (.iload_n 1, 1) := rfl
theorem mi_a55_35 : mi_look mi_m55.1 35 = some (.invokevirtual 60, 3) := rfl
theorem mi_a55_38 : mi_look mi_m55.1 38 = some (.ifCond .eq 6, 3) := rfl
theorem mi_a55_41 : mi_look mi_m55.1 41 = some (.iinc 2 1, 3) := rfl
theorem mi_a55_44 : mi_look mi_m55.1 44 = some (.iinc 3 1, 3) := rfl
theorem mi_a55_47 : mi_look mi_m55.1 47 = some (.goto (-43), 3) := rfl
theorem mi_a55_50 : mi_look mi_m55.1 50 = some (.iload_n 2, 1) := rfl
theorem mi_a55_51 : mi_look mi_m55.1 51 = some (.ireturn, 1) := rfl
theorem mi_a57_0 : mi_look mi_m57.1 0 = some (.iconst 1, 1) := rfl
theorem mi_a57_1 : mi_look mi_m57.1 1 = some (.iload_n 0, 1) := rfl
theorem mi_a57_2 : mi_look mi_m57.1 2 = some (.ishl, 1) := rfl
theorem mi_a57_3 : mi_look mi_m57.1 3 = some (.ireturn, 1) := rfl
theorem mi_a63_0 : mi_look mi_m63.1 0 = some (.aload_n 0, 1) := rfl
theorem mi_a63_1 : mi_look mi_m63.1 1 = some (.getfield 74, 3) := rfl
theorem mi_a63_4 : mi_look mi_m63.1 4 = some (.aload_n 0, 1) := rfl
theorem mi_a63_5 : mi_look mi_m63.1 5 = some (.getfield 98, 3) := rfl
theorem mi_a63_8 : mi_look mi_m63.1 8 = some (.iload_n 1, 1) := rfl
theorem mi_a63_9 : mi_look mi_m63.1 9 = some (.iastore, 1) := rfl
theorem mi_a63_10 : mi_look mi_m63.1 10 = some (.aload_n 0, 1) := rfl
theorem mi_a63_11 : mi_look mi_m63.1 11 = some (.dup, 1) := rfl
theorem mi_a63_12 : mi_look mi_m63.1 12 = some (.getfield 98, 3) := rfl
theorem mi_a63_15 : mi_look mi_m63.1 15 = some (.iconst 1, 1) := rfl
theorem mi_a63_16 : mi_look mi_m63.1 16 = some (.iadd, 1) := rfl
theorem mi_a63_17 : mi_look mi_m63.1 17 = some (.putfield 98, 3) := rfl
theorem mi_a63_20 : mi_look mi_m63.1 20 = some (.return_, 1) := rfl
theorem mi_a64_0 : mi_look mi_m64.1 0 = some (.aload_n 0, 1) := rfl
theorem mi_a64_1 : mi_look mi_m64.1 1 = some (.dup, 1) := rfl
theorem mi_a64_2 : mi_look mi_m64.1 2 = some (.getfield 98, 3) := rfl
theorem mi_a64_5 : mi_look mi_m64.1 5 = some (.iconst 1, 1) := rfl
theorem mi_a64_6 : mi_look mi_m64.1 6 = some (.isub, 1) := rfl
theorem mi_a64_7 : mi_look mi_m64.1 7 = some (.putfield 98, 3) := rfl
theorem mi_a64_10 : mi_look mi_m64.1 10 = some (.aload_n 0, 1) := rfl
theorem mi_a64_11 : mi_look mi_m64.1 11 = some (.getfield 74, 3) := rfl
theorem mi_a64_14 : mi_look mi_m64.1 14 = some (.aload_n 0, 1) := rfl
theorem mi_a64_15 : mi_look mi_m64.1 15 = some (.getfield 98, 3) := rfl
theorem mi_a64_18 : mi_look mi_m64.1 18 = some (.iaload, 1) := rfl
theorem mi_a64_19 : mi_look mi_m64.1 19 = some (.ireturn, 1) := rfl
theorem mi_a65_0 : mi_look mi_m65.1 0 = some (.aload_n 0, 1) := rfl
theorem mi_a65_1 : mi_look mi_m65.1 1 = some (.getfield 102, 3) := rfl
theorem mi_a65_4 : mi_look mi_m65.1 4 = some (.bipush 64, 2) := rfl
theorem mi_a65_6 : mi_look mi_m65.1 6 = some (.if_icmp .ge 13, 3) := rfl
theorem mi_a65_9 : mi_look mi_m65.1 9 = some (.aload_n 0, 1) := rfl
theorem mi_a65_10 : mi_look mi_m65.1 10 = some (.getfield 62, 3) := rfl
theorem mi_a65_13 : mi_look mi_m65.1 13 = some (.aload_n 0, 1) := rfl
theorem mi_a65_14 : mi_look mi_m65.1 14 = some (.getfield 102, 3) := rfl
theorem mi_a65_17 : mi_look mi_m65.1 17 = some (.iload_n 1, 1) := rfl
theorem mi_a65_18 : mi_look mi_m65.1 18 = some (.iastore, 1) := rfl
theorem mi_a65_19 : mi_look mi_m65.1 19 = some (.aload_n 0, 1) := rfl
theorem mi_a65_20 : mi_look mi_m65.1 20 = some (.dup, 1) := rfl
theorem mi_a65_21 : mi_look mi_m65.1 21 = some (.getfield 102, 3) := rfl
theorem mi_a65_24 : mi_look mi_m65.1 24 = some (.iconst 1, 1) := rfl
theorem mi_a65_25 : mi_look mi_m65.1 25 = some (.iadd, 1) := rfl
theorem mi_a65_26 : mi_look mi_m65.1 26 = some (.putfield 102, 3) := rfl
theorem mi_a65_29 : mi_look mi_m65.1 29 = some (.aload_n 0, 1) := rfl
theorem mi_a65_30 : mi_look mi_m65.1 30 = some (.getfield 65, 3) := rfl
theorem mi_a65_33 : mi_look mi_m65.1 33 = some (.aload_n 0, 1) := rfl
theorem mi_a65_34 : mi_look mi_m65.1 34 = some (.getfield 105, 3) := rfl
theorem mi_a65_37 : mi_look mi_m65.1 37 = some (.iload_n 1, 1) := rfl
theorem mi_a65_38 : mi_look mi_m65.1 38 = some (.iastore, 1) := rfl
theorem mi_a65_39 : mi_look mi_m65.1 39 = some (.aload_n 0, 1) := rfl
theorem mi_a65_40 : mi_look mi_m65.1 40 = some (.getfield 68, 3) := rfl
theorem mi_a65_43 : mi_look mi_m65.1 43 = some (.aload_n 0, 1) := rfl
theorem mi_a65_44 : mi_look mi_m65.1 44 = some (.getfield 105, 3) := rfl
theorem mi_a65_47 : mi_look mi_m65.1 47 = some (.aload_n 0, 1) := rfl
theorem mi_a65_48 : mi_look mi_m65.1 48 = some (.getfield 13, 3) := rfl
theorem mi_a65_51 : mi_look mi_m65.1 51 = some (.iload_n 1, 1) := rfl
theorem mi_a65_52 : mi_look mi_m65.1 52 = some (.iaload, 1) := rfl
theorem mi_a65_53 : mi_look mi_m65.1 53 = some (.iastore, 1) := rfl
theorem mi_a65_54 : mi_look mi_m65.1 54 = some (.aload_n 0, 1) := rfl
theorem mi_a65_55 : mi_look mi_m65.1 55 = some (.getfield 71, 3) := rfl
theorem mi_a65_58 : mi_look mi_m65.1 58 = some (.aload_n 0, 1) := rfl
theorem mi_a65_59 : mi_look mi_m65.1 59 = some (.getfield 105, 3) := rfl
theorem mi_a65_62 : mi_look mi_m65.1 62 = some (.iload_n 2, 1) := rfl
theorem mi_a65_63 : mi_look mi_m65.1 63 = some (.iastore, 1) := rfl
theorem mi_a65_64 : mi_look mi_m65.1 64 = some (.aload_n 0, 1) := rfl
theorem mi_a65_65 : mi_look mi_m65.1 65 = some (.dup, 1) := rfl
theorem mi_a65_66 : mi_look mi_m65.1 66 = some (.getfield 105, 3) := rfl
theorem mi_a65_69 : mi_look mi_m65.1 69 = some (.iconst 1, 1) := rfl
theorem mi_a65_70 : mi_look mi_m65.1 70 = some (.iadd, 1) := rfl
theorem mi_a65_71 : mi_look mi_m65.1 71 = some (.putfield 105, 3) := rfl
theorem mi_a65_74 : mi_look mi_m65.1 74 = some (.return_, 1) := rfl
theorem mi_a66_0 : mi_look mi_m66.1 0 = some (.aload_n 0, 1) := rfl
theorem mi_a66_1 : mi_look mi_m66.1 1 = some (.iconst 0, 1) := rfl
theorem mi_a66_2 : mi_look mi_m66.1 2 = some (.putfield 105, 3) := rfl
theorem mi_a66_5 : mi_look mi_m66.1 5 = some (.aload_n 0, 1) := rfl
theorem mi_a66_6 : mi_look mi_m66.1 6 = some (.iconst 0, 1) := rfl
theorem mi_a66_7 : mi_look mi_m66.1 7 = some (.putfield 98, 3) := rfl
theorem mi_a66_10 : mi_look mi_m66.1 10 = some (.aload_n 0, 1) := rfl
theorem mi_a66_11 : mi_look mi_m66.1 11 = some (.aload_n 0, 1) := rfl
theorem mi_a66_12 : mi_look mi_m66.1 12 = some (.getfield 25, 3) := rfl
theorem mi_a66_15 : mi_look mi_m66.1 15 = some (.bipush 10, 2) := rfl
theorem mi_a66_17 : mi_look mi_m66.1 17 = some (.aload_n 0, 1) := rfl
theorem mi_a66_18 : mi_look mi_m66.1 18 = some (.getfield 34, 3) := rfl
theorem mi_a66_21 : mi_look mi_m66.1 21 = some (.iload_n 1, 1) := rfl
theorem mi_a66_22 : mi_look mi_m66.1 22 = some (.iaload, 1) := rfl
theorem mi_a66_23 : mi_look mi_m66.1 23 = some (.iadd, 1) := rfl
theorem mi_a66_24 : mi_look mi_m66.1 24 = some (.bipush 12, 2) := rfl
theorem mi_a66_26 : mi_look mi_m66.1 26 = some (.imul, 1) := rfl
theorem mi_a66_27 : mi_look mi_m66.1 27 = some (.iload_n 2, 1) := rfl
theorem mi_a66_28 : mi_look mi_m66.1 28 = some (.iadd, 1) := rfl
theorem mi_a66_29 : mi_look mi_m66.1 29 = some (.iaload, 1) := rfl
theorem mi_a66_30 : mi_look mi_m66.1 30 = some (.iload_n 3, 1) := rfl
theorem mi_a66_31 : mi_look mi_m66.1 31 = some (.invokevirtual 108, 3) := rfl
theorem mi_a66_34 : mi_look mi_m66.1 34 = some (.aload_n 0, 1) := rfl
theorem mi_a66_35 : mi_look mi_m66.1 35 = some (.getfield 105, 3) := rfl
theorem mi_a66_38 : mi_look mi_m66.1 38 = some (.ifCond .le 224, 3) := rfl
theorem mi_a66_41 : mi_look mi_m66.1 41 = some (.aload_n 0, 1) := rfl
theorem mi_a66_42 : mi_look mi_m66.1 42 = some (.getfield 105, 3) := rfl
theorem mi_a66_45 : mi_look mi_m66.1 45 = some (.iconst 1, 1) := rfl
theorem mi_a66_46 : mi_look mi_m66.1 46 = some (.isub, 1) := rfl
theorem mi_a66_47 : mi_look mi_m66.1 47 = some (.istore 4, 2) := rfl
theorem mi_a66_49 : mi_look mi_m66.1 49 = some (.aload_n 0, 1) := rfl
theorem mi_a66_50 : mi_look mi_m66.1 50 = some (.getfield 9, 3) := rfl
theorem mi_a66_53 : mi_look mi_m66.1 53 = some (.aload_n 0, 1) := rfl
theorem mi_a66_54 : mi_look mi_m66.1 54 = some (.getfield 68, 3) := rfl
theorem mi_a66_57 : mi_look mi_m66.1 57 = some (.iload 4, 2) := rfl
theorem mi_a66_59 : mi_look mi_m66.1 59 = some (.iaload, 1) := rfl
theorem mi_a66_60 : mi_look mi_m66.1 60 = some (.iaload, 1) := rfl
theorem mi_a66_61 : mi_look mi_m66.1 61 = some (.istore 5, 2) := rfl
theorem mi_a66_63 : mi_look mi_m66.1 63 = some (.aload_n 0, 1) := rfl
theorem mi_a66_64 : mi_look mi_m66.1 64 = some (.getfield 68, 3) := rfl
theorem mi_a66_67 : mi_look mi_m66.1 67 = some (.iload 4, 2) := rfl
theorem mi_a66_69 : mi_look mi_m66.1 69 = some (.dup2, 1) := rfl
theorem mi_a66_70 : mi_look mi_m66.1 70 = some (.iaload, 1) := rfl
theorem mi_a66_71 : mi_look mi_m66.1 71 = some (.iconst 1, 1) := rfl
theorem mi_a66_72 : mi_look mi_m66.1 72 = some (.iadd, 1) := rfl
theorem mi_a66_73 : mi_look mi_m66.1 73 = some (.iastore, 1) := rfl
theorem mi_a66_74 : mi_look mi_m66.1 74 = some (.iload 5, 2) := rfl
theorem mi_a66_76 : mi_look mi_m66.1 76 = some (.sipush 3000, 3) := rfl
theorem mi_a66_79 : mi_look mi_m66.1 79 = some (.if_icmp .lt 16, 3) := rfl
theorem mi_a66_82 : mi_look mi_m66.1 82 = some (.aload_n 0, 1) := rfl
theorem mi_a66_83 : mi_look mi_m66.1 83 = some (.dup, 1) := rfl
theorem mi_a66_84 : mi_look mi_m66.1 84 = some (.getfield 105, 3) := rfl
theorem mi_a66_87 : mi_look mi_m66.1 87 = some (.iconst 1, 1) := rfl
theorem mi_a66_88 : mi_look mi_m66.1 88 = some (.isub, 1) := rfl
theorem mi_a66_89 : mi_look mi_m66.1 89 = some (.putfield 105, 3) := rfl
theorem mi_a66_92 : mi_look mi_m66.1 92 = some (.goto 167, 3) := rfl
theorem mi_a66_95 : mi_look mi_m66.1 95 = some (.iload 5, 2) := rfl
theorem mi_a66_97 : mi_look mi_m66.1 97 = some (.sipush 2000, 3) := rfl
theorem mi_a66_100 : mi_look mi_m66.1 100 = some (.if_icmp .lt 20, 3) := rfl
theorem mi_a66_103 : mi_look mi_m66.1 103 = some (.aload_n 0, 1) := rfl
theorem mi_a66_104 : mi_look mi_m66.1 104 = some (.iload 5, 2) := rfl
theorem mi_a66_106 : mi_look mi_m66.1 106 = some (.sipush 2000, 3) := rfl
theorem mi_a66_109 : mi_look mi_m66.1 109 = some (.isub, 1) := rfl
theorem mi_a66_110 : mi_look mi_m66.1 110 = some (.aload_n 0, 1) := rfl
theorem mi_a66_111 : mi_look mi_m66.1 111 = some (.invokevirtual 112, 3) := rfl
theorem mi_a66_114 : mi_look mi_m66.1 114 = some (.invokevirtual 108, 3) := rfl
theorem mi_a66_117 : mi_look mi_m66.1 117 = some (.goto 142, 3) := rfl
theorem mi_a66_120 : mi_look mi_m66.1 120 = some (.iload 5, 2) := rfl
theorem mi_a66_122 : mi_look mi_m66.1 122 = some (.sipush 1312, 3) := rfl
theorem mi_a66_125 : mi_look mi_m66.1 125 = some (.if_icmp .lt 28, 3) := rfl
theorem mi_a66_128 : mi_look mi_m66.1 128 = some (.aload_n 0, 1) := rfl
theorem mi_a66_129 : mi_look mi_m66.1 129 = some (.aload_n 0, 1) := rfl
theorem mi_a66_130 : mi_look mi_m66.1 130 = some (.getfield 25, 3) := rfl
theorem mi_a66_133 : mi_look mi_m66.1 133 = some (.iload 5, 2) := rfl
theorem mi_a66_135 : mi_look mi_m66.1 135 = some (.sipush 1312, 3) := rfl
theorem mi_a66_138 : mi_look mi_m66.1 138 = some (.isub, 1) := rfl
theorem mi_a66_139 : mi_look mi_m66.1 139 = some (.bipush 12, 2) := rfl
theorem mi_a66_141 : mi_look mi_m66.1 141 = some (.iadd, 1) := rfl
theorem mi_a66_142 : mi_look mi_m66.1 142 = some (.iaload, 1) := rfl
theorem mi_a66_143 : mi_look mi_m66.1 143 = some (.aload_n 0, 1) := rfl
theorem mi_a66_144 : mi_look mi_m66.1 144 = some (.invokevirtual 112, 3) := rfl
theorem mi_a66_147 : mi_look mi_m66.1 147 = some (.invokevirtual 108, 3) := rfl
theorem mi_a66_150 : mi_look mi_m66.1 150 = some (.goto 109, 3) := rfl
theorem mi_a66_153 : mi_look mi_m66.1 153 = some (.iload 5, 2) := rfl
theorem mi_a66_155 : mi_look mi_m66.1 155 = some (.sipush 1200, 3) := rfl
theorem mi_a66_158 : mi_look mi_m66.1 158 = some (.if_icmp .lt 44, 3) := rfl
theorem mi_a66_161 : mi_look mi_m66.1 161 = some (.aload_n 0, 1) := rfl
theorem mi_a66_162 : mi_look mi_m66.1 162 = some (.aload_n 0, 1) := rfl
theorem mi_a66_163 : mi_look mi_m66.1 163 = some (.getfield 25, 3) := rfl
theorem mi_a66_166 : mi_look mi_m66.1 166 = some (.aload_n 0, 1) := rfl
theorem mi_a66_167 : mi_look mi_m66.1 167 = some (.getfield 16, 3) := rfl
theorem mi_a66_170 : mi_look mi_m66.1 170 = some (.aload_n 0, 1) := rfl
theorem mi_a66_171 : mi_look mi_m66.1 171 = some (.getfield 65, 3) := rfl
theorem mi_a66_174 : mi_look mi_m66.1 174 = some (.iload 4, 2) := rfl
theorem mi_a66_176 : mi_look mi_m66.1 176 = some (.iaload, 1) := rfl
theorem mi_a66_177 : mi_look mi_m66.1 177 = some (.bipush 10, 2) := rfl
theorem mi_a66_179 : mi_look mi_m66.1 179 = some (.idiv, 1) := rfl
theorem mi_a66_180 : mi_look mi_m66.1 180 = some (.iaload, 1) := rfl
theorem mi_a66_181 : mi_look mi_m66.1 181 = some (.bipush 12, 2) := rfl
theorem mi_a66_183 : mi_look mi_m66.1 183 = some (.imul, 1) := rfl
theorem mi_a66_184 : mi_look mi_m66.1 184 = some (.iload 5, 2) := rfl
theorem mi_a66_186 : mi_look mi_m66.1 186 = some (.iadd, 1) := rfl
theorem mi_a66_187 : mi_look mi_m66.1 187 = some (.sipush 1200, 3) := rfl
theorem mi_a66_190 : mi_look mi_m66.1 190 = some (.isub, 1) := rfl
theorem mi_a66_191 : mi_look mi_m66.1 191 = some (.iaload, 1) := rfl
theorem mi_a66_192 : mi_look mi_m66.1 192 = some (.aload_n 0, 1) := rfl
theorem mi_a66_193 : mi_look mi_m66.1 193 = some (.invokevirtual 112, 3) := rfl
theorem mi_a66_196 : mi_look mi_m66.1 196 = some (.invokevirtual 108, 3) := rfl
theorem mi_a66_199 : mi_look mi_m66.1 199 = some (.goto 60, 3) := rfl
theorem mi_a66_202 : mi_look mi_m66.1 202 = some (.iload 5, 2) := rfl
theorem mi_a66_204 : mi_look mi_m66.1 204 = some (.sipush 1100, 3) := rfl
theorem mi_a66_207 : mi_look mi_m66.1 207 = some (.if_icmp .lt 38, 3) := rfl
theorem mi_a66_210 : mi_look mi_m66.1 210 = some (.aload_n 0, 1) := rfl
theorem mi_a66_211 : mi_look mi_m66.1 211 = some (.aload_n 0, 1) := rfl
theorem mi_a66_212 : mi_look mi_m66.1 212 = some (.getfield 25, 3) := rfl
theorem mi_a66_215 : mi_look mi_m66.1 215 = some (.bipush 10, 2) := rfl
theorem mi_a66_217 : mi_look mi_m66.1 217 = some (.aload_n 0, 1) := rfl
theorem mi_a66_218 : mi_look mi_m66.1 218 = some (.getfield 34, 3) := rfl
theorem mi_a66_221 : mi_look mi_m66.1 221 = some (.iload_n 1, 1) := rfl
theorem mi_a66_222 : mi_look mi_m66.1 222 = some (.iaload, 1) := rfl
theorem mi_a66_223 : mi_look mi_m66.1 223 = some (.iadd, 1) := rfl
theorem mi_a66_224 : mi_look mi_m66.1 224 = some (.bipush 12, 2) := rfl
theorem mi_a66_226 : mi_look mi_m66.1 226 = some (.imul, 1) := rfl
theorem mi_a66_227 : mi_look mi_m66.1 227 = some (.iload 5, 2) := rfl
theorem mi_a66_229 : mi_look mi_m66.1 229 = some (.iadd, 1) := rfl
theorem mi_a66_230 : mi_look mi_m66.1 230 = some (.sipush 1100, 3) := rfl
theorem mi_a66_233 : mi_look mi_m66.1 233 = some (.isub, 1) := rfl
theorem mi_a66_234 : mi_look mi_m66.1 234 = some (.iaload, 1) := rfl
theorem mi_a66_235 : mi_look mi_m66.1 235 = some (.aload_n 0, 1) := rfl
theorem mi_a66_236 : mi_look mi_m66.1 236 = some (.invokevirtual 112, 3) := rfl
theorem mi_a66_239 : mi_look mi_m66.1 239 = some (.invokevirtual 108, 3) := rfl
theorem mi_a66_242 : mi_look mi_m66.1 242 = some (.goto 17, 3) := rfl
theorem mi_a66_245 : mi_look mi_m66.1 245 = some (.aload_n 0, 1) := rfl
theorem mi_a66_246 : mi_look mi_m66.1 246 = some (.iload_n 1, 1) := rfl
theorem mi_a66_247 : mi_look mi_m66.1 247 = some (.iload 5, 2) := rfl
theorem mi_a66_249 : mi_look mi_m66.1 249 = some (.aload_n 0, 1) := rfl
theorem mi_a66_250 : mi_look mi_m66.1 250 = some (.getfield 71, 3) := rfl
theorem mi_a66_253 : mi_look mi_m66.1 253 = some (.iload 4, 2) := rfl
theorem mi_a66_255 : mi_look mi_m66.1 255 = some (.iaload, 1) := rfl
theorem mi_a66_256 : mi_look mi_m66.1 256 = some (.invokevirtual 116, 3) := rfl
theorem mi_a66_259 : mi_look mi_m66.1 259 = some (.goto (-225), 3) := rfl
theorem mi_a66_262 : mi_look mi_m66.1 262 = some (.aload_n 0, 1) := rfl
theorem mi_a66_263 : mi_look mi_m66.1 263 = some (.invokevirtual 112, 3) := rfl
theorem mi_a66_266 : mi_look mi_m66.1 266 = some (.ireturn, 1) := rfl
theorem mi_a67_0 : mi_look mi_m67.1 0 = some (.iload_n 2, 1) := rfl
theorem mi_a67_1 : mi_look mi_m67.1 1 = some (.sipush 1000, 3) := rfl
theorem mi_a67_4 : mi_look mi_m67.1 4 = some (.if_icmp .ge 9, 3) := rfl
theorem mi_a67_7 : mi_look mi_m67.1 7 = some (.aload_n 0, 1) := rfl
theorem mi_a67_8 : mi_look mi_m67.1 8 = some (.iload_n 2, 1) := rfl
theorem mi_a67_9 : mi_look mi_m67.1 9 = some (.invokevirtual 119, 3) := rfl
theorem mi_a67_12 : mi_look mi_m67.1 12 = some (.return_, 1) := rfl
theorem mi_a67_13 : mi_look mi_m67.1 13 = some (.iload_n 2, 1) := rfl
theorem mi_a67_14 : mi_look mi_m67.1 14 = some (.tableswitch 104 1000 1009 #[54, 60, 71, 104, 104, 104, 104, 104, 82, 93], 54) := rfl
theorem mi_a67_68 : mi_look mi_m67.1 68 = some (.aload_n 0, 1) := rfl
theorem mi_a67_69 : mi_look mi_m67.1 69 = some (.iload_n 3, 1) := rfl
theorem mi_a67_70 : mi_look mi_m67.1 70 = some (.invokevirtual 119, 3) := rfl
theorem mi_a67_73 : mi_look mi_m67.1 73 = some (.return_, 1) := rfl
theorem mi_a67_74 : mi_look mi_m67.1 74 = some (.aload_n 0, 1) := rfl
theorem mi_a67_75 : mi_look mi_m67.1 75 = some (.aload_n 0, 1) := rfl
theorem mi_a67_76 : mi_look mi_m67.1 76 = some (.getfield 37, 3) := rfl
theorem mi_a67_79 : mi_look mi_m67.1 79 = some (.iload_n 1, 1) := rfl
theorem mi_a67_80 : mi_look mi_m67.1 80 = some (.iaload, 1) := rfl
theorem mi_a67_81 : mi_look mi_m67.1 81 = some (.invokevirtual 119, 3) := rfl
theorem mi_a67_84 : mi_look mi_m67.1 84 = some (.return_, 1) := rfl
theorem mi_a67_85 : mi_look mi_m67.1 85 = some (.aload_n 0, 1) := rfl
theorem mi_a67_86 : mi_look mi_m67.1 86 = some (.aload_n 0, 1) := rfl
theorem mi_a67_87 : mi_look mi_m67.1 87 = some (.getfield 40, 3) := rfl
theorem mi_a67_90 : mi_look mi_m67.1 90 = some (.iload_n 1, 1) := rfl
theorem mi_a67_91 : mi_look mi_m67.1 91 = some (.iaload, 1) := rfl
theorem mi_a67_92 : mi_look mi_m67.1 92 = some (.invokevirtual 119, 3) := rfl
theorem mi_a67_95 : mi_look mi_m67.1 95 = some (.return_, 1) := rfl
theorem mi_a67_96 : mi_look mi_m67.1 96 = some (.aload_n 0, 1) := rfl
theorem mi_a67_97 : mi_look mi_m67.1 97 = some (.getfield 37, 3) := rfl
theorem mi_a67_100 : mi_look mi_m67.1 100 = some (.iload_n 1, 1) := rfl
theorem mi_a67_101 : mi_look mi_m67.1 101 = some (.aload_n 0, 1) := rfl
theorem mi_a67_102 : mi_look mi_m67.1 102 = some (.invokevirtual 112, 3) := rfl
theorem mi_a67_105 : mi_look mi_m67.1 105 = some (.iastore, 1) := rfl
theorem mi_a67_106 : mi_look mi_m67.1 106 = some (.return_, 1) := rfl
theorem mi_a67_107 : mi_look mi_m67.1 107 = some (.aload_n 0, 1) := rfl
theorem mi_a67_108 : mi_look mi_m67.1 108 = some (.getfield 40, 3) := rfl
theorem mi_a67_111 : mi_look mi_m67.1 111 = some (.iload_n 1, 1) := rfl
theorem mi_a67_112 : mi_look mi_m67.1 112 = some (.aload_n 0, 1) := rfl
theorem mi_a67_113 : mi_look mi_m67.1 113 = some (.invokevirtual 112, 3) := rfl
theorem mi_a67_116 : mi_look mi_m67.1 116 = some (.iastore, 1) := rfl
theorem mi_a67_117 : mi_look mi_m67.1 117 = some (.return_, 1) := rfl
theorem mi_a67_118 : mi_look mi_m67.1 118 = some (.aload_n 0, 1) := rfl
theorem mi_a67_119 : mi_look mi_m67.1 119 = some (.invokevirtual 112, 3) := rfl
theorem mi_a67_122 : mi_look mi_m67.1 122 = some (.istore 4, 2) := rfl
theorem mi_a67_124 : mi_look mi_m67.1 124 = some (.aload_n 0, 1) := rfl
theorem mi_a67_125 : mi_look mi_m67.1 125 = some (.invokevirtual 112, 3) := rfl
theorem mi_a67_128 : mi_look mi_m67.1 128 = some (.istore 5, 2) := rfl
theorem mi_a67_130 : mi_look mi_m67.1 130 = some (.aload_n 0, 1) := rfl
theorem mi_a67_131 : mi_look mi_m67.1 131 = some (.iload_n 2, 1) := rfl
theorem mi_a67_132 : mi_look mi_m67.1 132 = some (.sipush 1003, 3) := rfl
theorem mi_a67_135 : mi_look mi_m67.1 135 = some (.if_icmp .ne 11, 3) := rfl
theorem mi_a67_138 : mi_look mi_m67.1 138 = some (.iload 5, 2) := rfl
theorem mi_a67_140 : mi_look mi_m67.1 140 = some (.iload 4, 2) := rfl
theorem mi_a67_142 : mi_look mi_m67.1 142 = some (.iadd, 1) := rfl
theorem mi_a67_143 : mi_look mi_m67.1 143 = some (.goto 53, 3) := rfl
theorem mi_a67_146 : mi_look mi_m67.1 146 = some (.iload_n 2, 1) := rfl
theorem mi_a67_147 : mi_look mi_m67.1 147 = some (.sipush 1004, 3) := rfl
theorem mi_a67_150 : mi_look mi_m67.1 150 = some (.if_icmp .ne 11, 3) := rfl
theorem mi_a67_153 : mi_look mi_m67.1 153 = some (.iload 5, 2) := rfl
theorem mi_a67_155 : mi_look mi_m67.1 155 = some (.iload 4, 2) := rfl
theorem mi_a67_157 : mi_look mi_m67.1 157 = some (.isub, 1) := rfl
theorem mi_a67_158 : mi_look mi_m67.1 158 = some (.goto 38, 3) := rfl
theorem mi_a67_161 : mi_look mi_m67.1 161 = some (.iload_n 2, 1) := rfl
theorem mi_a67_162 : mi_look mi_m67.1 162 = some (.sipush 1005, 3) := rfl
theorem mi_a67_165 : mi_look mi_m67.1 165 = some (.if_icmp .ne 11, 3) := rfl
theorem mi_a67_168 : mi_look mi_m67.1 168 = some (.iload 5, 2) := rfl
theorem mi_a67_170 : mi_look mi_m67.1 170 = some (.iload 4, 2) := rfl
theorem mi_a67_172 : mi_look mi_m67.1 172 = some (.imul, 1) := rfl
theorem mi_a67_173 : mi_look mi_m67.1 173 = some (.goto 23, 3) := rfl
theorem mi_a67_176 : mi_look mi_m67.1 176 = some (.iload_n 2, 1) := rfl
theorem mi_a67_177 : mi_look mi_m67.1 177 = some (.sipush 1006, 3) := rfl
theorem mi_a67_180 : mi_look mi_m67.1 180 = some (.if_icmp .ne 11, 3) := rfl
theorem mi_a67_183 : mi_look mi_m67.1 183 = some (.iload 5, 2) := rfl
theorem mi_a67_185 : mi_look mi_m67.1 185 = some (.iload 4, 2) := rfl
theorem mi_a67_187 : mi_look mi_m67.1 187 = some (.ixor, 1) := rfl
theorem mi_a67_188 : mi_look mi_m67.1 188 = some (.goto 8, 3) := rfl
theorem mi_a67_191 : mi_look mi_m67.1 191 = some (.iload 5, 2) := rfl
theorem mi_a67_193 : mi_look mi_m67.1 193 = some (.iload 4, 2) := rfl
theorem mi_a67_195 : mi_look mi_m67.1 195 = some (.iand, 1) := rfl
theorem mi_a67_196 : mi_look mi_m67.1 196 = some (.invokevirtual 119, 3) := rfl
theorem mi_a67_199 : mi_look mi_m67.1 199 = some (.return_, 1) := rfl
theorem mi_a68_0 : mi_look mi_m68.1 0 = some (.iload_n 1, 1) := rfl
theorem mi_a68_1 : mi_look mi_m68.1 1 = some (.ifCond .lt 15, 3) := rfl
theorem mi_a68_4 : mi_look mi_m68.1 4 = some (.iload_n 1, 1) := rfl
theorem mi_a68_5 : mi_look mi_m68.1 5 = some (.aload_n 0, 1) := rfl
theorem mi_a68_6 : mi_look mi_m68.1 6 = some (.getfield 123, 3) := rfl
theorem mi_a68_9 : mi_look mi_m68.1 9 = some (.if_icmp .ge 7, 3) := rfl
theorem mi_a68_12 : mi_look mi_m68.1 12 = some (.iconst 1, 1) := rfl
theorem mi_a68_13 : mi_look mi_m68.1 13 = some (.goto 4, 3) := rfl
theorem mi_a68_16 : mi_look mi_m68.1 16 = some (.iconst 0, 1) := rfl
theorem mi_a68_17 : mi_look mi_m68.1 17 = some (.ireturn, 1) := rfl
theorem mi_a69_0 : mi_look mi_m69.1 0 = some (.iload_n 0, 1) := rfl
theorem mi_a69_1 : mi_look mi_m69.1 1 = some (.ifCond .lt 13, 3) := rfl
theorem mi_a69_4 : mi_look mi_m69.1 4 = some (.iload_n 0, 1) := rfl
theorem mi_a69_5 : mi_look mi_m69.1 5 = some (.bipush 12, 2) := rfl
theorem mi_a69_7 : mi_look mi_m69.1 7 = some (.if_icmp .ge 7, 3) := rfl
theorem mi_a69_10 : mi_look mi_m69.1 10 = some (.iconst 1, 1) := rfl
theorem mi_a69_11 : mi_look mi_m69.1 11 = some (.goto 4, 3) := rfl
theorem mi_a69_14 : mi_look mi_m69.1 14 = some (.iconst 0, 1) := rfl
theorem mi_a69_15 : mi_look mi_m69.1 15 = some (.ireturn, 1) := rfl
theorem mi_a70_0 : mi_look mi_m70.1 0 = some (.iload_n 0, 1) := rfl
theorem mi_a70_1 : mi_look mi_m70.1 1 = some (.ifCond .lt 13, 3) := rfl
theorem mi_a70_4 : mi_look mi_m70.1 4 = some (.iload_n 0, 1) := rfl
theorem mi_a70_5 : mi_look mi_m70.1 5 = some (.bipush 7, 2) := rfl
theorem mi_a70_7 : mi_look mi_m70.1 7 = some (.if_icmp .ge 7, 3) := rfl
theorem mi_a70_10 : mi_look mi_m70.1 10 = some (.iconst 1, 1) := rfl
theorem mi_a70_11 : mi_look mi_m70.1 11 = some (.goto 4, 3) := rfl
theorem mi_a70_14 : mi_look mi_m70.1 14 = some (.iconst 0, 1) := rfl
theorem mi_a70_15 : mi_look mi_m70.1 15 = some (.ireturn, 1) := rfl
theorem mi_a71_0 : mi_look mi_m71.1 0 = some (.iload_n 2, 1) := rfl
theorem mi_a71_1 : mi_look mi_m71.1 1 = some (.iconst 1, 1) := rfl
theorem mi_a71_2 : mi_look mi_m71.1 2 = some (.if_icmp .le 27, 3) := rfl
theorem mi_a71_5 : mi_look mi_m71.1 5 = some (.aload_n 0, 1) := rfl
theorem mi_a71_6 : mi_look mi_m71.1 6 = some (.getfield 19, 3) := rfl
theorem mi_a71_9 : mi_look mi_m71.1 9 = some (.bipush 10, 2) := rfl
theorem mi_a71_11 : mi_look mi_m71.1 11 = some (.aload_n 0, 1) := rfl
theorem mi_a71_12 : mi_look mi_m71.1 12 = some (.getfield 34, 3) := rfl
theorem mi_a71_15 : mi_look mi_m71.1 15 = some (.iload_n 1, 1) := rfl
theorem mi_a71_16 : mi_look mi_m71.1 16 = some (.iaload, 1) := rfl
theorem mi_a71_17 : mi_look mi_m71.1 17 = some (.iadd, 1) := rfl
theorem mi_a71_18 : mi_look mi_m71.1 18 = some (.iaload, 1) := rfl
theorem mi_a71_19 : mi_look mi_m71.1 19 = some (.iload_n 2, 1) := rfl
theorem mi_a71_20 : mi_look mi_m71.1 20 = some (.iconst 1, 1) := rfl
theorem mi_a71_21 : mi_look mi_m71.1 21 = some (.isub, 1) := rfl
theorem mi_a71_22 : mi_look mi_m71.1 22 = some (.invokestatic 84, 3) := rfl
theorem mi_a71_25 : mi_look mi_m71.1 25 = some (.iand, 1) := rfl
theorem mi_a71_26 : mi_look mi_m71.1 26 = some (.ifCond .eq 7, 3) := rfl
theorem mi_a71_29 : mi_look mi_m71.1 29 = some (.iconst 1, 1) := rfl
theorem mi_a71_30 : mi_look mi_m71.1 30 = some (.goto 4, 3) := rfl
theorem mi_a71_33 : mi_look mi_m71.1 33 = some (.iconst 0, 1) := rfl
theorem mi_a71_34 : mi_look mi_m71.1 34 = some (.ireturn, 1) := rfl
theorem mi_a72_0 : mi_look mi_m72.1 0 = some (.iload_n 2, 1) := rfl
theorem mi_a72_1 : mi_look mi_m72.1 1 = some (.ifCond .ne 17, 3) := rfl
theorem mi_a72_4 : mi_look mi_m72.1 4 = some (.aload_n 0, 1) := rfl
theorem mi_a72_5 : mi_look mi_m72.1 5 = some (.getfield 31, 3) := rfl
theorem mi_a72_8 : mi_look mi_m72.1 8 = some (.aload_n 0, 1) := rfl
theorem mi_a72_9 : mi_look mi_m72.1 9 = some (.getfield 34, 3) := rfl
theorem mi_a72_12 : mi_look mi_m72.1 12 = some (.iload_n 3, 1) := rfl
theorem mi_a72_13 : mi_look mi_m72.1 13 = some (.iaload, 1) := rfl
theorem mi_a72_14 : mi_look mi_m72.1 14 = some (.iaload, 1) := rfl
theorem mi_a72_15 : mi_look mi_m72.1 15 = some (.goto 9, 3) := rfl
theorem mi_a72_18 : mi_look mi_m72.1 18 = some (.aload_n 0, 1) := rfl
theorem mi_a72_19 : mi_look mi_m72.1 19 = some (.getfield 28, 3) := rfl
theorem mi_a72_22 : mi_look mi_m72.1 22 = some (.iload_n 2, 1) := rfl
theorem mi_a72_23 : mi_look mi_m72.1 23 = some (.iaload, 1) := rfl
theorem mi_a72_24 : mi_look mi_m72.1 24 = some (.iload_n 1, 1) := rfl
theorem mi_a72_25 : mi_look mi_m72.1 25 = some (.invokestatic 84, 3) := rfl
theorem mi_a72_28 : mi_look mi_m72.1 28 = some (.iand, 1) := rfl
theorem mi_a72_29 : mi_look mi_m72.1 29 = some (.ifCond .eq 7, 3) := rfl
theorem mi_a72_32 : mi_look mi_m72.1 32 = some (.iconst 1, 1) := rfl
theorem mi_a72_33 : mi_look mi_m72.1 33 = some (.goto 4, 3) := rfl
theorem mi_a72_36 : mi_look mi_m72.1 36 = some (.iconst 0, 1) := rfl
theorem mi_a72_37 : mi_look mi_m72.1 37 = some (.ireturn, 1) := rfl
theorem mi_a73_0 : mi_look mi_m73.1 0 = some (.aload_n 0, 1) := rfl
theorem mi_a73_1 : mi_look mi_m73.1 1 = some (.iload_n 1, 1) := rfl
theorem mi_a73_2 : mi_look mi_m73.1 2 = some (.putfield 126, 3) := rfl
theorem mi_a73_5 : mi_look mi_m73.1 5 = some (.iconst 0, 1) := rfl
theorem mi_a73_6 : mi_look mi_m73.1 6 = some (.ireturn, 1) := rfl
theorem mi_a74_0 : mi_look mi_m74.1 0 = some (.aload_n 0, 1) := rfl
theorem mi_a74_1 : mi_look mi_m74.1 1 = some (.iload_n 1, 1) := rfl
theorem mi_a74_2 : mi_look mi_m74.1 2 = some (.invokevirtual 129, 3) := rfl
theorem mi_a74_5 : mi_look mi_m74.1 5 = some (.ifCond .eq 17, 3) := rfl
theorem mi_a74_8 : mi_look mi_m74.1 8 = some (.iload_n 2, 1) := rfl
theorem mi_a74_9 : mi_look mi_m74.1 9 = some (.invokestatic 133, 3) := rfl
theorem mi_a74_12 : mi_look mi_m74.1 12 = some (.ifCond .eq 10, 3) := rfl
theorem mi_a74_15 : mi_look mi_m74.1 15 = some (.iload_n 3, 1) := rfl
theorem mi_a74_16 : mi_look mi_m74.1 16 = some (.invokestatic 136, 3) := rfl
theorem mi_a74_19 : mi_look mi_m74.1 19 = some (.ifCond .ne 5, 3) := rfl
theorem mi_a74_22 : mi_look mi_m74.1 22 = some (.iconst 1, 1) := rfl
theorem mi_a74_23 : mi_look mi_m74.1 23 = some (.ireturn, 1) := rfl
theorem mi_a74_24 : mi_look mi_m74.1 24 = some (.aload_n 0, 1) := rfl
theorem mi_a74_25 : mi_look mi_m74.1 25 = some (.iload_n 1, 1) := rfl
theorem mi_a74_26 : mi_look mi_m74.1 26 = some (.iload_n 3, 1) := rfl
theorem mi_a74_27 : mi_look mi_m74.1 27 = some (.invokevirtual 139, 3) := rfl
theorem mi_a74_30 : mi_look mi_m74.1 30 = some (.ifCond .ne 5, 3) := rfl
theorem mi_a74_33 : mi_look mi_m74.1 33 = some (.iconst 2, 1) := rfl
theorem mi_a74_34 : mi_look mi_m74.1 34 = some (.ireturn, 1) := rfl
theorem mi_a74_35 : mi_look mi_m74.1 35 = some (.aload_n 0, 1) := rfl
theorem mi_a74_36 : mi_look mi_m74.1 36 = some (.iload_n 2, 1) := rfl
theorem mi_a74_37 : mi_look mi_m74.1 37 = some (.iload_n 3, 1) := rfl
theorem mi_a74_38 : mi_look mi_m74.1 38 = some (.iload_n 1, 1) := rfl
theorem mi_a74_39 : mi_look mi_m74.1 39 = some (.invokevirtual 143, 3) := rfl
theorem mi_a74_42 : mi_look mi_m74.1 42 = some (.ifCond .eq 7, 3) := rfl
theorem mi_a74_45 : mi_look mi_m74.1 45 = some (.iconst 0, 1) := rfl
theorem mi_a74_46 : mi_look mi_m74.1 46 = some (.goto 4, 3) := rfl
theorem mi_a74_49 : mi_look mi_m74.1 49 = some (.iconst 3, 1) := rfl
theorem mi_a74_50 : mi_look mi_m74.1 50 = some (.ireturn, 1) := rfl
theorem mi_a75_0 : mi_look mi_m75.1 0 = some (.aload_n 0, 1) := rfl
theorem mi_a75_1 : mi_look mi_m75.1 1 = some (.iconst 0, 1) := rfl
theorem mi_a75_2 : mi_look mi_m75.1 2 = some (.putfield 126, 3) := rfl
theorem mi_a75_5 : mi_look mi_m75.1 5 = some (.aload_n 0, 1) := rfl
theorem mi_a75_6 : mi_look mi_m75.1 6 = some (.iconst 0, 1) := rfl
theorem mi_a75_7 : mi_look mi_m75.1 7 = some (.putfield 102, 3) := rfl
theorem mi_a75_10 : mi_look mi_m75.1 10 = some (.return_, 1) := rfl
theorem mi_a76_0 : mi_look mi_m76.1 0 = some (.aload_n 0, 1) := rfl
theorem mi_a76_1 : mi_look mi_m76.1 1 = some (.iload_n 1, 1) := rfl
theorem mi_a76_2 : mi_look mi_m76.1 2 = some (.ifCond .lt 9, 3) := rfl
theorem mi_a76_5 : mi_look mi_m76.1 5 = some (.iload_n 1, 1) := rfl
theorem mi_a76_6 : mi_look mi_m76.1 6 = some (.bipush 11, 2) := rfl
theorem mi_a76_8 : mi_look mi_m76.1 8 = some (.if_icmp .lt 7, 3) := rfl
theorem mi_a76_11 : mi_look mi_m76.1 11 = some (.iconst 1, 1) := rfl
theorem mi_a76_12 : mi_look mi_m76.1 12 = some (.goto 18, 3) := rfl
theorem mi_a76_15 : mi_look mi_m76.1 15 = some (.aload_n 0, 1) := rfl
theorem mi_a76_16 : mi_look mi_m76.1 16 = some (.getfield 123, 3) := rfl
theorem mi_a76_19 : mi_look mi_m76.1 19 = some (.sipush 300, 3) := rfl
theorem mi_a76_22 : mi_look mi_m76.1 22 = some (.if_icmp .ne 7, 3) := rfl
theorem mi_a76_25 : mi_look mi_m76.1 25 = some (.iconst 5, 1) := rfl
theorem mi_a76_26 : mi_look mi_m76.1 26 = some (.goto 4, 3) := rfl
theorem mi_a76_29 : mi_look mi_m76.1 29 = some (.iconst 0, 1) := rfl
theorem mi_a76_30 : mi_look mi_m76.1 30 = some (.putfield 126, 3) := rfl
theorem mi_a76_33 : mi_look mi_m76.1 33 = some (.aload_n 0, 1) := rfl
theorem mi_a76_34 : mi_look mi_m76.1 34 = some (.getfield 126, 3) := rfl
theorem mi_a76_37 : mi_look mi_m76.1 37 = some (.ifCond .eq 5, 3) := rfl
theorem mi_a76_40 : mi_look mi_m76.1 40 = some (.iconst (-1), 1) := rfl
theorem mi_a76_41 : mi_look mi_m76.1 41 = some (.ireturn, 1) := rfl
theorem mi_a76_42 : mi_look mi_m76.1 42 = some (.aload_n 0, 1) := rfl
theorem mi_a76_43 : mi_look mi_m76.1 43 = some (.getfield 34, 3) := rfl
theorem mi_a76_46 : mi_look mi_m76.1 46 = some (.aload_n 0, 1) := rfl
theorem mi_a76_47 : mi_look mi_m76.1 47 = some (.getfield 123, 3) := rfl
theorem mi_a76_50 : mi_look mi_m76.1 50 = some (.iload_n 1, 1) := rfl
theorem mi_a76_51 : mi_look mi_m76.1 51 = some (.iastore, 1) := rfl
theorem mi_a76_52 : mi_look mi_m76.1 52 = some (.aload_n 0, 1) := rfl
theorem mi_a76_53 : mi_look mi_m76.1 53 = some (.getfield 37, 3) := rfl
theorem mi_a76_56 : mi_look mi_m76.1 56 = some (.aload_n 0, 1) := rfl
theorem mi_a76_57 : mi_look mi_m76.1 57 = some (.getfield 123, 3) := rfl
theorem mi_a76_60 : mi_look mi_m76.1 60 = some (.iload_n 2, 1) := rfl
theorem mi_a76_61 : mi_look mi_m76.1 61 = some (.iastore, 1) := rfl
theorem mi_a76_62 : mi_look mi_m76.1 62 = some (.aload_n 0, 1) := rfl
theorem mi_a76_63 : mi_look mi_m76.1 63 = some (.dup, 1) := rfl
theorem mi_a76_64 : mi_look mi_m76.1 64 = some (.getfield 123, 3) := rfl
theorem mi_a76_67 : mi_look mi_m76.1 67 = some (.iconst 1, 1) := rfl
theorem mi_a76_68 : mi_look mi_m76.1 68 = some (.iadd, 1) := rfl
theorem mi_a76_69 : mi_look mi_m76.1 69 = some (.putfield 123, 3) := rfl
theorem mi_a76_72 : mi_look mi_m76.1 72 = some (.aload_n 0, 1) := rfl
theorem mi_a76_73 : mi_look mi_m76.1 73 = some (.getfield 123, 3) := rfl
theorem mi_a76_76 : mi_look mi_m76.1 76 = some (.iconst 1, 1) := rfl
theorem mi_a76_77 : mi_look mi_m76.1 77 = some (.isub, 1) := rfl
theorem mi_a76_78 : mi_look mi_m76.1 78 = some (.ireturn, 1) := rfl
theorem mi_a77_0 : mi_look mi_m77.1 0 = some (.aload_n 0, 1) := rfl
theorem mi_a77_1 : mi_look mi_m77.1 1 = some (.iload_n 1, 1) := rfl
theorem mi_a77_2 : mi_look mi_m77.1 2 = some (.iload_n 2, 1) := rfl
theorem mi_a77_3 : mi_look mi_m77.1 3 = some (.iload_n 3, 1) := rfl
theorem mi_a77_4 : mi_look mi_m77.1 4 = some (.invokevirtual 147, 3) := rfl
theorem mi_a77_7 : mi_look mi_m77.1 7 = some (.istore 5, 2) := rfl
theorem mi_a77_9 : mi_look mi_m77.1 9 = some (.iload 5, 2) := rfl
theorem mi_a77_11 : mi_look mi_m77.1 11 = some (.ifCond .eq 10, 3) := rfl
theorem mi_a77_14 : mi_look mi_m77.1 14 = some (.aload_n 0, 1) := rfl
theorem mi_a77_15 : mi_look mi_m77.1 15 = some (.iload 5, 2) := rfl
theorem mi_a77_17 : mi_look mi_m77.1 17 = some (.invokevirtual 151, 3) := rfl
theorem mi_a77_20 : mi_look mi_m77.1 20 = some (.ireturn, 1) := rfl
theorem mi_a77_21 : mi_look mi_m77.1 21 = some (.aload_n 0, 1) := rfl
theorem mi_a77_22 : mi_look mi_m77.1 22 = some (.invokevirtual 154, 3) := rfl
theorem mi_a77_25 : mi_look mi_m77.1 25 = some (.aload_n 0, 1) := rfl
theorem mi_a77_26 : mi_look mi_m77.1 26 = some (.iload_n 1, 1) := rfl
theorem mi_a77_27 : mi_look mi_m77.1 27 = some (.iload_n 2, 1) := rfl
theorem mi_a77_28 : mi_look mi_m77.1 28 = some (.iload 4, 2) := rfl
theorem mi_a77_30 : mi_look mi_m77.1 30 = some (.invokevirtual 157, 3) := rfl
theorem mi_a77_33 : mi_look mi_m77.1 33 = some (.ireturn, 1) := rfl
theorem mi_a78_0 : mi_look mi_m78.1 0 = some (.iload_n 1, 1) := rfl
theorem mi_a78_1 : mi_look mi_m78.1 1 = some (.invokestatic 133, 3) := rfl
theorem mi_a78_4 : mi_look mi_m78.1 4 = some (.ifCond .eq 10, 3) := rfl
theorem mi_a78_7 : mi_look mi_m78.1 7 = some (.iload_n 2, 1) := rfl
theorem mi_a78_8 : mi_look mi_m78.1 8 = some (.invokestatic 136, 3) := rfl
theorem mi_a78_11 : mi_look mi_m78.1 11 = some (.ifCond .ne 9, 3) := rfl
theorem mi_a78_14 : mi_look mi_m78.1 14 = some (.aload_n 0, 1) := rfl
theorem mi_a78_15 : mi_look mi_m78.1 15 = some (.iconst 1, 1) := rfl
theorem mi_a78_16 : mi_look mi_m78.1 16 = some (.invokevirtual 151, 3) := rfl
theorem mi_a78_19 : mi_look mi_m78.1 19 = some (.ireturn, 1) := rfl
theorem mi_a78_20 : mi_look mi_m78.1 20 = some (.iload_n 2, 1) := rfl
theorem mi_a78_21 : mi_look mi_m78.1 21 = some (.ifCond .eq 23, 3) := rfl
theorem mi_a78_24 : mi_look mi_m78.1 24 = some (.aload_n 0, 1) := rfl
theorem mi_a78_25 : mi_look mi_m78.1 25 = some (.getfield 28, 3) := rfl
theorem mi_a78_28 : mi_look mi_m78.1 28 = some (.iload_n 2, 1) := rfl
theorem mi_a78_29 : mi_look mi_m78.1 29 = some (.iaload, 1) := rfl
theorem mi_a78_30 : mi_look mi_m78.1 30 = some (.iload_n 1, 1) := rfl
theorem mi_a78_31 : mi_look mi_m78.1 31 = some (.invokestatic 84, 3) := rfl
theorem mi_a78_34 : mi_look mi_m78.1 34 = some (.iand, 1) := rfl
theorem mi_a78_35 : mi_look mi_m78.1 35 = some (.ifCond .ne 9, 3) := rfl
theorem mi_a78_38 : mi_look mi_m78.1 38 = some (.aload_n 0, 1) := rfl
theorem mi_a78_39 : mi_look mi_m78.1 39 = some (.iconst 3, 1) := rfl
theorem mi_a78_40 : mi_look mi_m78.1 40 = some (.invokevirtual 151, 3) := rfl
theorem mi_a78_43 : mi_look mi_m78.1 43 = some (.ireturn, 1) := rfl
theorem mi_a78_44 : mi_look mi_m78.1 44 = some (.aload_n 0, 1) := rfl
theorem mi_a78_45 : mi_look mi_m78.1 45 = some (.invokevirtual 154, 3) := rfl
theorem mi_a78_48 : mi_look mi_m78.1 48 = some (.iconst 0, 1) := rfl
theorem mi_a78_49 : mi_look mi_m78.1 49 = some (.istore 4, 2) := rfl
theorem mi_a78_51 : mi_look mi_m78.1 51 = some (.iconst 0, 1) := rfl
theorem mi_a78_52 : mi_look mi_m78.1 52 = some (.istore 5, 2) := rfl
theorem mi_a78_54 : mi_look mi_m78.1 54 = some (.iload 5, 2) := rfl
theorem mi_a78_56 : mi_look mi_m78.1 56 = some (.aload_n 0, 1) := rfl
theorem mi_a78_57 : mi_look mi_m78.1 57 = some (.getfield 123, 3) := rfl
theorem mi_a78_60 : mi_look mi_m78.1 60 = some (.if_icmp .ge 43, 3) := rfl
theorem mi_a78_63 : mi_look mi_m78.1 63 = some (.aload_n 0, 1) := rfl
theorem mi_a78_64 : mi_look mi_m78.1 64 = some (.iload 5, 2) := rfl
theorem mi_a78_66 : mi_look mi_m78.1 66 = some (.iload_n 2, 1) := rfl
theorem mi_a78_67 : mi_look mi_m78.1 67 = some (.invokevirtual 139, 3) := rfl
theorem mi_a78_70 : mi_look mi_m78.1 70 = some (.ifCond .eq 27, 3) := rfl
theorem mi_a78_73 : mi_look mi_m78.1 73 = some (.aload_n 0, 1) := rfl
theorem mi_a78_74 : mi_look mi_m78.1 74 = some (.iload_n 1, 1) := rfl
theorem mi_a78_75 : mi_look mi_m78.1 75 = some (.iload_n 2, 1) := rfl
theorem mi_a78_76 : mi_look mi_m78.1 76 = some (.iload 5, 2) := rfl
theorem mi_a78_78 : mi_look mi_m78.1 78 = some (.invokevirtual 143, 3) := rfl
theorem mi_a78_81 : mi_look mi_m78.1 81 = some (.ifCond .eq 16, 3) := rfl
theorem mi_a78_84 : mi_look mi_m78.1 84 = some (.iload 4, 2) := rfl
theorem mi_a78_86 : mi_look mi_m78.1 86 = some (.aload_n 0, 1) := rfl
theorem mi_a78_87 : mi_look mi_m78.1 87 = some (.iload 5, 2) := rfl
theorem mi_a78_89 : mi_look mi_m78.1 89 = some (.iload_n 1, 1) := rfl
theorem mi_a78_90 : mi_look mi_m78.1 90 = some (.iload_n 3, 1) := rfl
theorem mi_a78_91 : mi_look mi_m78.1 91 = some (.invokevirtual 157, 3) := rfl
theorem mi_a78_94 : mi_look mi_m78.1 94 = some (.iadd, 1) := rfl
theorem mi_a78_95 : mi_look mi_m78.1 95 = some (.istore 4, 2) := rfl
theorem mi_a78_97 : mi_look mi_m78.1 97 = some (.iinc 5 1, 3) := rfl
theorem mi_a78_100 : mi_look mi_m78.1 100 = some (.goto (-46), 3) := rfl
theorem mi_a78_103 : mi_look mi_m78.1 103 = some (.iload 4, 2) := rfl
theorem mi_a78_105 : mi_look mi_m78.1 105 = some (.ireturn, 1) := rfl
theorem mi_a79_0 : mi_look mi_m79.1 0 = some (.aload_n 0, 1) := rfl
theorem mi_a79_1 : mi_look mi_m79.1 1 = some (.iload_n 1, 1) := rfl
theorem mi_a79_2 : mi_look mi_m79.1 2 = some (.invokevirtual 129, 3) := rfl
theorem mi_a79_5 : mi_look mi_m79.1 5 = some (.ifCond .ne 9, 3) := rfl
theorem mi_a79_8 : mi_look mi_m79.1 8 = some (.aload_n 0, 1) := rfl
theorem mi_a79_9 : mi_look mi_m79.1 9 = some (.iconst 1, 1) := rfl
theorem mi_a79_10 : mi_look mi_m79.1 10 = some (.invokevirtual 151, 3) := rfl
theorem mi_a79_13 : mi_look mi_m79.1 13 = some (.ireturn, 1) := rfl
theorem mi_a79_14 : mi_look mi_m79.1 14 = some (.aload_n 0, 1) := rfl
theorem mi_a79_15 : mi_look mi_m79.1 15 = some (.invokevirtual 154, 3) := rfl
theorem mi_a79_18 : mi_look mi_m79.1 18 = some (.iconst 0, 1) := rfl
theorem mi_a79_19 : mi_look mi_m79.1 19 = some (.istore_n 3, 1) := rfl
theorem mi_a79_20 : mi_look mi_m79.1 20 = some (.bipush 24, 2) := rfl
theorem mi_a79_22 : mi_look mi_m79.1 22 = some (.istore 4, 2) := rfl
theorem mi_a79_24 : mi_look mi_m79.1 24 = some (.iload 4, 2) := rfl
theorem mi_a79_26 : mi_look mi_m79.1 26 = some (.ifCond .lt 65, 3) := rfl
theorem mi_a79_29 : mi_look mi_m79.1 29 = some (.iload_n 2, 1) := rfl
theorem mi_a79_30 : mi_look mi_m79.1 30 = some (.iload 4, 2) := rfl
theorem mi_a79_32 : mi_look mi_m79.1 32 = some (.ishr, 1) := rfl
theorem mi_a79_33 : mi_look mi_m79.1 33 = some (.sipush 255, 3) := rfl
theorem mi_a79_36 : mi_look mi_m79.1 36 = some (.iand, 1) := rfl
theorem mi_a79_37 : mi_look mi_m79.1 37 = some (.istore 5, 2) := rfl
theorem mi_a79_39 : mi_look mi_m79.1 39 = some (.aload_n 0, 1) := rfl
theorem mi_a79_40 : mi_look mi_m79.1 40 = some (.iload_n 1, 1) := rfl
theorem mi_a79_41 : mi_look mi_m79.1 41 = some (.iload 5, 2) := rfl
theorem mi_a79_43 : mi_look mi_m79.1 43 = some (.bipush 15, 2) := rfl
theorem mi_a79_45 : mi_look mi_m79.1 45 = some (.iand, 1) := rfl
theorem mi_a79_46 : mi_look mi_m79.1 46 = some (.iload 5, 2) := rfl
theorem mi_a79_48 : mi_look mi_m79.1 48 = some (.iconst 4, 1) := rfl
theorem mi_a79_49 : mi_look mi_m79.1 49 = some (.ishr, 1) := rfl
theorem mi_a79_50 : mi_look mi_m79.1 50 = some (.bipush 7, 2) := rfl
theorem mi_a79_52 : mi_look mi_m79.1 52 = some (.iand, 1) := rfl
theorem mi_a79_53 : mi_look mi_m79.1 53 = some (.invokevirtual 147, 3) := rfl
theorem mi_a79_56 : mi_look mi_m79.1 56 = some (.ifCond .ne 29, 3) := rfl
theorem mi_a79_59 : mi_look mi_m79.1 59 = some (.iload_n 3, 1) := rfl
theorem mi_a79_60 : mi_look mi_m79.1 60 = some (.aload_n 0, 1) := rfl
theorem mi_a79_61 : mi_look mi_m79.1 61 = some (.iload_n 1, 1) := rfl
theorem mi_a79_62 : mi_look mi_m79.1 62 = some (.iload 5, 2) := rfl
theorem mi_a79_64 : mi_look mi_m79.1 64 = some (.bipush 15, 2) := rfl
theorem mi_a79_66 : mi_look mi_m79.1 66 = some (.iand, 1) := rfl
theorem mi_a79_67 : mi_look mi_m79.1 67 = some (.iload 5, 2) := rfl
theorem mi_a79_69 : mi_look mi_m79.1 69 = some (.bipush 127, 2) := rfl
theorem mi_a79_71 : mi_look mi_m79.1 71 = some (.if_icmp .le 8, 3) := rfl
theorem mi_a79_74 : mi_look mi_m79.1 74 = some (.iload_n 3, 1) := rfl
theorem mi_a79_75 : mi_look mi_m79.1 75 = some (.ineg, 1) := rfl
theorem mi_a79_76 : mi_look mi_m79.1 76 = some (.goto 4, 3) := rfl
theorem mi_a79_79 : mi_look mi_m79.1 79 = some (.iload_n 3, 1) := rfl
theorem mi_a79_80 : mi_look mi_m79.1 80 = some (.invokevirtual 157, 3) := rfl
theorem mi_a79_83 : mi_look mi_m79.1 83 = some (.iadd, 1) := rfl
theorem mi_a79_84 : mi_look mi_m79.1 84 = some (.istore_n 3, 1) := rfl
theorem mi_a79_85 : mi_look mi_m79.1 85 = some (.iinc 4 (-8), 3) := rfl
theorem mi_a79_88 : mi_look mi_m79.1 88 = some (.goto (-64), 3) := rfl
theorem mi_a79_91 : mi_look mi_m79.1 91 = some (.iload_n 3, 1) := rfl
theorem mi_a79_92 : mi_look mi_m79.1 92 = some (.ireturn, 1) := rfl
theorem mi_a80_0 : mi_look mi_m80.1 0 = some (.aload_n 0, 1) := rfl
theorem mi_a80_1 : mi_look mi_m80.1 1 = some (.aload_n 0, 1) := rfl
theorem mi_a80_2 : mi_look mi_m80.1 2 = some (.iload_n 1, 1) := rfl
theorem mi_a80_3 : mi_look mi_m80.1 3 = some (.invokevirtual 129, 3) := rfl
theorem mi_a80_6 : mi_look mi_m80.1 6 = some (.ifCond .eq 11, 3) := rfl
theorem mi_a80_9 : mi_look mi_m80.1 9 = some (.aload_n 0, 1) := rfl
theorem mi_a80_10 : mi_look mi_m80.1 10 = some (.iload_n 2, 1) := rfl
theorem mi_a80_11 : mi_look mi_m80.1 11 = some (.invokevirtual 129, 3) := rfl
theorem mi_a80_14 : mi_look mi_m80.1 14 = some (.ifCond .ne 7, 3) := rfl
theorem mi_a80_17 : mi_look mi_m80.1 17 = some (.iconst 1, 1) := rfl
theorem mi_a80_18 : mi_look mi_m80.1 18 = some (.goto 18, 3) := rfl
theorem mi_a80_21 : mi_look mi_m80.1 21 = some (.aload_n 0, 1) := rfl
theorem mi_a80_22 : mi_look mi_m80.1 22 = some (.getfield 160, 3) := rfl
theorem mi_a80_25 : mi_look mi_m80.1 25 = some (.sipush 400, 3) := rfl
theorem mi_a80_28 : mi_look mi_m80.1 28 = some (.if_icmp .ne 7, 3) := rfl
theorem mi_a80_31 : mi_look mi_m80.1 31 = some (.iconst 5, 1) := rfl
theorem mi_a80_32 : mi_look mi_m80.1 32 = some (.goto 4, 3) := rfl
theorem mi_a80_35 : mi_look mi_m80.1 35 = some (.iconst 0, 1) := rfl
theorem mi_a80_36 : mi_look mi_m80.1 36 = some (.putfield 126, 3) := rfl
theorem mi_a80_39 : mi_look mi_m80.1 39 = some (.aload_n 0, 1) := rfl
theorem mi_a80_40 : mi_look mi_m80.1 40 = some (.getfield 126, 3) := rfl
theorem mi_a80_43 : mi_look mi_m80.1 43 = some (.ifCond .eq 5, 3) := rfl
theorem mi_a80_46 : mi_look mi_m80.1 46 = some (.iconst (-1), 1) := rfl
theorem mi_a80_47 : mi_look mi_m80.1 47 = some (.ireturn, 1) := rfl
theorem mi_a80_48 : mi_look mi_m80.1 48 = some (.aload_n 0, 1) := rfl
theorem mi_a80_49 : mi_look mi_m80.1 49 = some (.getfield 46, 3) := rfl
theorem mi_a80_52 : mi_look mi_m80.1 52 = some (.aload_n 0, 1) := rfl
theorem mi_a80_53 : mi_look mi_m80.1 53 = some (.getfield 160, 3) := rfl
theorem mi_a80_56 : mi_look mi_m80.1 56 = some (.iload_n 1, 1) := rfl
theorem mi_a80_57 : mi_look mi_m80.1 57 = some (.iastore, 1) := rfl
theorem mi_a80_58 : mi_look mi_m80.1 58 = some (.aload_n 0, 1) := rfl
theorem mi_a80_59 : mi_look mi_m80.1 59 = some (.getfield 49, 3) := rfl
theorem mi_a80_62 : mi_look mi_m80.1 62 = some (.aload_n 0, 1) := rfl
theorem mi_a80_63 : mi_look mi_m80.1 63 = some (.getfield 160, 3) := rfl
theorem mi_a80_66 : mi_look mi_m80.1 66 = some (.iload_n 2, 1) := rfl
theorem mi_a80_67 : mi_look mi_m80.1 67 = some (.iastore, 1) := rfl
theorem mi_a80_68 : mi_look mi_m80.1 68 = some (.aload_n 0, 1) := rfl
theorem mi_a80_69 : mi_look mi_m80.1 69 = some (.dup, 1) := rfl
theorem mi_a80_70 : mi_look mi_m80.1 70 = some (.getfield 160, 3) := rfl
theorem mi_a80_73 : mi_look mi_m80.1 73 = some (.iconst 1, 1) := rfl
theorem mi_a80_74 : mi_look mi_m80.1 74 = some (.iadd, 1) := rfl
theorem mi_a80_75 : mi_look mi_m80.1 75 = some (.putfield 160, 3) := rfl
theorem mi_a80_78 : mi_look mi_m80.1 78 = some (.aload_n 0, 1) := rfl
theorem mi_a80_79 : mi_look mi_m80.1 79 = some (.getfield 160, 3) := rfl
theorem mi_a80_82 : mi_look mi_m80.1 82 = some (.iconst 1, 1) := rfl
theorem mi_a80_83 : mi_look mi_m80.1 83 = some (.isub, 1) := rfl
theorem mi_a80_84 : mi_look mi_m80.1 84 = some (.ireturn, 1) := rfl
theorem mi_a81_0 : mi_look mi_m81.1 0 = some (.aload_n 0, 1) := rfl
theorem mi_a81_1 : mi_look mi_m81.1 1 = some (.getfield 43, 3) := rfl
theorem mi_a81_4 : mi_look mi_m81.1 4 = some (.iload_n 1, 1) := rfl
theorem mi_a81_5 : mi_look mi_m81.1 5 = some (.dup2, 1) := rfl
theorem mi_a81_6 : mi_look mi_m81.1 6 = some (.iaload, 1) := rfl
theorem mi_a81_7 : mi_look mi_m81.1 7 = some (.iconst 1, 1) := rfl
theorem mi_a81_8 : mi_look mi_m81.1 8 = some (.iadd, 1) := rfl
theorem mi_a81_9 : mi_look mi_m81.1 9 = some (.iastore, 1) := rfl
theorem mi_a81_10 : mi_look mi_m81.1 10 = some (.aload_n 0, 1) := rfl
theorem mi_a81_11 : mi_look mi_m81.1 11 = some (.iload_n 1, 1) := rfl
theorem mi_a81_12 : mi_look mi_m81.1 12 = some (.aload_n 0, 1) := rfl
theorem mi_a81_13 : mi_look mi_m81.1 13 = some (.iload_n 1, 1) := rfl
theorem mi_a81_14 : mi_look mi_m81.1 14 = some (.iconst 3, 1) := rfl
theorem mi_a81_15 : mi_look mi_m81.1 15 = some (.invokevirtual 139, 3) := rfl
theorem mi_a81_18 : mi_look mi_m81.1 18 = some (.ifCond .eq 7, 3) := rfl
theorem mi_a81_21 : mi_look mi_m81.1 21 = some (.iconst 4, 1) := rfl
theorem mi_a81_22 : mi_look mi_m81.1 22 = some (.goto 18, 3) := rfl
theorem mi_a81_25 : mi_look mi_m81.1 25 = some (.aload_n 0, 1) := rfl
theorem mi_a81_26 : mi_look mi_m81.1 26 = some (.iload_n 1, 1) := rfl
theorem mi_a81_27 : mi_look mi_m81.1 27 = some (.iconst 2, 1) := rfl
theorem mi_a81_28 : mi_look mi_m81.1 28 = some (.invokevirtual 139, 3) := rfl
theorem mi_a81_31 : mi_look mi_m81.1 31 = some (.ifCond .eq 7, 3) := rfl
theorem mi_a81_34 : mi_look mi_m81.1 34 = some (.iconst 1, 1) := rfl
theorem mi_a81_35 : mi_look mi_m81.1 35 = some (.goto 5, 3) := rfl
theorem mi_a81_38 : mi_look mi_m81.1 38 = some (.bipush 6, 2) := rfl
theorem mi_a81_40 : mi_look mi_m81.1 40 = some (.iload_n 2, 1) := rfl
theorem mi_a81_41 : mi_look mi_m81.1 41 = some (.invokevirtual 157, 3) := rfl
theorem mi_a81_44 : mi_look mi_m81.1 44 = some (.ireturn, 1) := rfl
theorem mi_a82_0 : mi_look mi_m82.1 0 = some (.aload_n 0, 1) := rfl
theorem mi_a82_1 : mi_look mi_m82.1 1 = some (.iload_n 1, 1) := rfl
theorem mi_a82_2 : mi_look mi_m82.1 2 = some (.invokevirtual 129, 3) := rfl
theorem mi_a82_5 : mi_look mi_m82.1 5 = some (.ifCond .ne 9, 3) := rfl
theorem mi_a82_8 : mi_look mi_m82.1 8 = some (.aload_n 0, 1) := rfl
theorem mi_a82_9 : mi_look mi_m82.1 9 = some (.iconst 1, 1) := rfl
theorem mi_a82_10 : mi_look mi_m82.1 10 = some (.invokevirtual 151, 3) := rfl
theorem mi_a82_13 : mi_look mi_m82.1 13 = some (.ireturn, 1) := rfl
theorem mi_a82_14 : mi_look mi_m82.1 14 = some (.aload_n 0, 1) := rfl
theorem mi_a82_15 : mi_look mi_m82.1 15 = some (.invokevirtual 154, 3) := rfl
theorem mi_a82_18 : mi_look mi_m82.1 18 = some (.iconst 0, 1) := rfl
theorem mi_a82_19 : mi_look mi_m82.1 19 = some (.istore_n 3, 1) := rfl
theorem mi_a82_20 : mi_look mi_m82.1 20 = some (.iload_n 3, 1) := rfl
theorem mi_a82_21 : mi_look mi_m82.1 21 = some (.aload_n 0, 1) := rfl
theorem mi_a82_22 : mi_look mi_m82.1 22 = some (.getfield 123, 3) := rfl
theorem mi_a82_25 : mi_look mi_m82.1 25 = some (.if_icmp .ge 16, 3) := rfl
theorem mi_a82_28 : mi_look mi_m82.1 28 = some (.aload_n 0, 1) := rfl
theorem mi_a82_29 : mi_look mi_m82.1 29 = some (.getfield 58, 3) := rfl
theorem mi_a82_32 : mi_look mi_m82.1 32 = some (.iload_n 3, 1) := rfl
theorem mi_a82_33 : mi_look mi_m82.1 33 = some (.iconst 0, 1) := rfl
theorem mi_a82_34 : mi_look mi_m82.1 34 = some (.bastore, 1) := rfl
theorem mi_a82_35 : mi_look mi_m82.1 35 = some (.iinc 3 1, 3) := rfl
theorem mi_a82_38 : mi_look mi_m82.1 38 = some (.goto (-18), 3) := rfl
theorem mi_a82_41 : mi_look mi_m82.1 41 = some (.aload_n 0, 1) := rfl
theorem mi_a82_42 : mi_look mi_m82.1 42 = some (.getfield 52, 3) := rfl
theorem mi_a82_45 : mi_look mi_m82.1 45 = some (.iconst 0, 1) := rfl
theorem mi_a82_46 : mi_look mi_m82.1 46 = some (.iload_n 1, 1) := rfl
theorem mi_a82_47 : mi_look mi_m82.1 47 = some (.iastore, 1) := rfl
theorem mi_a82_48 : mi_look mi_m82.1 48 = some (.aload_n 0, 1) := rfl
theorem mi_a82_49 : mi_look mi_m82.1 49 = some (.getfield 58, 3) := rfl
theorem mi_a82_52 : mi_look mi_m82.1 52 = some (.iload_n 1, 1) := rfl
theorem mi_a82_53 : mi_look mi_m82.1 53 = some (.iconst 1, 1) := rfl
theorem mi_a82_54 : mi_look mi_m82.1 54 = some (.bastore, 1) := rfl
theorem mi_a82_55 : mi_look mi_m82.1 55 = some (.aload_n 0, 1) := rfl
theorem mi_a82_56 : mi_look mi_m82.1 56 = some (.getfield 55, 3) := rfl
theorem mi_a82_59 : mi_look mi_m82.1 59 = some (.iconst 0, 1) := rfl
theorem mi_a82_60 : mi_look mi_m82.1 60 = some (.aload_n 0, 1) := rfl
theorem mi_a82_61 : mi_look mi_m82.1 61 = some (.iload_n 1, 1) := rfl
theorem mi_a82_62 : mi_look mi_m82.1 62 = some (.iload_n 2, 1) := rfl
theorem mi_a82_63 : mi_look mi_m82.1 63 = some (.invokevirtual 163, 3) := rfl
theorem mi_a82_66 : mi_look mi_m82.1 66 = some (.iastore, 1) := rfl
theorem mi_a82_67 : mi_look mi_m82.1 67 = some (.iconst 1, 1) := rfl
theorem mi_a82_68 : mi_look mi_m82.1 68 = some (.istore_n 3, 1) := rfl
theorem mi_a82_69 : mi_look mi_m82.1 69 = some (.iconst 0, 1) := rfl
theorem mi_a82_70 : mi_look mi_m82.1 70 = some (.istore 4, 2) := rfl
theorem mi_a82_72 : mi_look mi_m82.1 72 = some (.iload 4, 2) := rfl
theorem mi_a82_74 : mi_look mi_m82.1 74 = some (.iload_n 3, 1) := rfl
theorem mi_a82_75 : mi_look mi_m82.1 75 = some (.if_icmp .ge 115, 3) := rfl
theorem mi_a82_78 : mi_look mi_m82.1 78 = some (.iconst 0, 1) := rfl
theorem mi_a82_79 : mi_look mi_m82.1 79 = some (.istore 5, 2) := rfl
theorem mi_a82_81 : mi_look mi_m82.1 81 = some (.iload 5, 2) := rfl
theorem mi_a82_83 : mi_look mi_m82.1 83 = some (.aload_n 0, 1) := rfl
theorem mi_a82_84 : mi_look mi_m82.1 84 = some (.getfield 160, 3) := rfl
theorem mi_a82_87 : mi_look mi_m82.1 87 = some (.if_icmp .ge 97, 3) := rfl
theorem mi_a82_90 : mi_look mi_m82.1 90 = some (.aload_n 0, 1) := rfl
theorem mi_a82_91 : mi_look mi_m82.1 91 = some (.getfield 46, 3) := rfl
theorem mi_a82_94 : mi_look mi_m82.1 94 = some (.iload 5, 2) := rfl
theorem mi_a82_96 : mi_look mi_m82.1 96 = some (.iaload, 1) := rfl
theorem mi_a82_97 : mi_look mi_m82.1 97 = some (.aload_n 0, 1) := rfl
theorem mi_a82_98 : mi_look mi_m82.1 98 = some (.getfield 52, 3) := rfl
theorem mi_a82_101 : mi_look mi_m82.1 101 = some (.iload 4, 2) := rfl
theorem mi_a82_103 : mi_look mi_m82.1 103 = some (.iaload, 1) := rfl
theorem mi_a82_104 : mi_look mi_m82.1 104 = some (.if_icmp .ne 74, 3) := rfl
theorem mi_a82_107 : mi_look mi_m82.1 107 = some (.aload_n 0, 1) := rfl
theorem mi_a82_108 : mi_look mi_m82.1 108 = some (.getfield 58, 3) := rfl
theorem mi_a82_111 : mi_look mi_m82.1 111 = some (.aload_n 0, 1) := rfl
theorem mi_a82_112 : mi_look mi_m82.1 112 = some (.getfield 49, 3) := rfl
theorem mi_a82_115 : mi_look mi_m82.1 115 = some (.iload 5, 2) := rfl
theorem mi_a82_117 : mi_look mi_m82.1 117 = some (.iaload, 1) := rfl
theorem mi_a82_118 : mi_look mi_m82.1 118 = some (.baload, 1) := rfl
theorem mi_a82_119 : mi_look mi_m82.1 119 = some (.ifCond .eq 6, 3) := rfl
theorem mi_a82_122 : mi_look mi_m82.1 122 = some (.goto 56, 3) := rfl
theorem mi_a82_125 : mi_look mi_m82.1 125 = some (.aload_n 0, 1) := rfl
theorem mi_a82_126 : mi_look mi_m82.1 126 = some (.getfield 58, 3) := rfl
theorem mi_a82_129 : mi_look mi_m82.1 129 = some (.aload_n 0, 1) := rfl
theorem mi_a82_130 : mi_look mi_m82.1 130 = some (.getfield 49, 3) := rfl
theorem mi_a82_133 : mi_look mi_m82.1 133 = some (.iload 5, 2) := rfl
theorem mi_a82_135 : mi_look mi_m82.1 135 = some (.iaload, 1) := rfl
theorem mi_a82_136 : mi_look mi_m82.1 136 = some (.iconst 1, 1) := rfl
theorem mi_a82_137 : mi_look mi_m82.1 137 = some (.bastore, 1) := rfl
theorem mi_a82_138 : mi_look mi_m82.1 138 = some (.aload_n 0, 1) := rfl
theorem mi_a82_139 : mi_look mi_m82.1 139 = some (.getfield 52, 3) := rfl
theorem mi_a82_142 : mi_look mi_m82.1 142 = some (.iload_n 3, 1) := rfl
theorem mi_a82_143 : mi_look mi_m82.1 143 = some (.aload_n 0, 1) := rfl
theorem mi_a82_144 : mi_look mi_m82.1 144 = some (.getfield 49, 3) := rfl
theorem mi_a82_147 : mi_look mi_m82.1 147 = some (.iload 5, 2) := rfl
theorem mi_a82_149 : mi_look mi_m82.1 149 = some (.iaload, 1) := rfl
theorem mi_a82_150 : mi_look mi_m82.1 150 = some (.iastore, 1) := rfl
theorem mi_a82_151 : mi_look mi_m82.1 151 = some (.aload_n 0, 1) := rfl
theorem mi_a82_152 : mi_look mi_m82.1 152 = some (.getfield 55, 3) := rfl
theorem mi_a82_155 : mi_look mi_m82.1 155 = some (.iload_n 3, 1) := rfl
theorem mi_a82_156 : mi_look mi_m82.1 156 = some (.aload_n 0, 1) := rfl
theorem mi_a82_157 : mi_look mi_m82.1 157 = some (.aload_n 0, 1) := rfl
theorem mi_a82_158 : mi_look mi_m82.1 158 = some (.getfield 49, 3) := rfl
theorem mi_a82_161 : mi_look mi_m82.1 161 = some (.iload 5, 2) := rfl
theorem mi_a82_163 : mi_look mi_m82.1 163 = some (.iaload, 1) := rfl
theorem mi_a82_164 : mi_look mi_m82.1 164 = some (.aload_n 0, 1) := rfl
theorem mi_a82_165 : mi_look mi_m82.1 165 = some (.getfield 55, 3) := rfl
theorem mi_a82_168 : mi_look mi_m82.1 168 = some (.iload 4, 2) := rfl
theorem mi_a82_170 : mi_look mi_m82.1 170 = some (.iaload, 1) := rfl
theorem mi_a82_171 : mi_look mi_m82.1 171 = some (.invokevirtual 163, 3) := rfl
theorem mi_a82_174 : mi_look mi_m82.1 174 = some (.iastore, 1) := rfl
theorem mi_a82_175 : mi_look mi_m82.1 175 = some (.iinc 3 1, 3) := rfl
theorem mi_a82_178 : mi_look mi_m82.1 178 = some (.iinc 5 1, 3) := rfl
theorem mi_a82_181 : mi_look mi_m82.1 181 = some (.goto (-100), 3) := rfl
theorem mi_a82_184 : mi_look mi_m82.1 184 = some (.iinc 4 1, 3) := rfl
theorem mi_a82_187 : mi_look mi_m82.1 187 = some (.goto (-115), 3) := rfl
theorem mi_a82_190 : mi_look mi_m82.1 190 = some (.iload_n 3, 1) := rfl
theorem mi_a82_191 : mi_look mi_m82.1 191 = some (.ireturn, 1) := rfl
theorem mi_a83_0 : mi_look mi_m83.1 0 = some (.aload_n 0, 1) := rfl
theorem mi_a83_1 : mi_look mi_m83.1 1 = some (.iload_n 1, 1) := rfl
theorem mi_a83_2 : mi_look mi_m83.1 2 = some (.invokevirtual 129, 3) := rfl
theorem mi_a83_5 : mi_look mi_m83.1 5 = some (.ifCond .eq 10, 3) := rfl
theorem mi_a83_8 : mi_look mi_m83.1 8 = some (.iload_n 2, 1) := rfl
theorem mi_a83_9 : mi_look mi_m83.1 9 = some (.invokestatic 136, 3) := rfl
theorem mi_a83_12 : mi_look mi_m83.1 12 = some (.ifCond .ne 7, 3) := rfl
theorem mi_a83_15 : mi_look mi_m83.1 15 = some (.iconst (-1), 1) := rfl
theorem mi_a83_16 : mi_look mi_m83.1 16 = some (.goto 17, 3) := rfl
theorem mi_a83_19 : mi_look mi_m83.1 19 = some (.aload_n 0, 1) := rfl
theorem mi_a83_20 : mi_look mi_m83.1 20 = some (.iload_n 1, 1) := rfl
theorem mi_a83_21 : mi_look mi_m83.1 21 = some (.iload_n 2, 1) := rfl
theorem mi_a83_22 : mi_look mi_m83.1 22 = some (.invokevirtual 139, 3) := rfl
theorem mi_a83_25 : mi_look mi_m83.1 25 = some (.ifCond .eq 7, 3) := rfl
theorem mi_a83_28 : mi_look mi_m83.1 28 = some (.iconst 1, 1) := rfl
theorem mi_a83_29 : mi_look mi_m83.1 29 = some (.goto 4, 3) := rfl
theorem mi_a83_32 : mi_look mi_m83.1 32 = some (.iconst 0, 1) := rfl
theorem mi_a83_33 : mi_look mi_m83.1 33 = some (.ireturn, 1) := rfl
theorem mi_a84_0 : mi_look mi_m84.1 0 = some (.iload_n 1, 1) := rfl
theorem mi_a84_1 : mi_look mi_m84.1 1 = some (.ifCond .lt 17, 3) := rfl
theorem mi_a84_4 : mi_look mi_m84.1 4 = some (.iload_n 1, 1) := rfl
theorem mi_a84_5 : mi_look mi_m84.1 5 = some (.bipush 64, 2) := rfl
theorem mi_a84_7 : mi_look mi_m84.1 7 = some (.if_icmp .ge 11, 3) := rfl
theorem mi_a84_10 : mi_look mi_m84.1 10 = some (.iload_n 1, 1) := rfl
theorem mi_a84_11 : mi_look mi_m84.1 11 = some (.aload_n 0, 1) := rfl
theorem mi_a84_12 : mi_look mi_m84.1 12 = some (.getfield 102, 3) := rfl
theorem mi_a84_15 : mi_look mi_m84.1 15 = some (.if_icmp .lt 7, 3) := rfl
theorem mi_a84_18 : mi_look mi_m84.1 18 = some (.iconst (-1), 1) := rfl
theorem mi_a84_19 : mi_look mi_m84.1 19 = some (.goto 9, 3) := rfl
theorem mi_a84_22 : mi_look mi_m84.1 22 = some (.aload_n 0, 1) := rfl
theorem mi_a84_23 : mi_look mi_m84.1 23 = some (.getfield 62, 3) := rfl
theorem mi_a84_26 : mi_look mi_m84.1 26 = some (.iload_n 1, 1) := rfl
theorem mi_a84_27 : mi_look mi_m84.1 27 = some (.iaload, 1) := rfl
theorem mi_a84_28 : mi_look mi_m84.1 28 = some (.ireturn, 1) := rfl
theorem mi_a85_0 : mi_look mi_m85.1 0 = some (.aload_n 0, 1) := rfl
theorem mi_a85_1 : mi_look mi_m85.1 1 = some (.getfield 102, 3) := rfl
theorem mi_a85_4 : mi_look mi_m85.1 4 = some (.ireturn, 1) := rfl
theorem mi_a86_0 : mi_look mi_m86.1 0 = some (.aload_n 0, 1) := rfl
theorem mi_a86_1 : mi_look mi_m86.1 1 = some (.iload_n 1, 1) := rfl
theorem mi_a86_2 : mi_look mi_m86.1 2 = some (.invokevirtual 129, 3) := rfl
theorem mi_a86_5 : mi_look mi_m86.1 5 = some (.ifCond .eq 12, 3) := rfl
theorem mi_a86_8 : mi_look mi_m86.1 8 = some (.iload_n 2, 1) := rfl
theorem mi_a86_9 : mi_look mi_m86.1 9 = some (.ifCond .lt 8, 3) := rfl
theorem mi_a86_12 : mi_look mi_m86.1 12 = some (.iload_n 2, 1) := rfl
theorem mi_a86_13 : mi_look mi_m86.1 13 = some (.iconst 5, 1) := rfl
theorem mi_a86_14 : mi_look mi_m86.1 14 = some (.if_icmp .le 9, 3) := rfl
theorem mi_a86_17 : mi_look mi_m86.1 17 = some (.aload_n 0, 1) := rfl
theorem mi_a86_18 : mi_look mi_m86.1 18 = some (.iconst 1, 1) := rfl
theorem mi_a86_19 : mi_look mi_m86.1 19 = some (.invokevirtual 151, 3) := rfl
theorem mi_a86_22 : mi_look mi_m86.1 22 = some (.ireturn, 1) := rfl
theorem mi_a86_23 : mi_look mi_m86.1 23 = some (.aload_n 0, 1) := rfl
theorem mi_a86_24 : mi_look mi_m86.1 24 = some (.iconst 0, 1) := rfl
theorem mi_a86_25 : mi_look mi_m86.1 25 = some (.putfield 126, 3) := rfl
theorem mi_a86_28 : mi_look mi_m86.1 28 = some (.iload_n 2, 1) := rfl
theorem mi_a86_29 : mi_look mi_m86.1 29 = some (.ifCond .ne 10, 3) := rfl
theorem mi_a86_32 : mi_look mi_m86.1 32 = some (.aload_n 0, 1) := rfl
theorem mi_a86_33 : mi_look mi_m86.1 33 = some (.getfield 34, 3) := rfl
theorem mi_a86_36 : mi_look mi_m86.1 36 = some (.iload_n 1, 1) := rfl
theorem mi_a86_37 : mi_look mi_m86.1 37 = some (.iaload, 1) := rfl
theorem mi_a86_38 : mi_look mi_m86.1 38 = some (.ireturn, 1) := rfl
theorem mi_a86_39 : mi_look mi_m86.1 39 = some (.iload_n 2, 1) := rfl
theorem mi_a86_40 : mi_look mi_m86.1 40 = some (.iconst 1, 1) := rfl
theorem mi_a86_41 : mi_look mi_m86.1 41 = some (.if_icmp .ne 10, 3) := rfl
theorem mi_a86_44 : mi_look mi_m86.1 44 = some (.aload_n 0, 1) := rfl
theorem mi_a86_45 : mi_look mi_m86.1 45 = some (.getfield 37, 3) := rfl
theorem mi_a86_48 : mi_look mi_m86.1 48 = some (.iload_n 1, 1) := rfl
theorem mi_a86_49 : mi_look mi_m86.1 49 = some (.iaload, 1) := rfl
theorem mi_a86_50 : mi_look mi_m86.1 50 = some (.ireturn, 1) := rfl
theorem mi_a86_51 : mi_look mi_m86.1 51 = some (.iload_n 2, 1) := rfl
theorem mi_a86_52 : mi_look mi_m86.1 52 = some (.iconst 2, 1) := rfl
theorem mi_a86_53 : mi_look mi_m86.1 53 = some (.if_icmp .ne 10, 3) := rfl
theorem mi_a86_56 : mi_look mi_m86.1 56 = some (.aload_n 0, 1) := rfl
theorem mi_a86_57 : mi_look mi_m86.1 57 = some (.getfield 40, 3) := rfl
theorem mi_a86_60 : mi_look mi_m86.1 60 = some (.iload_n 1, 1) := rfl
theorem mi_a86_61 : mi_look mi_m86.1 61 = some (.iaload, 1) := rfl
theorem mi_a86_62 : mi_look mi_m86.1 62 = some (.ireturn, 1) := rfl
theorem mi_a86_63 : mi_look mi_m86.1 63 = some (.iload_n 2, 1) := rfl
theorem mi_a86_64 : mi_look mi_m86.1 64 = some (.iconst 5, 1) := rfl
theorem mi_a86_65 : mi_look mi_m86.1 65 = some (.if_icmp .ne 10, 3) := rfl
theorem mi_a86_68 : mi_look mi_m86.1 68 = some (.aload_n 0, 1) := rfl
theorem mi_a86_69 : mi_look mi_m86.1 69 = some (.getfield 43, 3) := rfl
theorem mi_a86_72 : mi_look mi_m86.1 72 = some (.iload_n 1, 1) := rfl
theorem mi_a86_73 : mi_look mi_m86.1 73 = some (.iaload, 1) := rfl
theorem mi_a86_74 : mi_look mi_m86.1 74 = some (.ireturn, 1) := rfl
theorem mi_a86_75 : mi_look mi_m86.1 75 = some (.iconst 0, 1) := rfl
theorem mi_a86_76 : mi_look mi_m86.1 76 = some (.istore_n 3, 1) := rfl
theorem mi_a86_77 : mi_look mi_m86.1 77 = some (.iconst 0, 1) := rfl
theorem mi_a86_78 : mi_look mi_m86.1 78 = some (.istore 4, 2) := rfl
theorem mi_a86_80 : mi_look mi_m86.1 80 = some (.iload 4, 2) := rfl
theorem mi_a86_82 : mi_look mi_m86.1 82 = some (.aload_n 0, 1) := rfl
theorem mi_a86_83 : mi_look mi_m86.1 83 = some (.getfield 160, 3) := rfl
theorem mi_a86_86 : mi_look mi_m86.1 86 = some (.if_icmp .ge 38, 3) := rfl
theorem mi_a86_89 : mi_look mi_m86.1 89 = some (.iload_n 2, 1) := rfl
theorem mi_a86_90 : mi_look mi_m86.1 90 = some (.iconst 3, 1) := rfl
theorem mi_a86_91 : mi_look mi_m86.1 91 = some (.if_icmp .ne 13, 3) := rfl
theorem mi_a86_94 : mi_look mi_m86.1 94 = some (.aload_n 0, 1) := rfl
theorem mi_a86_95 : mi_look mi_m86.1 95 = some (.getfield 46, 3) := rfl
theorem mi_a86_98 : mi_look mi_m86.1 98 = some (.iload 4, 2) := rfl
theorem mi_a86_100 : mi_look mi_m86.1 100 = some (.iaload, 1) := rfl
theorem mi_a86_101 : mi_look mi_m86.1 101 = some (.goto 10, 3) := rfl
theorem mi_a86_104 : mi_look mi_m86.1 104 = some (.aload_n 0, 1) := rfl
theorem mi_a86_105 : mi_look mi_m86.1 105 = some (.getfield 49, 3) := rfl
theorem mi_a86_108 : mi_look mi_m86.1 108 = some (.iload 4, 2) := rfl
theorem mi_a86_110 : mi_look mi_m86.1 110 = some (.iaload, 1) := rfl
theorem mi_a86_111 : mi_look mi_m86.1 111 = some (.iload_n 1, 1) := rfl
theorem mi_a86_112 : mi_look mi_m86.1 112 = some (.if_icmp .ne 6, 3) := rfl
theorem mi_a86_115 : mi_look mi_m86.1 115 = some (.iinc 3 1, 3) := rfl
theorem mi_a86_118 : mi_look mi_m86.1 118 = some (.iinc 4 1, 3) := rfl
theorem mi_a86_121 : mi_look mi_m86.1 121 = some (.goto (-41), 3) := rfl
theorem mi_a86_124 : mi_look mi_m86.1 124 = some (.iload_n 3, 1) := rfl
theorem mi_a86_125 : mi_look mi_m86.1 125 = some (.ireturn, 1) := rfl
theorem mi_a87_0 : mi_look mi_m87.1 0 = some (.iload_n 1, 1) := rfl
theorem mi_a87_1 : mi_look mi_m87.1 1 = some (.ifCond .lt 9, 3) := rfl
theorem mi_a87_4 : mi_look mi_m87.1 4 = some (.iload_n 1, 1) := rfl
theorem mi_a87_5 : mi_look mi_m87.1 5 = some (.bipush 7, 2) := rfl
theorem mi_a87_7 : mi_look mi_m87.1 7 = some (.if_icmp .lt 5, 3) := rfl
theorem mi_a87_10 : mi_look mi_m87.1 10 = some (.iconst (-1), 1) := rfl
theorem mi_a87_11 : mi_look mi_m87.1 11 = some (.ireturn, 1) := rfl
theorem mi_a87_12 : mi_look mi_m87.1 12 = some (.iload_n 1, 1) := rfl
theorem mi_a87_13 : mi_look mi_m87.1 13 = some (.iconst 2, 1) := rfl
theorem mi_a87_14 : mi_look mi_m87.1 14 = some (.if_icmp .ge 19, 3) := rfl
theorem mi_a87_17 : mi_look mi_m87.1 17 = some (.iload_n 1, 1) := rfl
theorem mi_a87_18 : mi_look mi_m87.1 18 = some (.ifCond .ne 10, 3) := rfl
theorem mi_a87_21 : mi_look mi_m87.1 21 = some (.aload_n 0, 1) := rfl
theorem mi_a87_22 : mi_look mi_m87.1 22 = some (.getfield 123, 3) := rfl
theorem mi_a87_25 : mi_look mi_m87.1 25 = some (.goto 7, 3) := rfl
theorem mi_a87_28 : mi_look mi_m87.1 28 = some (.aload_n 0, 1) := rfl
theorem mi_a87_29 : mi_look mi_m87.1 29 = some (.getfield 160, 3) := rfl
theorem mi_a87_32 : mi_look mi_m87.1 32 = some (.ireturn, 1) := rfl
theorem mi_a87_33 : mi_look mi_m87.1 33 = some (.iconst 0, 1) := rfl
theorem mi_a87_34 : mi_look mi_m87.1 34 = some (.istore_n 2, 1) := rfl
theorem mi_a87_35 : mi_look mi_m87.1 35 = some (.iconst 0, 1) := rfl
theorem mi_a87_36 : mi_look mi_m87.1 36 = some (.istore_n 3, 1) := rfl
theorem mi_a87_37 : mi_look mi_m87.1 37 = some (.iload_n 3, 1) := rfl
theorem mi_a87_38 : mi_look mi_m87.1 38 = some (.aload_n 0, 1) := rfl
theorem mi_a87_39 : mi_look mi_m87.1 39 = some (.getfield 123, 3) := rfl
theorem mi_a87_42 : mi_look mi_m87.1 42 = some (.if_icmp .ge 21, 3) := rfl
theorem mi_a87_45 : mi_look mi_m87.1 45 = some (.aload_n 0, 1) := rfl
theorem mi_a87_46 : mi_look mi_m87.1 46 = some (.iload_n 3, 1) := rfl
theorem mi_a87_47 : mi_look mi_m87.1 47 = some (.iload_n 1, 1) := rfl
theorem mi_a87_48 : mi_look mi_m87.1 48 = some (.invokevirtual 139, 3) := rfl
theorem mi_a87_51 : mi_look mi_m87.1 51 = some (.ifCond .eq 6, 3) := rfl
theorem mi_a87_54 : mi_look mi_m87.1 54 = some (.iinc 2 1, 3) := rfl
theorem mi_a87_57 : mi_look mi_m87.1 57 = some (.iinc 3 1, 3) := rfl
theorem mi_a87_60 : mi_look mi_m87.1 60 = some (.goto (-23), 3) := rfl
theorem mi_a87_63 : mi_look mi_m87.1 63 = some (.iload_n 2, 1) := rfl
theorem mi_a87_64 : mi_look mi_m87.1 64 = some (.ireturn, 1) := rfl
theorem mi_a88_0 : mi_look mi_m88.1 0 = some (.aload_n 0, 1) := rfl
theorem mi_a88_1 : mi_look mi_m88.1 1 = some (.getfield 126, 3) := rfl
theorem mi_a88_4 : mi_look mi_m88.1 4 = some (.ireturn, 1) := rfl
