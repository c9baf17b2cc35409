theorem dM_init_0 : decode cM_init 0 = .ok (.aload_n 0, 1) := by decide +kernel
theorem dM_init_1 : decode cM_init 1 = .ok (.invokespecial 1, 3) := by decide +kernel
theorem dM_init_4 : decode cM_init 4 = .ok (.aload_n 0, 1) := by decide +kernel
theorem dM_init_5 : decode cM_init 5 = .ok (.bipush 24, 2) := by decide +kernel
theorem dM_init_7 : decode cM_init 7 = .ok (.newarray .int, 2) := by decide +kernel
theorem dM_init_9 : decode cM_init 9 = .ok (.putfield 7, 3) := by decide +kernel
theorem dM_init_12 : decode cM_init 12 = .ok (.aload_n 0, 1) := by decide +kernel
theorem dM_init_13 : decode cM_init 13 = .ok (.bipush 24, 2) := by decide +kernel
theorem dM_init_15 : decode cM_init 15 = .ok (.newarray .int, 2) := by decide +kernel
theorem dM_init_17 : decode cM_init 17 = .ok (.putfield 13, 3) := by decide +kernel
theorem dM_init_20 : decode cM_init 20 = .ok (.aload_n 0, 1) := by decide +kernel
theorem dM_init_21 : decode cM_init 21 = .ok (.bipush 24, 2) := by decide +kernel
theorem dM_init_23 : decode cM_init 23 = .ok (.newarray .int, 2) := by decide +kernel
theorem dM_init_25 : decode cM_init 25 = .ok (.putfield 16, 3) := by decide +kernel
theorem dM_init_28 : decode cM_init 28 = .ok (.aload_n 0, 1) := by decide +kernel
theorem dM_init_29 : decode cM_init 29 = .ok (.bipush 24, 2) := by decide +kernel
theorem dM_init_31 : decode cM_init 31 = .ok (.newarray .int, 2) := by decide +kernel
theorem dM_init_33 : decode cM_init 33 = .ok (.putfield 19, 3) := by decide +kernel
theorem dM_init_36 : decode cM_init 36 = .ok (.aload_n 0, 1) := by decide +kernel
theorem dM_init_37 : decode cM_init 37 = .ok (.bipush 24, 2) := by decide +kernel
theorem dM_init_39 : decode cM_init 39 = .ok (.newarray .int, 2) := by decide +kernel
theorem dM_init_41 : decode cM_init 41 = .ok (.putfield 22, 3) := by decide +kernel
theorem dM_init_44 : decode cM_init 44 = .ok (.aload_n 0, 1) := by decide +kernel
theorem dM_init_45 : decode cM_init 45 = .ok (.bipush 24, 2) := by decide +kernel
theorem dM_init_47 : decode cM_init 47 = .ok (.newarray .boolean, 2) := by decide +kernel
theorem dM_init_49 : decode cM_init 49 = .ok (.putfield 25, 3) := by decide +kernel
theorem dM_init_52 : decode cM_init 52 = .ok (.aload_n 0, 1) := by decide +kernel
theorem dM_init_53 : decode cM_init 53 = .ok (.bipush 6, 2) := by decide +kernel
theorem dM_init_55 : decode cM_init 55 = .ok (.newarray .boolean, 2) := by decide +kernel
theorem dM_init_57 : decode cM_init 57 = .ok (.putfield 29, 3) := by decide +kernel
theorem dM_init_60 : decode cM_init 60 = .ok (.aload_n 0, 1) := by decide +kernel
theorem dM_init_61 : decode cM_init 61 = .ok (.bipush 6, 2) := by decide +kernel
theorem dM_init_63 : decode cM_init 63 = .ok (.newarray .int, 2) := by decide +kernel
theorem dM_init_65 : decode cM_init 65 = .ok (.putfield 32, 3) := by decide +kernel
theorem dM_init_68 : decode cM_init 68 = .ok (.aload_n 0, 1) := by decide +kernel
theorem dM_init_69 : decode cM_init 69 = .ok (.bipush 6, 2) := by decide +kernel
theorem dM_init_71 : decode cM_init 71 = .ok (.newarray .int, 2) := by decide +kernel
theorem dM_init_73 : decode cM_init 73 = .ok (.putfield 35, 3) := by decide +kernel
theorem dM_init_76 : decode cM_init 76 = .ok (.aload_n 0, 1) := by decide +kernel
theorem dM_init_77 : decode cM_init 77 = .ok (.bipush 6, 2) := by decide +kernel
theorem dM_init_79 : decode cM_init 79 = .ok (.newarray .int, 2) := by decide +kernel
theorem dM_init_81 : decode cM_init 81 = .ok (.putfield 38, 3) := by decide +kernel
theorem dM_init_84 : decode cM_init 84 = .ok (.aload_n 0, 1) := by decide +kernel
theorem dM_init_85 : decode cM_init 85 = .ok (.bipush 6, 2) := by decide +kernel
theorem dM_init_87 : decode cM_init 87 = .ok (.newarray .int, 2) := by decide +kernel
theorem dM_init_89 : decode cM_init 89 = .ok (.putfield 41, 3) := by decide +kernel
theorem dM_init_92 : decode cM_init 92 = .ok (.aload_n 0, 1) := by decide +kernel
theorem dM_init_93 : decode cM_init 93 = .ok (.bipush 6, 2) := by decide +kernel
theorem dM_init_95 : decode cM_init 95 = .ok (.newarray .int, 2) := by decide +kernel
theorem dM_init_97 : decode cM_init 97 = .ok (.putfield 44, 3) := by decide +kernel
theorem dM_init_100 : decode cM_init 100 = .ok (.aload_n 0, 1) := by decide +kernel
theorem dM_init_101 : decode cM_init 101 = .ok (.bipush 6, 2) := by decide +kernel
theorem dM_init_103 : decode cM_init 103 = .ok (.newarray .int, 2) := by decide +kernel
theorem dM_init_105 : decode cM_init 105 = .ok (.putfield 47, 3) := by decide +kernel
theorem dM_init_108 : decode cM_init 108 = .ok (.aload_n 0, 1) := by decide +kernel
theorem dM_init_109 : decode cM_init 109 = .ok (.bipush 36, 2) := by decide +kernel
theorem dM_init_111 : decode cM_init 111 = .ok (.newarray .int, 2) := by decide +kernel
theorem dM_init_113 : decode cM_init 113 = .ok (.putfield 50, 3) := by decide +kernel
theorem dM_init_116 : decode cM_init 116 = .ok (.aload_n 0, 1) := by decide +kernel
theorem dM_init_117 : decode cM_init 117 = .ok (.bipush 36, 2) := by decide +kernel
theorem dM_init_119 : decode cM_init 119 = .ok (.newarray .int, 2) := by decide +kernel
theorem dM_init_121 : decode cM_init 121 = .ok (.putfield 53, 3) := by decide +kernel
theorem dM_init_124 : decode cM_init 124 = .ok (.aload_n 0, 1) := by decide +kernel
theorem dM_init_125 : decode cM_init 125 = .ok (.bipush 64, 2) := by decide +kernel
theorem dM_init_127 : decode cM_init 127 = .ok (.newarray .boolean, 2) := by decide +kernel
theorem dM_init_129 : decode cM_init 129 = .ok (.putfield 56, 3) := by decide +kernel
theorem dM_init_132 : decode cM_init 132 = .ok (.aload_n 0, 1) := by decide +kernel
theorem dM_init_133 : decode cM_init 133 = .ok (.iload_n 1, 1) := by decide +kernel
theorem dM_init_134 : decode cM_init 134 = .ok (.iconst 1, 1) := by decide +kernel
theorem dM_init_135 : decode cM_init 135 = .ok (.if_icmp .ge 7, 3) := by decide +kernel
theorem dM_init_138 : decode cM_init 138 = .ok (.iconst 1, 1) := by decide +kernel
theorem dM_init_139 : decode cM_init 139 = .ok (.goto 15, 3) := by decide +kernel
theorem dM_init_142 : decode cM_init 142 = .ok (.iload_n 1, 1) := by decide +kernel
theorem dM_init_143 : decode cM_init 143 = .ok (.bipush 6, 2) := by decide +kernel
theorem dM_init_145 : decode cM_init 145 = .ok (.if_icmp .le 8, 3) := by decide +kernel
theorem dM_init_148 : decode cM_init 148 = .ok (.bipush 6, 2) := by decide +kernel
theorem dM_init_150 : decode cM_init 150 = .ok (.goto 4, 3) := by decide +kernel
theorem dM_init_153 : decode cM_init 153 = .ok (.iload_n 1, 1) := by decide +kernel
theorem dM_init_154 : decode cM_init 154 = .ok (.putfield 59, 3) := by decide +kernel
theorem dM_init_157 : decode cM_init 157 = .ok (.iconst 0, 1) := by decide +kernel
theorem dM_init_158 : decode cM_init 158 = .ok (.istore_n 2, 1) := by decide +kernel
theorem dM_init_159 : decode cM_init 159 = .ok (.iload_n 2, 1) := by decide +kernel
theorem dM_init_160 : decode cM_init 160 = .ok (.bipush 6, 2) := by decide +kernel
theorem dM_init_162 : decode cM_init 162 = .ok (.if_icmp .ge 16, 3) := by decide +kernel
theorem dM_init_165 : decode cM_init 165 = .ok (.aload_n 0, 1) := by decide +kernel
theorem dM_init_166 : decode cM_init 166 = .ok (.getfield 47, 3) := by decide +kernel
theorem dM_init_169 : decode cM_init 169 = .ok (.iload_n 2, 1) := by decide +kernel
theorem dM_init_170 : decode cM_init 170 = .ok (.iconst (-1), 1) := by decide +kernel
theorem dM_init_171 : decode cM_init 171 = .ok (.iastore, 1) := by decide +kernel
theorem dM_init_172 : decode cM_init 172 = .ok (.iinc 2 1, 3) := by decide +kernel
theorem dM_init_175 : decode cM_init 175 = .ok (.goto (-16), 3) := by decide +kernel
theorem dM_init_178 : decode cM_init 178 = .ok (.return_, 1) := by decide +kernel
theorem dM_isNode_0 : decode cM_isNode 0 = .ok (.iload_n 1, 1) := by decide +kernel
theorem dM_isNode_1 : decode cM_isNode 1 = .ok (.ifCond .lt 15, 3) := by decide +kernel
theorem dM_isNode_4 : decode cM_isNode 4 = .ok (.iload_n 1, 1) := by decide +kernel
theorem dM_isNode_5 : decode cM_isNode 5 = .ok (.aload_n 0, 1) := by decide +kernel
theorem dM_isNode_6 : decode cM_isNode 6 = .ok (.getfield 59, 3) := by decide +kernel
theorem dM_isNode_9 : decode cM_isNode 9 = .ok (.if_icmp .ge 7, 3) := by decide +kernel
theorem dM_isNode_12 : decode cM_isNode 12 = .ok (.iconst 1, 1) := by decide +kernel
theorem dM_isNode_13 : decode cM_isNode 13 = .ok (.goto 4, 3) := by decide +kernel
theorem dM_isNode_16 : decode cM_isNode 16 = .ok (.iconst 0, 1) := by decide +kernel
theorem dM_isNode_17 : decode cM_isNode 17 = .ok (.ireturn, 1) := by decide +kernel
theorem dM_well_0 : decode cM_well 0 = .ok (.aload_n 0, 1) := by decide +kernel
theorem dM_well_1 : decode cM_well 1 = .ok (.iload_n 1, 1) := by decide +kernel
theorem dM_well_2 : decode cM_well 2 = .ok (.invokevirtual 63, 3) := by decide +kernel
theorem dM_well_5 : decode cM_well 5 = .ok (.ifCond .eq 16, 3) := by decide +kernel
theorem dM_well_8 : decode cM_well 8 = .ok (.aload_n 0, 1) := by decide +kernel
theorem dM_well_9 : decode cM_well 9 = .ok (.getfield 29, 3) := by decide +kernel
theorem dM_well_12 : decode cM_well 12 = .ok (.iload_n 1, 1) := by decide +kernel
theorem dM_well_13 : decode cM_well 13 = .ok (.baload, 1) := by decide +kernel
theorem dM_well_14 : decode cM_well 14 = .ok (.ifCond .ne 7, 3) := by decide +kernel
theorem dM_well_17 : decode cM_well 17 = .ok (.iconst 1, 1) := by decide +kernel
theorem dM_well_18 : decode cM_well 18 = .ok (.goto 4, 3) := by decide +kernel
theorem dM_well_21 : decode cM_well 21 = .ok (.iconst 0, 1) := by decide +kernel
theorem dM_well_22 : decode cM_well 22 = .ok (.ireturn, 1) := by decide +kernel
theorem dM_isSet_0 : decode cM_isSet 0 = .ok (.iload_n 1, 1) := by decide +kernel
theorem dM_isSet_1 : decode cM_isSet 1 = .ok (.ifCond .lt 17, 3) := by decide +kernel
theorem dM_isSet_4 : decode cM_isSet 4 = .ok (.iload_n 1, 1) := by decide +kernel
theorem dM_isSet_5 : decode cM_isSet 5 = .ok (.iconst 1, 1) := by decide +kernel
theorem dM_isSet_6 : decode cM_isSet 6 = .ok (.aload_n 0, 1) := by decide +kernel
theorem dM_isSet_7 : decode cM_isSet 7 = .ok (.getfield 59, 3) := by decide +kernel
theorem dM_isSet_10 : decode cM_isSet 10 = .ok (.ishl, 1) := by decide +kernel
theorem dM_isSet_11 : decode cM_isSet 11 = .ok (.if_icmp .ge 7, 3) := by decide +kernel
theorem dM_isSet_14 : decode cM_isSet 14 = .ok (.iconst 1, 1) := by decide +kernel
theorem dM_isSet_15 : decode cM_isSet 15 = .ok (.goto 4, 3) := by decide +kernel
theorem dM_isSet_18 : decode cM_isSet 18 = .ok (.iconst 0, 1) := by decide +kernel
theorem dM_isSet_19 : decode cM_isSet 19 = .ok (.ireturn, 1) := by decide +kernel
theorem dM_top_0 : decode cM_top 0 = .ok (.iconst (-1), 1) := by decide +kernel
theorem dM_top_1 : decode cM_top 1 = .ok (.istore_n 2, 1) := by decide +kernel
theorem dM_top_2 : decode cM_top 2 = .ok (.iconst 0, 1) := by decide +kernel
theorem dM_top_3 : decode cM_top 3 = .ok (.istore_n 3, 1) := by decide +kernel
theorem dM_top_4 : decode cM_top 4 = .ok (.iload_n 3, 1) := by decide +kernel
theorem dM_top_5 : decode cM_top 5 = .ok (.aload_n 0, 1) := by decide +kernel
theorem dM_top_6 : decode cM_top 6 = .ok (.getfield 67, 3) := by decide +kernel
theorem dM_top_9 : decode cM_top 9 = .ok (.if_icmp .ge 35, 3) := by decide +kernel
theorem dM_top_12 : decode cM_top 12 = .ok (.aload_n 0, 1) := by decide +kernel
theorem dM_top_13 : decode cM_top 13 = .ok (.getfield 7, 3) := by decide +kernel
theorem dM_top_16 : decode cM_top 16 = .ok (.iload_n 3, 1) := by decide +kernel
theorem dM_top_17 : decode cM_top 17 = .ok (.iaload, 1) := by decide +kernel
theorem dM_top_18 : decode cM_top 18 = .ok (.iload_n 1, 1) := by decide +kernel
theorem dM_top_19 : decode cM_top 19 = .ok (.if_icmp .ne 17, 3) := by decide +kernel
theorem dM_top_22 : decode cM_top 22 = .ok (.aload_n 0, 1) := by decide +kernel
theorem dM_top_23 : decode cM_top 23 = .ok (.getfield 13, 3) := by decide +kernel
theorem dM_top_26 : decode cM_top 26 = .ok (.iload_n 3, 1) := by decide +kernel
theorem dM_top_27 : decode cM_top 27 = .ok (.iaload, 1) := by decide +kernel
theorem dM_top_28 : decode cM_top 28 = .ok (.iconst (-1), 1) := by decide +kernel
theorem dM_top_29 : decode cM_top 29 = .ok (.if_icmp .ne 7, 3) := by decide +kernel
theorem dM_top_32 : decode cM_top 32 = .ok (.iload_n 3, 1) := by decide +kernel
theorem dM_top_33 : decode cM_top 33 = .ok (.goto 4, 3) := by decide +kernel
theorem dM_top_36 : decode cM_top 36 = .ok (.iload_n 2, 1) := by decide +kernel
theorem dM_top_37 : decode cM_top 37 = .ok (.istore_n 2, 1) := by decide +kernel
theorem dM_top_38 : decode cM_top 38 = .ok (.iinc 3 1, 3) := by decide +kernel
theorem dM_top_41 : decode cM_top 41 = .ok (.goto (-37), 3) := by decide +kernel
theorem dM_top_44 : decode cM_top 44 = .ok (.iload_n 2, 1) := by decide +kernel
theorem dM_top_45 : decode cM_top 45 = .ok (.ireturn, 1) := by decide +kernel
theorem dM_quota_0 : decode cM_quota 0 = .ok (.aload_n 0, 1) := by decide +kernel
theorem dM_quota_1 : decode cM_quota 1 = .ok (.getfield 70, 3) := by decide +kernel
theorem dM_quota_4 : decode cM_quota 4 = .ok (.ifCond .ne 35, 3) := by decide +kernel
theorem dM_quota_7 : decode cM_quota 7 = .ok (.aload_n 0, 1) := by decide +kernel
theorem dM_quota_8 : decode cM_quota 8 = .ok (.iload_n 1, 1) := by decide +kernel
theorem dM_quota_9 : decode cM_quota 9 = .ok (.invokevirtual 63, 3) := by decide +kernel
theorem dM_quota_12 : decode cM_quota 12 = .ok (.ifCond .eq 27, 3) := by decide +kernel
theorem dM_quota_15 : decode cM_quota 15 = .ok (.iload_n 3, 1) := by decide +kernel
theorem dM_quota_16 : decode cM_quota 16 = .ok (.iconst 1, 1) := by decide +kernel
theorem dM_quota_17 : decode cM_quota 17 = .ok (.if_icmp .lt 22, 3) := by decide +kernel
theorem dM_quota_20 : decode cM_quota 20 = .ok (.iload_n 3, 1) := by decide +kernel
theorem dM_quota_21 : decode cM_quota 21 = .ok (.bipush 9, 2) := by decide +kernel
theorem dM_quota_23 : decode cM_quota 23 = .ok (.if_icmp .gt 16, 3) := by decide +kernel
theorem dM_quota_26 : decode cM_quota 26 = .ok (.iload_n 2, 1) := by decide +kernel
theorem dM_quota_27 : decode cM_quota 27 = .ok (.iconst (-1), 1) := by decide +kernel
theorem dM_quota_28 : decode cM_quota 28 = .ok (.if_icmp .lt 11, 3) := by decide +kernel
theorem dM_quota_31 : decode cM_quota 31 = .ok (.iload_n 2, 1) := by decide +kernel
theorem dM_quota_32 : decode cM_quota 32 = .ok (.aload_n 0, 1) := by decide +kernel
theorem dM_quota_33 : decode cM_quota 33 = .ok (.getfield 67, 3) := by decide +kernel
theorem dM_quota_36 : decode cM_quota 36 = .ok (.if_icmp .lt 5, 3) := by decide +kernel
theorem dM_quota_39 : decode cM_quota 39 = .ok (.iconst (-1), 1) := by decide +kernel
theorem dM_quota_40 : decode cM_quota 40 = .ok (.ireturn, 1) := by decide +kernel
theorem dM_quota_41 : decode cM_quota 41 = .ok (.iconst 0, 1) := by decide +kernel
theorem dM_quota_42 : decode cM_quota 42 = .ok (.istore 4, 2) := by decide +kernel
theorem dM_quota_44 : decode cM_quota 44 = .ok (.iconst 0, 1) := by decide +kernel
theorem dM_quota_45 : decode cM_quota 45 = .ok (.istore 5, 2) := by decide +kernel
theorem dM_quota_47 : decode cM_quota 47 = .ok (.iload 5, 2) := by decide +kernel
theorem dM_quota_49 : decode cM_quota 49 = .ok (.aload_n 0, 1) := by decide +kernel
theorem dM_quota_50 : decode cM_quota 50 = .ok (.getfield 67, 3) := by decide +kernel
theorem dM_quota_53 : decode cM_quota 53 = .ok (.if_icmp .ge 31, 3) := by decide +kernel
theorem dM_quota_56 : decode cM_quota 56 = .ok (.aload_n 0, 1) := by decide +kernel
theorem dM_quota_57 : decode cM_quota 57 = .ok (.getfield 7, 3) := by decide +kernel
theorem dM_quota_60 : decode cM_quota 60 = .ok (.iload 5, 2) := by decide +kernel
theorem dM_quota_62 : decode cM_quota 62 = .ok (.iaload, 1) := by decide +kernel
theorem dM_quota_63 : decode cM_quota 63 = .ok (.iload_n 1, 1) := by decide +kernel
theorem dM_quota_64 : decode cM_quota 64 = .ok (.if_icmp .ne 10, 3) := by decide +kernel
theorem dM_quota_67 : decode cM_quota 67 = .ok (.iload 4, 2) := by decide +kernel
theorem dM_quota_69 : decode cM_quota 69 = .ok (.iconst 1, 1) := by decide +kernel
theorem dM_quota_70 : decode cM_quota 70 = .ok (.iadd, 1) := by decide +kernel
theorem dM_quota_71 : decode cM_quota 71 = .ok (.goto 5, 3) := by decide +kernel
theorem dM_quota_74 : decode cM_quota 74 = .ok (.iload 4, 2) := by decide +kernel
theorem dM_quota_76 : decode cM_quota 76 = .ok (.istore 4, 2) := by decide +kernel
theorem dM_quota_78 : decode cM_quota 78 = .ok (.iinc 5 1, 3) := by decide +kernel
theorem dM_quota_81 : decode cM_quota 81 = .ok (.goto (-34), 3) := by decide +kernel
theorem dM_quota_84 : decode cM_quota 84 = .ok (.iload 4, 2) := by decide +kernel
theorem dM_quota_86 : decode cM_quota 86 = .ok (.iconst 4, 1) := by decide +kernel
theorem dM_quota_87 : decode cM_quota 87 = .ok (.if_icmp .ge 17, 3) := by decide +kernel
theorem dM_quota_90 : decode cM_quota 90 = .ok (.iload_n 2, 1) := by decide +kernel
theorem dM_quota_91 : decode cM_quota 91 = .ok (.iconst (-1), 1) := by decide +kernel
theorem dM_quota_92 : decode cM_quota 92 = .ok (.if_icmp .ne 14, 3) := by decide +kernel
theorem dM_quota_95 : decode cM_quota 95 = .ok (.aload_n 0, 1) := by decide +kernel
theorem dM_quota_96 : decode cM_quota 96 = .ok (.iload_n 1, 1) := by decide +kernel
theorem dM_quota_97 : decode cM_quota 97 = .ok (.invokevirtual 74, 3) := by decide +kernel
theorem dM_quota_100 : decode cM_quota 100 = .ok (.iconst (-1), 1) := by decide +kernel
theorem dM_quota_101 : decode cM_quota 101 = .ok (.if_icmp .eq 5, 3) := by decide +kernel
theorem dM_quota_104 : decode cM_quota 104 = .ok (.iconst (-1), 1) := by decide +kernel
theorem dM_quota_105 : decode cM_quota 105 = .ok (.ireturn, 1) := by decide +kernel
theorem dM_quota_106 : decode cM_quota 106 = .ok (.iload_n 2, 1) := by decide +kernel
theorem dM_quota_107 : decode cM_quota 107 = .ok (.iconst (-1), 1) := by decide +kernel
theorem dM_quota_108 : decode cM_quota 108 = .ok (.if_icmp .eq 25, 3) := by decide +kernel
theorem dM_quota_111 : decode cM_quota 111 = .ok (.aload_n 0, 1) := by decide +kernel
theorem dM_quota_112 : decode cM_quota 112 = .ok (.getfield 7, 3) := by decide +kernel
theorem dM_quota_115 : decode cM_quota 115 = .ok (.iload_n 2, 1) := by decide +kernel
theorem dM_quota_116 : decode cM_quota 116 = .ok (.iaload, 1) := by decide +kernel
theorem dM_quota_117 : decode cM_quota 117 = .ok (.iload_n 1, 1) := by decide +kernel
theorem dM_quota_118 : decode cM_quota 118 = .ok (.if_icmp .ne 13, 3) := by decide +kernel
theorem dM_quota_121 : decode cM_quota 121 = .ok (.aload_n 0, 1) := by decide +kernel
theorem dM_quota_122 : decode cM_quota 122 = .ok (.getfield 16, 3) := by decide +kernel
theorem dM_quota_125 : decode cM_quota 125 = .ok (.iload_n 2, 1) := by decide +kernel
theorem dM_quota_126 : decode cM_quota 126 = .ok (.iaload, 1) := by decide +kernel
theorem dM_quota_127 : decode cM_quota 127 = .ok (.iconst 3, 1) := by decide +kernel
theorem dM_quota_128 : decode cM_quota 128 = .ok (.if_icmp .ne 5, 3) := by decide +kernel
theorem dM_quota_131 : decode cM_quota 131 = .ok (.iconst (-1), 1) := by decide +kernel
theorem dM_quota_132 : decode cM_quota 132 = .ok (.ireturn, 1) := by decide +kernel
theorem dM_quota_133 : decode cM_quota 133 = .ok (.aload_n 0, 1) := by decide +kernel
theorem dM_quota_134 : decode cM_quota 134 = .ok (.getfield 7, 3) := by decide +kernel
theorem dM_quota_137 : decode cM_quota 137 = .ok (.aload_n 0, 1) := by decide +kernel
theorem dM_quota_138 : decode cM_quota 138 = .ok (.getfield 67, 3) := by decide +kernel
theorem dM_quota_141 : decode cM_quota 141 = .ok (.iload_n 1, 1) := by decide +kernel
theorem dM_quota_142 : decode cM_quota 142 = .ok (.iastore, 1) := by decide +kernel
theorem dM_quota_143 : decode cM_quota 143 = .ok (.aload_n 0, 1) := by decide +kernel
theorem dM_quota_144 : decode cM_quota 144 = .ok (.getfield 13, 3) := by decide +kernel
theorem dM_quota_147 : decode cM_quota 147 = .ok (.aload_n 0, 1) := by decide +kernel
theorem dM_quota_148 : decode cM_quota 148 = .ok (.getfield 67, 3) := by decide +kernel
theorem dM_quota_151 : decode cM_quota 151 = .ok (.iload_n 2, 1) := by decide +kernel
theorem dM_quota_152 : decode cM_quota 152 = .ok (.iastore, 1) := by decide +kernel
theorem dM_quota_153 : decode cM_quota 153 = .ok (.aload_n 0, 1) := by decide +kernel
theorem dM_quota_154 : decode cM_quota 154 = .ok (.getfield 16, 3) := by decide +kernel
theorem dM_quota_157 : decode cM_quota 157 = .ok (.aload_n 0, 1) := by decide +kernel
theorem dM_quota_158 : decode cM_quota 158 = .ok (.getfield 67, 3) := by decide +kernel
theorem dM_quota_161 : decode cM_quota 161 = .ok (.iload_n 2, 1) := by decide +kernel
theorem dM_quota_162 : decode cM_quota 162 = .ok (.iconst (-1), 1) := by decide +kernel
theorem dM_quota_163 : decode cM_quota 163 = .ok (.if_icmp .ne 7, 3) := by decide +kernel
theorem dM_quota_166 : decode cM_quota 166 = .ok (.iconst 1, 1) := by decide +kernel
theorem dM_quota_167 : decode cM_quota 167 = .ok (.goto 11, 3) := by decide +kernel
theorem dM_quota_170 : decode cM_quota 170 = .ok (.aload_n 0, 1) := by decide +kernel
theorem dM_quota_171 : decode cM_quota 171 = .ok (.getfield 16, 3) := by decide +kernel
theorem dM_quota_174 : decode cM_quota 174 = .ok (.iload_n 2, 1) := by decide +kernel
theorem dM_quota_175 : decode cM_quota 175 = .ok (.iaload, 1) := by decide +kernel
theorem dM_quota_176 : decode cM_quota 176 = .ok (.iconst 1, 1) := by decide +kernel
theorem dM_quota_177 : decode cM_quota 177 = .ok (.iadd, 1) := by decide +kernel
theorem dM_quota_178 : decode cM_quota 178 = .ok (.iastore, 1) := by decide +kernel
theorem dM_quota_179 : decode cM_quota 179 = .ok (.aload_n 0, 1) := by decide +kernel
theorem dM_quota_180 : decode cM_quota 180 = .ok (.getfield 19, 3) := by decide +kernel
theorem dM_quota_183 : decode cM_quota 183 = .ok (.aload_n 0, 1) := by decide +kernel
theorem dM_quota_184 : decode cM_quota 184 = .ok (.getfield 67, 3) := by decide +kernel
theorem dM_quota_187 : decode cM_quota 187 = .ok (.iload_n 3, 1) := by decide +kernel
theorem dM_quota_188 : decode cM_quota 188 = .ok (.iastore, 1) := by decide +kernel
theorem dM_quota_189 : decode cM_quota 189 = .ok (.aload_n 0, 1) := by decide +kernel
theorem dM_quota_190 : decode cM_quota 190 = .ok (.getfield 22, 3) := by decide +kernel
theorem dM_quota_193 : decode cM_quota 193 = .ok (.aload_n 0, 1) := by decide +kernel
theorem dM_quota_194 : decode cM_quota 194 = .ok (.getfield 67, 3) := by decide +kernel
theorem dM_quota_197 : decode cM_quota 197 = .ok (.iconst 0, 1) := by decide +kernel
theorem dM_quota_198 : decode cM_quota 198 = .ok (.iastore, 1) := by decide +kernel
theorem dM_quota_199 : decode cM_quota 199 = .ok (.aload_n 0, 1) := by decide +kernel
theorem dM_quota_200 : decode cM_quota 200 = .ok (.aload_n 0, 1) := by decide +kernel
theorem dM_quota_201 : decode cM_quota 201 = .ok (.getfield 67, 3) := by decide +kernel
theorem dM_quota_204 : decode cM_quota 204 = .ok (.iconst 1, 1) := by decide +kernel
theorem dM_quota_205 : decode cM_quota 205 = .ok (.iadd, 1) := by decide +kernel
theorem dM_quota_206 : decode cM_quota 206 = .ok (.putfield 67, 3) := by decide +kernel
theorem dM_quota_209 : decode cM_quota 209 = .ok (.aload_n 0, 1) := by decide +kernel
theorem dM_quota_210 : decode cM_quota 210 = .ok (.getfield 67, 3) := by decide +kernel
theorem dM_quota_213 : decode cM_quota 213 = .ok (.iconst 1, 1) := by decide +kernel
theorem dM_quota_214 : decode cM_quota 214 = .ok (.isub, 1) := by decide +kernel
theorem dM_quota_215 : decode cM_quota 215 = .ok (.ireturn, 1) := by decide +kernel
theorem dM_member_0 : decode cM_member 0 = .ok (.aload_n 0, 1) := by decide +kernel
theorem dM_member_1 : decode cM_member 1 = .ok (.getfield 70, 3) := by decide +kernel
theorem dM_member_4 : decode cM_member 4 = .ok (.ifCond .ne 37, 3) := by decide +kernel
theorem dM_member_7 : decode cM_member 7 = .ok (.iload_n 1, 1) := by decide +kernel
theorem dM_member_8 : decode cM_member 8 = .ok (.ifCond .lt 33, 3) := by decide +kernel
theorem dM_member_11 : decode cM_member 11 = .ok (.iload_n 1, 1) := by decide +kernel
theorem dM_member_12 : decode cM_member 12 = .ok (.aload_n 0, 1) := by decide +kernel
theorem dM_member_13 : decode cM_member 13 = .ok (.getfield 67, 3) := by decide +kernel
theorem dM_member_16 : decode cM_member 16 = .ok (.if_icmp .ge 25, 3) := by decide +kernel
theorem dM_member_19 : decode cM_member 19 = .ok (.aload_n 0, 1) := by decide +kernel
theorem dM_member_20 : decode cM_member 20 = .ok (.iload_n 2, 1) := by decide +kernel
theorem dM_member_21 : decode cM_member 21 = .ok (.invokevirtual 63, 3) := by decide +kernel
theorem dM_member_24 : decode cM_member 24 = .ok (.ifCond .eq 17, 3) := by decide +kernel
theorem dM_member_27 : decode cM_member 27 = .ok (.aload_n 0, 1) := by decide +kernel
theorem dM_member_28 : decode cM_member 28 = .ok (.getfield 22, 3) := by decide +kernel
theorem dM_member_31 : decode cM_member 31 = .ok (.iload_n 1, 1) := by decide +kernel
theorem dM_member_32 : decode cM_member 32 = .ok (.iaload, 1) := by decide +kernel
theorem dM_member_33 : decode cM_member 33 = .ok (.iload_n 2, 1) := by decide +kernel
theorem dM_member_34 : decode cM_member 34 = .ok (.ishr, 1) := by decide +kernel
theorem dM_member_35 : decode cM_member 35 = .ok (.iconst 1, 1) := by decide +kernel
theorem dM_member_36 : decode cM_member 36 = .ok (.iand, 1) := by decide +kernel
theorem dM_member_37 : decode cM_member 37 = .ok (.iconst 1, 1) := by decide +kernel
theorem dM_member_38 : decode cM_member 38 = .ok (.if_icmp .ne 5, 3) := by decide +kernel
theorem dM_member_41 : decode cM_member 41 = .ok (.iconst 0, 1) := by decide +kernel
theorem dM_member_42 : decode cM_member 42 = .ok (.ireturn, 1) := by decide +kernel
theorem dM_member_43 : decode cM_member 43 = .ok (.aload_n 0, 1) := by decide +kernel
theorem dM_member_44 : decode cM_member 44 = .ok (.getfield 22, 3) := by decide +kernel
theorem dM_member_47 : decode cM_member 47 = .ok (.iload_n 1, 1) := by decide +kernel
theorem dM_member_48 : decode cM_member 48 = .ok (.aload_n 0, 1) := by decide +kernel
theorem dM_member_49 : decode cM_member 49 = .ok (.getfield 22, 3) := by decide +kernel
theorem dM_member_52 : decode cM_member 52 = .ok (.iload_n 1, 1) := by decide +kernel
theorem dM_member_53 : decode cM_member 53 = .ok (.iaload, 1) := by decide +kernel
theorem dM_member_54 : decode cM_member 54 = .ok (.iconst 1, 1) := by decide +kernel
theorem dM_member_55 : decode cM_member 55 = .ok (.iload_n 2, 1) := by decide +kernel
theorem dM_member_56 : decode cM_member 56 = .ok (.ishl, 1) := by decide +kernel
theorem dM_member_57 : decode cM_member 57 = .ok (.ior, 1) := by decide +kernel
theorem dM_member_58 : decode cM_member 58 = .ok (.iastore, 1) := by decide +kernel
theorem dM_member_59 : decode cM_member 59 = .ok (.iconst 1, 1) := by decide +kernel
theorem dM_member_60 : decode cM_member 60 = .ok (.ireturn, 1) := by decide +kernel
theorem dM_meet_0 : decode cM_meet 0 = .ok (.aload_n 0, 1) := by decide +kernel
theorem dM_meet_1 : decode cM_meet 1 = .ok (.getfield 67, 3) := by decide +kernel
theorem dM_meet_4 : decode cM_meet 4 = .ok (.iconst 1, 1) := by decide +kernel
theorem dM_meet_5 : decode cM_meet 5 = .ok (.isub, 1) := by decide +kernel
theorem dM_meet_6 : decode cM_meet 6 = .ok (.istore_n 2, 1) := by decide +kernel
theorem dM_meet_7 : decode cM_meet 7 = .ok (.iload_n 2, 1) := by decide +kernel
theorem dM_meet_8 : decode cM_meet 8 = .ok (.ifCond .lt 121, 3) := by decide +kernel
theorem dM_meet_11 : decode cM_meet 11 = .ok (.iconst 0, 1) := by decide +kernel
theorem dM_meet_12 : decode cM_meet 12 = .ok (.istore_n 3, 1) := by decide +kernel
theorem dM_meet_13 : decode cM_meet 13 = .ok (.iconst 0, 1) := by decide +kernel
theorem dM_meet_14 : decode cM_meet 14 = .ok (.istore 4, 2) := by decide +kernel
theorem dM_meet_16 : decode cM_meet 16 = .ok (.iload 4, 2) := by decide +kernel
theorem dM_meet_18 : decode cM_meet 18 = .ok (.bipush 6, 2) := by decide +kernel
theorem dM_meet_20 : decode cM_meet 20 = .ok (.if_icmp .ge 33, 3) := by decide +kernel
theorem dM_meet_23 : decode cM_meet 23 = .ok (.aload_n 0, 1) := by decide +kernel
theorem dM_meet_24 : decode cM_meet 24 = .ok (.getfield 22, 3) := by decide +kernel
theorem dM_meet_27 : decode cM_meet 27 = .ok (.iload_n 2, 1) := by decide +kernel
theorem dM_meet_28 : decode cM_meet 28 = .ok (.iaload, 1) := by decide +kernel
theorem dM_meet_29 : decode cM_meet 29 = .ok (.iload_n 1, 1) := by decide +kernel
theorem dM_meet_30 : decode cM_meet 30 = .ok (.iand, 1) := by decide +kernel
theorem dM_meet_31 : decode cM_meet 31 = .ok (.iconst 1, 1) := by decide +kernel
theorem dM_meet_32 : decode cM_meet 32 = .ok (.iload 4, 2) := by decide +kernel
theorem dM_meet_34 : decode cM_meet 34 = .ok (.ishl, 1) := by decide +kernel
theorem dM_meet_35 : decode cM_meet 35 = .ok (.iand, 1) := by decide +kernel
theorem dM_meet_36 : decode cM_meet 36 = .ok (.ifCond .eq 9, 3) := by decide +kernel
theorem dM_meet_39 : decode cM_meet 39 = .ok (.iload_n 3, 1) := by decide +kernel
theorem dM_meet_40 : decode cM_meet 40 = .ok (.iconst 1, 1) := by decide +kernel
theorem dM_meet_41 : decode cM_meet 41 = .ok (.iadd, 1) := by decide +kernel
theorem dM_meet_42 : decode cM_meet 42 = .ok (.goto 4, 3) := by decide +kernel
theorem dM_meet_45 : decode cM_meet 45 = .ok (.iload_n 3, 1) := by decide +kernel
theorem dM_meet_46 : decode cM_meet 46 = .ok (.istore_n 3, 1) := by decide +kernel
theorem dM_meet_47 : decode cM_meet 47 = .ok (.iinc 4 1, 3) := by decide +kernel
theorem dM_meet_50 : decode cM_meet 50 = .ok (.goto (-34), 3) := by decide +kernel
theorem dM_meet_53 : decode cM_meet 53 = .ok (.iload_n 2, 1) := by decide +kernel
theorem dM_meet_54 : decode cM_meet 54 = .ok (.iconst 1, 1) := by decide +kernel
theorem dM_meet_55 : decode cM_meet 55 = .ok (.iadd, 1) := by decide +kernel
theorem dM_meet_56 : decode cM_meet 56 = .ok (.istore 4, 2) := by decide +kernel
theorem dM_meet_58 : decode cM_meet 58 = .ok (.iload 4, 2) := by decide +kernel
theorem dM_meet_60 : decode cM_meet 60 = .ok (.aload_n 0, 1) := by decide +kernel
theorem dM_meet_61 : decode cM_meet 61 = .ok (.getfield 67, 3) := by decide +kernel
theorem dM_meet_64 : decode cM_meet 64 = .ok (.if_icmp .ge 38, 3) := by decide +kernel
theorem dM_meet_67 : decode cM_meet 67 = .ok (.aload_n 0, 1) := by decide +kernel
theorem dM_meet_68 : decode cM_meet 68 = .ok (.getfield 13, 3) := by decide +kernel
theorem dM_meet_71 : decode cM_meet 71 = .ok (.iload 4, 2) := by decide +kernel
theorem dM_meet_73 : decode cM_meet 73 = .ok (.iaload, 1) := by decide +kernel
theorem dM_meet_74 : decode cM_meet 74 = .ok (.iload_n 2, 1) := by decide +kernel
theorem dM_meet_75 : decode cM_meet 75 = .ok (.if_icmp .ne 19, 3) := by decide +kernel
theorem dM_meet_78 : decode cM_meet 78 = .ok (.aload_n 0, 1) := by decide +kernel
theorem dM_meet_79 : decode cM_meet 79 = .ok (.getfield 25, 3) := by decide +kernel
theorem dM_meet_82 : decode cM_meet 82 = .ok (.iload 4, 2) := by decide +kernel
theorem dM_meet_84 : decode cM_meet 84 = .ok (.baload, 1) := by decide +kernel
theorem dM_meet_85 : decode cM_meet 85 = .ok (.ifCond .eq 9, 3) := by decide +kernel
theorem dM_meet_88 : decode cM_meet 88 = .ok (.iload_n 3, 1) := by decide +kernel
theorem dM_meet_89 : decode cM_meet 89 = .ok (.iconst 1, 1) := by decide +kernel
theorem dM_meet_90 : decode cM_meet 90 = .ok (.iadd, 1) := by decide +kernel
theorem dM_meet_91 : decode cM_meet 91 = .ok (.goto 4, 3) := by decide +kernel
theorem dM_meet_94 : decode cM_meet 94 = .ok (.iload_n 3, 1) := by decide +kernel
theorem dM_meet_95 : decode cM_meet 95 = .ok (.istore_n 3, 1) := by decide +kernel
theorem dM_meet_96 : decode cM_meet 96 = .ok (.iinc 4 1, 3) := by decide +kernel
theorem dM_meet_99 : decode cM_meet 99 = .ok (.goto (-41), 3) := by decide +kernel
theorem dM_meet_102 : decode cM_meet 102 = .ok (.aload_n 0, 1) := by decide +kernel
theorem dM_meet_103 : decode cM_meet 103 = .ok (.getfield 25, 3) := by decide +kernel
theorem dM_meet_106 : decode cM_meet 106 = .ok (.iload_n 2, 1) := by decide +kernel
theorem dM_meet_107 : decode cM_meet 107 = .ok (.iload_n 3, 1) := by decide +kernel
theorem dM_meet_108 : decode cM_meet 108 = .ok (.aload_n 0, 1) := by decide +kernel
theorem dM_meet_109 : decode cM_meet 109 = .ok (.getfield 19, 3) := by decide +kernel
theorem dM_meet_112 : decode cM_meet 112 = .ok (.iload_n 2, 1) := by decide +kernel
theorem dM_meet_113 : decode cM_meet 113 = .ok (.iaload, 1) := by decide +kernel
theorem dM_meet_114 : decode cM_meet 114 = .ok (.if_icmp .lt 7, 3) := by decide +kernel
theorem dM_meet_117 : decode cM_meet 117 = .ok (.iconst 1, 1) := by decide +kernel
theorem dM_meet_118 : decode cM_meet 118 = .ok (.goto 4, 3) := by decide +kernel
theorem dM_meet_121 : decode cM_meet 121 = .ok (.iconst 0, 1) := by decide +kernel
theorem dM_meet_122 : decode cM_meet 122 = .ok (.bastore, 1) := by decide +kernel
theorem dM_meet_123 : decode cM_meet 123 = .ok (.iinc 2 (-1), 3) := by decide +kernel
theorem dM_meet_126 : decode cM_meet 126 = .ok (.goto (-119), 3) := by decide +kernel
theorem dM_meet_129 : decode cM_meet 129 = .ok (.return_, 1) := by decide +kernel
theorem dM_quorum_0 : decode cM_quorum 0 = .ok (.aload_n 0, 1) := by decide +kernel
theorem dM_quorum_1 : decode cM_quorum 1 = .ok (.iload_n 1, 1) := by decide +kernel
theorem dM_quorum_2 : decode cM_quorum 2 = .ok (.invokevirtual 78, 3) := by decide +kernel
theorem dM_quorum_5 : decode cM_quorum 5 = .ok (.ifCond .eq 7, 3) := by decide +kernel
theorem dM_quorum_8 : decode cM_quorum 8 = .ok (.iload_n 1, 1) := by decide +kernel
theorem dM_quorum_9 : decode cM_quorum 9 = .ok (.ifCond .ne 5, 3) := by decide +kernel
theorem dM_quorum_12 : decode cM_quorum 12 = .ok (.iconst 0, 1) := by decide +kernel
theorem dM_quorum_13 : decode cM_quorum 13 = .ok (.ireturn, 1) := by decide +kernel
theorem dM_quorum_14 : decode cM_quorum 14 = .ok (.aload_n 0, 1) := by decide +kernel
theorem dM_quorum_15 : decode cM_quorum 15 = .ok (.iload_n 1, 1) := by decide +kernel
theorem dM_quorum_16 : decode cM_quorum 16 = .ok (.invokevirtual 81, 3) := by decide +kernel
theorem dM_quorum_19 : decode cM_quorum 19 = .ok (.iconst 1, 1) := by decide +kernel
theorem dM_quorum_20 : decode cM_quorum 20 = .ok (.istore_n 2, 1) := by decide +kernel
theorem dM_quorum_21 : decode cM_quorum 21 = .ok (.iconst 0, 1) := by decide +kernel
theorem dM_quorum_22 : decode cM_quorum 22 = .ok (.istore_n 3, 1) := by decide +kernel
theorem dM_quorum_23 : decode cM_quorum 23 = .ok (.iload_n 3, 1) := by decide +kernel
theorem dM_quorum_24 : decode cM_quorum 24 = .ok (.aload_n 0, 1) := by decide +kernel
theorem dM_quorum_25 : decode cM_quorum 25 = .ok (.getfield 59, 3) := by decide +kernel
theorem dM_quorum_28 : decode cM_quorum 28 = .ok (.if_icmp .ge 51, 3) := by decide +kernel
theorem dM_quorum_31 : decode cM_quorum 31 = .ok (.iload_n 1, 1) := by decide +kernel
theorem dM_quorum_32 : decode cM_quorum 32 = .ok (.iload_n 3, 1) := by decide +kernel
theorem dM_quorum_33 : decode cM_quorum 33 = .ok (.ishr, 1) := by decide +kernel
theorem dM_quorum_34 : decode cM_quorum 34 = .ok (.iconst 1, 1) := by decide +kernel
theorem dM_quorum_35 : decode cM_quorum 35 = .ok (.iand, 1) := by decide +kernel
theorem dM_quorum_36 : decode cM_quorum 36 = .ok (.iconst 1, 1) := by decide +kernel
theorem dM_quorum_37 : decode cM_quorum 37 = .ok (.if_icmp .ne 36, 3) := by decide +kernel
theorem dM_quorum_40 : decode cM_quorum 40 = .ok (.aload_n 0, 1) := by decide +kernel
theorem dM_quorum_41 : decode cM_quorum 41 = .ok (.iload_n 3, 1) := by decide +kernel
theorem dM_quorum_42 : decode cM_quorum 42 = .ok (.invokevirtual 74, 3) := by decide +kernel
theorem dM_quorum_45 : decode cM_quorum 45 = .ok (.istore 4, 2) := by decide +kernel
theorem dM_quorum_47 : decode cM_quorum 47 = .ok (.iload_n 2, 1) := by decide +kernel
theorem dM_quorum_48 : decode cM_quorum 48 = .ok (.ifCond .eq 23, 3) := by decide +kernel
theorem dM_quorum_51 : decode cM_quorum 51 = .ok (.iload 4, 2) := by decide +kernel
theorem dM_quorum_53 : decode cM_quorum 53 = .ok (.iconst (-1), 1) := by decide +kernel
theorem dM_quorum_54 : decode cM_quorum 54 = .ok (.if_icmp .eq 17, 3) := by decide +kernel
theorem dM_quorum_57 : decode cM_quorum 57 = .ok (.aload_n 0, 1) := by decide +kernel
theorem dM_quorum_58 : decode cM_quorum 58 = .ok (.getfield 25, 3) := by decide +kernel
theorem dM_quorum_61 : decode cM_quorum 61 = .ok (.iload 4, 2) := by decide +kernel
theorem dM_quorum_63 : decode cM_quorum 63 = .ok (.baload, 1) := by decide +kernel
theorem dM_quorum_64 : decode cM_quorum 64 = .ok (.ifCond .eq 7, 3) := by decide +kernel
theorem dM_quorum_67 : decode cM_quorum 67 = .ok (.iconst 1, 1) := by decide +kernel
theorem dM_quorum_68 : decode cM_quorum 68 = .ok (.goto 4, 3) := by decide +kernel
theorem dM_quorum_71 : decode cM_quorum 71 = .ok (.iconst 0, 1) := by decide +kernel
theorem dM_quorum_72 : decode cM_quorum 72 = .ok (.istore_n 2, 1) := by decide +kernel
theorem dM_quorum_73 : decode cM_quorum 73 = .ok (.iinc 3 1, 3) := by decide +kernel
theorem dM_quorum_76 : decode cM_quorum 76 = .ok (.goto (-53), 3) := by decide +kernel
theorem dM_quorum_79 : decode cM_quorum 79 = .ok (.iload_n 2, 1) := by decide +kernel
theorem dM_quorum_80 : decode cM_quorum 80 = .ok (.ireturn, 1) := by decide +kernel
theorem dM_largest_0 : decode cM_largest 0 = .ok (.aload_n 0, 1) := by decide +kernel
theorem dM_largest_1 : decode cM_largest 1 = .ok (.iload_n 1, 1) := by decide +kernel
theorem dM_largest_2 : decode cM_largest 2 = .ok (.invokevirtual 78, 3) := by decide +kernel
theorem dM_largest_5 : decode cM_largest 5 = .ok (.ifCond .ne 5, 3) := by decide +kernel
theorem dM_largest_8 : decode cM_largest 8 = .ok (.iconst (-1), 1) := by decide +kernel
theorem dM_largest_9 : decode cM_largest 9 = .ok (.ireturn, 1) := by decide +kernel
theorem dM_largest_10 : decode cM_largest 10 = .ok (.iconst 0, 1) := by decide +kernel
theorem dM_largest_11 : decode cM_largest 11 = .ok (.istore_n 2, 1) := by decide +kernel
theorem dM_largest_12 : decode cM_largest 12 = .ok (.iconst 1, 1) := by decide +kernel
theorem dM_largest_13 : decode cM_largest 13 = .ok (.istore_n 3, 1) := by decide +kernel
theorem dM_largest_14 : decode cM_largest 14 = .ok (.iload_n 3, 1) := by decide +kernel
theorem dM_largest_15 : decode cM_largest 15 = .ok (.iconst 1, 1) := by decide +kernel
theorem dM_largest_16 : decode cM_largest 16 = .ok (.aload_n 0, 1) := by decide +kernel
theorem dM_largest_17 : decode cM_largest 17 = .ok (.getfield 59, 3) := by decide +kernel
theorem dM_largest_20 : decode cM_largest 20 = .ok (.ishl, 1) := by decide +kernel
theorem dM_largest_21 : decode cM_largest 21 = .ok (.if_icmp .ge 29, 3) := by decide +kernel
theorem dM_largest_24 : decode cM_largest 24 = .ok (.iload_n 3, 1) := by decide +kernel
theorem dM_largest_25 : decode cM_largest 25 = .ok (.iload_n 1, 1) := by decide +kernel
theorem dM_largest_26 : decode cM_largest 26 = .ok (.iconst (-1), 1) := by decide +kernel
theorem dM_largest_27 : decode cM_largest 27 = .ok (.ixor, 1) := by decide +kernel
theorem dM_largest_28 : decode cM_largest 28 = .ok (.iand, 1) := by decide +kernel
theorem dM_largest_29 : decode cM_largest 29 = .ok (.ifCond .ne 15, 3) := by decide +kernel
theorem dM_largest_32 : decode cM_largest 32 = .ok (.aload_n 0, 1) := by decide +kernel
theorem dM_largest_33 : decode cM_largest 33 = .ok (.iload_n 3, 1) := by decide +kernel
theorem dM_largest_34 : decode cM_largest 34 = .ok (.invokevirtual 85, 3) := by decide +kernel
theorem dM_largest_37 : decode cM_largest 37 = .ok (.ifCond .eq 7, 3) := by decide +kernel
theorem dM_largest_40 : decode cM_largest 40 = .ok (.iload_n 2, 1) := by decide +kernel
theorem dM_largest_41 : decode cM_largest 41 = .ok (.iload_n 3, 1) := by decide +kernel
theorem dM_largest_42 : decode cM_largest 42 = .ok (.ior, 1) := by decide +kernel
theorem dM_largest_43 : decode cM_largest 43 = .ok (.istore_n 2, 1) := by decide +kernel
theorem dM_largest_44 : decode cM_largest 44 = .ok (.iinc 3 1, 3) := by decide +kernel
theorem dM_largest_47 : decode cM_largest 47 = .ok (.goto (-33), 3) := by decide +kernel
theorem dM_largest_50 : decode cM_largest 50 = .ok (.iload_n 2, 1) := by decide +kernel
theorem dM_largest_51 : decode cM_largest 51 = .ok (.ireturn, 1) := by decide +kernel
theorem dM_blocks_0 : decode cM_blocks 0 = .ok (.aload_n 0, 1) := by decide +kernel
theorem dM_blocks_1 : decode cM_blocks 1 = .ok (.iload_n 2, 1) := by decide +kernel
theorem dM_blocks_2 : decode cM_blocks 2 = .ok (.invokevirtual 63, 3) := by decide +kernel
theorem dM_blocks_5 : decode cM_blocks 5 = .ok (.ifCond .eq 24, 3) := by decide +kernel
theorem dM_blocks_8 : decode cM_blocks 8 = .ok (.aload_n 0, 1) := by decide +kernel
theorem dM_blocks_9 : decode cM_blocks 9 = .ok (.iload_n 1, 1) := by decide +kernel
theorem dM_blocks_10 : decode cM_blocks 10 = .ok (.invokevirtual 78, 3) := by decide +kernel
theorem dM_blocks_13 : decode cM_blocks 13 = .ok (.ifCond .eq 16, 3) := by decide +kernel
theorem dM_blocks_16 : decode cM_blocks 16 = .ok (.aload_n 0, 1) := by decide +kernel
theorem dM_blocks_17 : decode cM_blocks 17 = .ok (.iload_n 1, 1) := by decide +kernel
theorem dM_blocks_18 : decode cM_blocks 18 = .ok (.iload_n 2, 1) := by decide +kernel
theorem dM_blocks_19 : decode cM_blocks 19 = .ok (.invokevirtual 88, 3) := by decide +kernel
theorem dM_blocks_22 : decode cM_blocks 22 = .ok (.ifCond .eq 7, 3) := by decide +kernel
theorem dM_blocks_25 : decode cM_blocks 25 = .ok (.iconst 1, 1) := by decide +kernel
theorem dM_blocks_26 : decode cM_blocks 26 = .ok (.goto 4, 3) := by decide +kernel
theorem dM_blocks_29 : decode cM_blocks 29 = .ok (.iconst 0, 1) := by decide +kernel
theorem dM_blocks_30 : decode cM_blocks 30 = .ok (.ireturn, 1) := by decide +kernel
theorem dM_stops_0 : decode cM_stops 0 = .ok (.aload_n 0, 1) := by decide +kernel
theorem dM_stops_1 : decode cM_stops 1 = .ok (.iload_n 2, 1) := by decide +kernel
theorem dM_stops_2 : decode cM_stops 2 = .ok (.invokevirtual 74, 3) := by decide +kernel
theorem dM_stops_5 : decode cM_stops 5 = .ok (.istore_n 3, 1) := by decide +kernel
theorem dM_stops_6 : decode cM_stops 6 = .ok (.aload_n 0, 1) := by decide +kernel
theorem dM_stops_7 : decode cM_stops 7 = .ok (.iconst 1, 1) := by decide +kernel
theorem dM_stops_8 : decode cM_stops 8 = .ok (.aload_n 0, 1) := by decide +kernel
theorem dM_stops_9 : decode cM_stops 9 = .ok (.getfield 59, 3) := by decide +kernel
theorem dM_stops_12 : decode cM_stops 12 = .ok (.ishl, 1) := by decide +kernel
theorem dM_stops_13 : decode cM_stops 13 = .ok (.iconst 1, 1) := by decide +kernel
theorem dM_stops_14 : decode cM_stops 14 = .ok (.isub, 1) := by decide +kernel
theorem dM_stops_15 : decode cM_stops 15 = .ok (.iload_n 1, 1) := by decide +kernel
theorem dM_stops_16 : decode cM_stops 16 = .ok (.iconst (-1), 1) := by decide +kernel
theorem dM_stops_17 : decode cM_stops 17 = .ok (.ixor, 1) := by decide +kernel
theorem dM_stops_18 : decode cM_stops 18 = .ok (.iand, 1) := by decide +kernel
theorem dM_stops_19 : decode cM_stops 19 = .ok (.invokevirtual 81, 3) := by decide +kernel
theorem dM_stops_22 : decode cM_stops 22 = .ok (.iload_n 3, 1) := by decide +kernel
theorem dM_stops_23 : decode cM_stops 23 = .ok (.iconst (-1), 1) := by decide +kernel
theorem dM_stops_24 : decode cM_stops 24 = .ok (.if_icmp .eq 16, 3) := by decide +kernel
theorem dM_stops_27 : decode cM_stops 27 = .ok (.aload_n 0, 1) := by decide +kernel
theorem dM_stops_28 : decode cM_stops 28 = .ok (.getfield 25, 3) := by decide +kernel
theorem dM_stops_31 : decode cM_stops 31 = .ok (.iload_n 3, 1) := by decide +kernel
theorem dM_stops_32 : decode cM_stops 32 = .ok (.baload, 1) := by decide +kernel
theorem dM_stops_33 : decode cM_stops 33 = .ok (.ifCond .ne 7, 3) := by decide +kernel
theorem dM_stops_36 : decode cM_stops 36 = .ok (.iconst 1, 1) := by decide +kernel
theorem dM_stops_37 : decode cM_stops 37 = .ok (.goto 4, 3) := by decide +kernel
theorem dM_stops_40 : decode cM_stops 40 = .ok (.iconst 0, 1) := by decide +kernel
theorem dM_stops_41 : decode cM_stops 41 = .ok (.ireturn, 1) := by decide +kernel
theorem dM_intertwined_0 : decode cM_intertwined 0 = .ok (.aload_n 0, 1) := by decide +kernel
theorem dM_intertwined_1 : decode cM_intertwined 1 = .ok (.iload_n 1, 1) := by decide +kernel
theorem dM_intertwined_2 : decode cM_intertwined 2 = .ok (.invokevirtual 92, 3) := by decide +kernel
theorem dM_intertwined_5 : decode cM_intertwined 5 = .ok (.ifCond .eq 11, 3) := by decide +kernel
theorem dM_intertwined_8 : decode cM_intertwined 8 = .ok (.aload_n 0, 1) := by decide +kernel
theorem dM_intertwined_9 : decode cM_intertwined 9 = .ok (.iload_n 2, 1) := by decide +kernel
theorem dM_intertwined_10 : decode cM_intertwined 10 = .ok (.invokevirtual 92, 3) := by decide +kernel
theorem dM_intertwined_13 : decode cM_intertwined 13 = .ok (.ifCond .ne 5, 3) := by decide +kernel
theorem dM_intertwined_16 : decode cM_intertwined 16 = .ok (.iconst 0, 1) := by decide +kernel
theorem dM_intertwined_17 : decode cM_intertwined 17 = .ok (.ireturn, 1) := by decide +kernel
theorem dM_intertwined_18 : decode cM_intertwined 18 = .ok (.aload_n 0, 1) := by decide +kernel
theorem dM_intertwined_19 : decode cM_intertwined 19 = .ok (.invokevirtual 95, 3) := by decide +kernel
theorem dM_intertwined_22 : decode cM_intertwined 22 = .ok (.iconst 0, 1) := by decide +kernel
theorem dM_intertwined_23 : decode cM_intertwined 23 = .ok (.istore_n 3, 1) := by decide +kernel
theorem dM_intertwined_24 : decode cM_intertwined 24 = .ok (.iconst 0, 1) := by decide +kernel
theorem dM_intertwined_25 : decode cM_intertwined 25 = .ok (.istore 4, 2) := by decide +kernel
theorem dM_intertwined_27 : decode cM_intertwined 27 = .ok (.iload 4, 2) := by decide +kernel
theorem dM_intertwined_29 : decode cM_intertwined 29 = .ok (.aload_n 0, 1) := by decide +kernel
theorem dM_intertwined_30 : decode cM_intertwined 30 = .ok (.getfield 59, 3) := by decide +kernel
theorem dM_intertwined_33 : decode cM_intertwined 33 = .ok (.if_icmp .ge 30, 3) := by decide +kernel
theorem dM_intertwined_36 : decode cM_intertwined 36 = .ok (.aload_n 0, 1) := by decide +kernel
theorem dM_intertwined_37 : decode cM_intertwined 37 = .ok (.getfield 29, 3) := by decide +kernel
theorem dM_intertwined_40 : decode cM_intertwined 40 = .ok (.iload 4, 2) := by decide +kernel
theorem dM_intertwined_42 : decode cM_intertwined 42 = .ok (.baload, 1) := by decide +kernel
theorem dM_intertwined_43 : decode cM_intertwined 43 = .ok (.ifCond .eq 7, 3) := by decide +kernel
theorem dM_intertwined_46 : decode cM_intertwined 46 = .ok (.iload_n 3, 1) := by decide +kernel
theorem dM_intertwined_47 : decode cM_intertwined 47 = .ok (.goto 9, 3) := by decide +kernel
theorem dM_intertwined_50 : decode cM_intertwined 50 = .ok (.iload_n 3, 1) := by decide +kernel
theorem dM_intertwined_51 : decode cM_intertwined 51 = .ok (.iconst 1, 1) := by decide +kernel
theorem dM_intertwined_52 : decode cM_intertwined 52 = .ok (.iload 4, 2) := by decide +kernel
theorem dM_intertwined_54 : decode cM_intertwined 54 = .ok (.ishl, 1) := by decide +kernel
theorem dM_intertwined_55 : decode cM_intertwined 55 = .ok (.ior, 1) := by decide +kernel
theorem dM_intertwined_56 : decode cM_intertwined 56 = .ok (.istore_n 3, 1) := by decide +kernel
theorem dM_intertwined_57 : decode cM_intertwined 57 = .ok (.iinc 4 1, 3) := by decide +kernel
theorem dM_intertwined_60 : decode cM_intertwined 60 = .ok (.goto (-33), 3) := by decide +kernel
theorem dM_intertwined_63 : decode cM_intertwined 63 = .ok (.iconst 1, 1) := by decide +kernel
theorem dM_intertwined_64 : decode cM_intertwined 64 = .ok (.istore 4, 2) := by decide +kernel
theorem dM_intertwined_66 : decode cM_intertwined 66 = .ok (.iconst 1, 1) := by decide +kernel
theorem dM_intertwined_67 : decode cM_intertwined 67 = .ok (.istore 5, 2) := by decide +kernel
theorem dM_intertwined_69 : decode cM_intertwined 69 = .ok (.iload 5, 2) := by decide +kernel
theorem dM_intertwined_71 : decode cM_intertwined 71 = .ok (.iconst 1, 1) := by decide +kernel
theorem dM_intertwined_72 : decode cM_intertwined 72 = .ok (.aload_n 0, 1) := by decide +kernel
theorem dM_intertwined_73 : decode cM_intertwined 73 = .ok (.getfield 59, 3) := by decide +kernel
theorem dM_intertwined_76 : decode cM_intertwined 76 = .ok (.ishl, 1) := by decide +kernel
theorem dM_intertwined_77 : decode cM_intertwined 77 = .ok (.if_icmp .ge 103, 3) := by decide +kernel
theorem dM_intertwined_80 : decode cM_intertwined 80 = .ok (.iconst 1, 1) := by decide +kernel
theorem dM_intertwined_81 : decode cM_intertwined 81 = .ok (.istore 6, 2) := by decide +kernel
theorem dM_intertwined_83 : decode cM_intertwined 83 = .ok (.iload 6, 2) := by decide +kernel
theorem dM_intertwined_85 : decode cM_intertwined 85 = .ok (.iconst 1, 1) := by decide +kernel
theorem dM_intertwined_86 : decode cM_intertwined 86 = .ok (.aload_n 0, 1) := by decide +kernel
theorem dM_intertwined_87 : decode cM_intertwined 87 = .ok (.getfield 59, 3) := by decide +kernel
theorem dM_intertwined_90 : decode cM_intertwined 90 = .ok (.ishl, 1) := by decide +kernel
theorem dM_intertwined_91 : decode cM_intertwined 91 = .ok (.if_icmp .ge 83, 3) := by decide +kernel
theorem dM_intertwined_94 : decode cM_intertwined 94 = .ok (.aload_n 0, 1) := by decide +kernel
theorem dM_intertwined_95 : decode cM_intertwined 95 = .ok (.getfield 56, 3) := by decide +kernel
theorem dM_intertwined_98 : decode cM_intertwined 98 = .ok (.iload 5, 2) := by decide +kernel
theorem dM_intertwined_100 : decode cM_intertwined 100 = .ok (.baload, 1) := by decide +kernel
theorem dM_intertwined_101 : decode cM_intertwined 101 = .ok (.ifCond .eq 37, 3) := by decide +kernel
theorem dM_intertwined_104 : decode cM_intertwined 104 = .ok (.aload_n 0, 1) := by decide +kernel
theorem dM_intertwined_105 : decode cM_intertwined 105 = .ok (.getfield 56, 3) := by decide +kernel
theorem dM_intertwined_108 : decode cM_intertwined 108 = .ok (.iload 6, 2) := by decide +kernel
theorem dM_intertwined_110 : decode cM_intertwined 110 = .ok (.baload, 1) := by decide +kernel
theorem dM_intertwined_111 : decode cM_intertwined 111 = .ok (.ifCond .eq 27, 3) := by decide +kernel
theorem dM_intertwined_114 : decode cM_intertwined 114 = .ok (.iload 5, 2) := by decide +kernel
theorem dM_intertwined_116 : decode cM_intertwined 116 = .ok (.iload_n 1, 1) := by decide +kernel
theorem dM_intertwined_117 : decode cM_intertwined 117 = .ok (.ishr, 1) := by decide +kernel
theorem dM_intertwined_118 : decode cM_intertwined 118 = .ok (.iconst 1, 1) := by decide +kernel
theorem dM_intertwined_119 : decode cM_intertwined 119 = .ok (.iand, 1) := by decide +kernel
theorem dM_intertwined_120 : decode cM_intertwined 120 = .ok (.iconst 1, 1) := by decide +kernel
theorem dM_intertwined_121 : decode cM_intertwined 121 = .ok (.if_icmp .ne 17, 3) := by decide +kernel
theorem dM_intertwined_124 : decode cM_intertwined 124 = .ok (.iload 6, 2) := by decide +kernel
theorem dM_intertwined_126 : decode cM_intertwined 126 = .ok (.iload_n 2, 1) := by decide +kernel
theorem dM_intertwined_127 : decode cM_intertwined 127 = .ok (.ishr, 1) := by decide +kernel
theorem dM_intertwined_128 : decode cM_intertwined 128 = .ok (.iconst 1, 1) := by decide +kernel
theorem dM_intertwined_129 : decode cM_intertwined 129 = .ok (.iand, 1) := by decide +kernel
theorem dM_intertwined_130 : decode cM_intertwined 130 = .ok (.iconst 1, 1) := by decide +kernel
theorem dM_intertwined_131 : decode cM_intertwined 131 = .ok (.if_icmp .ne 7, 3) := by decide +kernel
theorem dM_intertwined_134 : decode cM_intertwined 134 = .ok (.iconst 1, 1) := by decide +kernel
theorem dM_intertwined_135 : decode cM_intertwined 135 = .ok (.goto 4, 3) := by decide +kernel
theorem dM_intertwined_138 : decode cM_intertwined 138 = .ok (.iconst 0, 1) := by decide +kernel
theorem dM_intertwined_139 : decode cM_intertwined 139 = .ok (.istore 7, 2) := by decide +kernel
theorem dM_intertwined_141 : decode cM_intertwined 141 = .ok (.iload 4, 2) := by decide +kernel
theorem dM_intertwined_143 : decode cM_intertwined 143 = .ok (.ifCond .eq 22, 3) := by decide +kernel
theorem dM_intertwined_146 : decode cM_intertwined 146 = .ok (.iload 7, 2) := by decide +kernel
theorem dM_intertwined_148 : decode cM_intertwined 148 = .ok (.ifCond .eq 13, 3) := by decide +kernel
theorem dM_intertwined_151 : decode cM_intertwined 151 = .ok (.iload 5, 2) := by decide +kernel
theorem dM_intertwined_153 : decode cM_intertwined 153 = .ok (.iload 6, 2) := by decide +kernel
theorem dM_intertwined_155 : decode cM_intertwined 155 = .ok (.iand, 1) := by decide +kernel
theorem dM_intertwined_156 : decode cM_intertwined 156 = .ok (.iload_n 3, 1) := by decide +kernel
theorem dM_intertwined_157 : decode cM_intertwined 157 = .ok (.iand, 1) := by decide +kernel
theorem dM_intertwined_158 : decode cM_intertwined 158 = .ok (.ifCond .eq 7, 3) := by decide +kernel
theorem dM_intertwined_161 : decode cM_intertwined 161 = .ok (.iconst 1, 1) := by decide +kernel
theorem dM_intertwined_162 : decode cM_intertwined 162 = .ok (.goto 4, 3) := by decide +kernel
theorem dM_intertwined_165 : decode cM_intertwined 165 = .ok (.iconst 0, 1) := by decide +kernel
theorem dM_intertwined_166 : decode cM_intertwined 166 = .ok (.istore 4, 2) := by decide +kernel
theorem dM_intertwined_168 : decode cM_intertwined 168 = .ok (.iinc 6 1, 3) := by decide +kernel
theorem dM_intertwined_171 : decode cM_intertwined 171 = .ok (.goto (-88), 3) := by decide +kernel
theorem dM_intertwined_174 : decode cM_intertwined 174 = .ok (.iinc 5 1, 3) := by decide +kernel
theorem dM_intertwined_177 : decode cM_intertwined 177 = .ok (.goto (-108), 3) := by decide +kernel
theorem dM_intertwined_180 : decode cM_intertwined 180 = .ok (.iload 4, 2) := by decide +kernel
theorem dM_intertwined_182 : decode cM_intertwined 182 = .ok (.ireturn, 1) := by decide +kernel
theorem dM_tryAll_0 : decode cM_tryAll 0 = .ok (.iconst 0, 1) := by decide +kernel
theorem dM_tryAll_1 : decode cM_tryAll 1 = .ok (.istore_n 1, 1) := by decide +kernel
theorem dM_tryAll_2 : decode cM_tryAll 2 = .ok (.iload_n 1, 1) := by decide +kernel
theorem dM_tryAll_3 : decode cM_tryAll 3 = .ok (.iconst 1, 1) := by decide +kernel
theorem dM_tryAll_4 : decode cM_tryAll 4 = .ok (.aload_n 0, 1) := by decide +kernel
theorem dM_tryAll_5 : decode cM_tryAll 5 = .ok (.getfield 59, 3) := by decide +kernel
theorem dM_tryAll_8 : decode cM_tryAll 8 = .ok (.ishl, 1) := by decide +kernel
theorem dM_tryAll_9 : decode cM_tryAll 9 = .ok (.if_icmp .ge 20, 3) := by decide +kernel
theorem dM_tryAll_12 : decode cM_tryAll 12 = .ok (.aload_n 0, 1) := by decide +kernel
theorem dM_tryAll_13 : decode cM_tryAll 13 = .ok (.getfield 56, 3) := by decide +kernel
theorem dM_tryAll_16 : decode cM_tryAll 16 = .ok (.iload_n 1, 1) := by decide +kernel
theorem dM_tryAll_17 : decode cM_tryAll 17 = .ok (.aload_n 0, 1) := by decide +kernel
theorem dM_tryAll_18 : decode cM_tryAll 18 = .ok (.iload_n 1, 1) := by decide +kernel
theorem dM_tryAll_19 : decode cM_tryAll 19 = .ok (.invokevirtual 85, 3) := by decide +kernel
theorem dM_tryAll_22 : decode cM_tryAll 22 = .ok (.bastore, 1) := by decide +kernel
theorem dM_tryAll_23 : decode cM_tryAll 23 = .ok (.iinc 1 1, 3) := by decide +kernel
theorem dM_tryAll_26 : decode cM_tryAll 26 = .ok (.goto (-24), 3) := by decide +kernel
theorem dM_tryAll_29 : decode cM_tryAll 29 = .ok (.return_, 1) := by decide +kernel
theorem dM_contradict_0 : decode cM_contradict 0 = .ok (.iload_n 1, 1) := by decide +kernel
theorem dM_contradict_1 : decode cM_contradict 1 = .ok (.bipush 12, 2) := by decide +kernel
theorem dM_contradict_3 : decode cM_contradict 3 = .ok (.if_icmp .ge 11, 3) := by decide +kernel
theorem dM_contradict_6 : decode cM_contradict 6 = .ok (.iload_n 2, 1) := by decide +kernel
theorem dM_contradict_7 : decode cM_contradict 7 = .ok (.bipush 12, 2) := by decide +kernel
theorem dM_contradict_9 : decode cM_contradict 9 = .ok (.if_icmp .ge 5, 3) := by decide +kernel
theorem dM_contradict_12 : decode cM_contradict 12 = .ok (.iconst 0, 1) := by decide +kernel
theorem dM_contradict_13 : decode cM_contradict 13 = .ok (.ireturn, 1) := by decide +kernel
theorem dM_contradict_14 : decode cM_contradict 14 = .ok (.iload_n 1, 1) := by decide +kernel
theorem dM_contradict_15 : decode cM_contradict 15 = .ok (.bipush 12, 2) := by decide +kernel
theorem dM_contradict_17 : decode cM_contradict 17 = .ok (.if_icmp .lt 24, 3) := by decide +kernel
theorem dM_contradict_20 : decode cM_contradict 20 = .ok (.iload_n 2, 1) := by decide +kernel
theorem dM_contradict_21 : decode cM_contradict 21 = .ok (.bipush 12, 2) := by decide +kernel
theorem dM_contradict_23 : decode cM_contradict 23 = .ok (.if_icmp .lt 18, 3) := by decide +kernel
theorem dM_contradict_26 : decode cM_contradict 26 = .ok (.iload_n 1, 1) := by decide +kernel
theorem dM_contradict_27 : decode cM_contradict 27 = .ok (.iconst 3, 1) := by decide +kernel
theorem dM_contradict_28 : decode cM_contradict 28 = .ok (.irem, 1) := by decide +kernel
theorem dM_contradict_29 : decode cM_contradict 29 = .ok (.iload_n 2, 1) := by decide +kernel
theorem dM_contradict_30 : decode cM_contradict 30 = .ok (.iconst 3, 1) := by decide +kernel
theorem dM_contradict_31 : decode cM_contradict 31 = .ok (.irem, 1) := by decide +kernel
theorem dM_contradict_32 : decode cM_contradict 32 = .ok (.if_icmp .eq 7, 3) := by decide +kernel
theorem dM_contradict_35 : decode cM_contradict 35 = .ok (.iconst 1, 1) := by decide +kernel
theorem dM_contradict_36 : decode cM_contradict 36 = .ok (.goto 4, 3) := by decide +kernel
theorem dM_contradict_39 : decode cM_contradict 39 = .ok (.iconst 0, 1) := by decide +kernel
theorem dM_contradict_40 : decode cM_contradict 40 = .ok (.ireturn, 1) := by decide +kernel
theorem dM_contradict_41 : decode cM_contradict 41 = .ok (.iload_n 1, 1) := by decide +kernel
theorem dM_contradict_42 : decode cM_contradict 42 = .ok (.bipush 12, 2) := by decide +kernel
theorem dM_contradict_44 : decode cM_contradict 44 = .ok (.if_icmp .lt 10, 3) := by decide +kernel
theorem dM_contradict_47 : decode cM_contradict 47 = .ok (.iload_n 1, 1) := by decide +kernel
theorem dM_contradict_48 : decode cM_contradict 48 = .ok (.bipush 12, 2) := by decide +kernel
theorem dM_contradict_50 : decode cM_contradict 50 = .ok (.isub, 1) := by decide +kernel
theorem dM_contradict_51 : decode cM_contradict 51 = .ok (.goto 7, 3) := by decide +kernel
theorem dM_contradict_54 : decode cM_contradict 54 = .ok (.iload_n 2, 1) := by decide +kernel
theorem dM_contradict_55 : decode cM_contradict 55 = .ok (.bipush 12, 2) := by decide +kernel
theorem dM_contradict_57 : decode cM_contradict 57 = .ok (.isub, 1) := by decide +kernel
theorem dM_contradict_58 : decode cM_contradict 58 = .ok (.istore_n 3, 1) := by decide +kernel
theorem dM_contradict_59 : decode cM_contradict 59 = .ok (.iload_n 1, 1) := by decide +kernel
theorem dM_contradict_60 : decode cM_contradict 60 = .ok (.bipush 12, 2) := by decide +kernel
theorem dM_contradict_62 : decode cM_contradict 62 = .ok (.if_icmp .lt 7, 3) := by decide +kernel
theorem dM_contradict_65 : decode cM_contradict 65 = .ok (.iload_n 2, 1) := by decide +kernel
theorem dM_contradict_66 : decode cM_contradict 66 = .ok (.goto 4, 3) := by decide +kernel
theorem dM_contradict_69 : decode cM_contradict 69 = .ok (.iload_n 1, 1) := by decide +kernel
theorem dM_contradict_70 : decode cM_contradict 70 = .ok (.istore 4, 2) := by decide +kernel
theorem dM_contradict_72 : decode cM_contradict 72 = .ok (.iload 4, 2) := by decide +kernel
theorem dM_contradict_74 : decode cM_contradict 74 = .ok (.iload_n 3, 1) := by decide +kernel
theorem dM_contradict_75 : decode cM_contradict 75 = .ok (.if_icmp .le 17, 3) := by decide +kernel
theorem dM_contradict_78 : decode cM_contradict 78 = .ok (.iload 4, 2) := by decide +kernel
theorem dM_contradict_80 : decode cM_contradict 80 = .ok (.iconst 3, 1) := by decide +kernel
theorem dM_contradict_81 : decode cM_contradict 81 = .ok (.irem, 1) := by decide +kernel
theorem dM_contradict_82 : decode cM_contradict 82 = .ok (.iload_n 3, 1) := by decide +kernel
theorem dM_contradict_83 : decode cM_contradict 83 = .ok (.iconst 3, 1) := by decide +kernel
theorem dM_contradict_84 : decode cM_contradict 84 = .ok (.irem, 1) := by decide +kernel
theorem dM_contradict_85 : decode cM_contradict 85 = .ok (.if_icmp .eq 7, 3) := by decide +kernel
theorem dM_contradict_88 : decode cM_contradict 88 = .ok (.iconst 1, 1) := by decide +kernel
theorem dM_contradict_89 : decode cM_contradict 89 = .ok (.goto 4, 3) := by decide +kernel
theorem dM_contradict_92 : decode cM_contradict 92 = .ok (.iconst 0, 1) := by decide +kernel
theorem dM_contradict_93 : decode cM_contradict 93 = .ok (.ireturn, 1) := by decide +kernel
theorem dM_against_0 : decode cM_against 0 = .ok (.iconst 0, 1) := by decide +kernel
theorem dM_against_1 : decode cM_against 1 = .ok (.istore_n 3, 1) := by decide +kernel
theorem dM_against_2 : decode cM_against 2 = .ok (.iconst 0, 1) := by decide +kernel
theorem dM_against_3 : decode cM_against 3 = .ok (.istore 4, 2) := by decide +kernel
theorem dM_against_5 : decode cM_against 5 = .ok (.iload 4, 2) := by decide +kernel
theorem dM_against_7 : decode cM_against 7 = .ok (.bipush 24, 2) := by decide +kernel
theorem dM_against_9 : decode cM_against 9 = .ok (.if_icmp .ge 39, 3) := by decide +kernel
theorem dM_against_12 : decode cM_against 12 = .ok (.iload_n 3, 1) := by decide +kernel
theorem dM_against_13 : decode cM_against 13 = .ok (.ifCond .ne 23, 3) := by decide +kernel
theorem dM_against_16 : decode cM_against 16 = .ok (.iload_n 1, 1) := by decide +kernel
theorem dM_against_17 : decode cM_against 17 = .ok (.iload 4, 2) := by decide +kernel
theorem dM_against_19 : decode cM_against 19 = .ok (.ishr, 1) := by decide +kernel
theorem dM_against_20 : decode cM_against 20 = .ok (.iconst 1, 1) := by decide +kernel
theorem dM_against_21 : decode cM_against 21 = .ok (.iand, 1) := by decide +kernel
theorem dM_against_22 : decode cM_against 22 = .ok (.iconst 1, 1) := by decide +kernel
theorem dM_against_23 : decode cM_against 23 = .ok (.if_icmp .ne 17, 3) := by decide +kernel
theorem dM_against_26 : decode cM_against 26 = .ok (.aload_n 0, 1) := by decide +kernel
theorem dM_against_27 : decode cM_against 27 = .ok (.iload_n 2, 1) := by decide +kernel
theorem dM_against_28 : decode cM_against 28 = .ok (.iload 4, 2) := by decide +kernel
theorem dM_against_30 : decode cM_against 30 = .ok (.invokevirtual 98, 3) := by decide +kernel
theorem dM_against_33 : decode cM_against 33 = .ok (.ifCond .eq 7, 3) := by decide +kernel
theorem dM_against_36 : decode cM_against 36 = .ok (.iconst 1, 1) := by decide +kernel
theorem dM_against_37 : decode cM_against 37 = .ok (.goto 4, 3) := by decide +kernel
theorem dM_against_40 : decode cM_against 40 = .ok (.iconst 0, 1) := by decide +kernel
theorem dM_against_41 : decode cM_against 41 = .ok (.istore_n 3, 1) := by decide +kernel
theorem dM_against_42 : decode cM_against 42 = .ok (.iinc 4 1, 3) := by decide +kernel
theorem dM_against_45 : decode cM_against 45 = .ok (.goto (-40), 3) := by decide +kernel
theorem dM_against_48 : decode cM_against 48 = .ok (.iload_n 3, 1) := by decide +kernel
theorem dM_against_49 : decode cM_against 49 = .ok (.ireturn, 1) := by decide +kernel
theorem dM_votesOf_0 : decode cM_votesOf 0 = .ok (.iload_n 2, 1) := by decide +kernel
theorem dM_votesOf_1 : decode cM_votesOf 1 = .ok (.iload_n 1, 1) := by decide +kernel
theorem dM_votesOf_2 : decode cM_votesOf 2 = .ok (.if_icmp .ne 12, 3) := by decide +kernel
theorem dM_votesOf_5 : decode cM_votesOf 5 = .ok (.aload_n 0, 1) := by decide +kernel
theorem dM_votesOf_6 : decode cM_votesOf 6 = .ok (.getfield 32, 3) := by decide +kernel
theorem dM_votesOf_9 : decode cM_votesOf 9 = .ok (.iload_n 1, 1) := by decide +kernel
theorem dM_votesOf_10 : decode cM_votesOf 10 = .ok (.iaload, 1) := by decide +kernel
theorem dM_votesOf_11 : decode cM_votesOf 11 = .ok (.goto 14, 3) := by decide +kernel
theorem dM_votesOf_14 : decode cM_votesOf 14 = .ok (.aload_n 0, 1) := by decide +kernel
theorem dM_votesOf_15 : decode cM_votesOf 15 = .ok (.getfield 50, 3) := by decide +kernel
theorem dM_votesOf_18 : decode cM_votesOf 18 = .ok (.bipush 6, 2) := by decide +kernel
theorem dM_votesOf_20 : decode cM_votesOf 20 = .ok (.iload_n 2, 1) := by decide +kernel
theorem dM_votesOf_21 : decode cM_votesOf 21 = .ok (.imul, 1) := by decide +kernel
theorem dM_votesOf_22 : decode cM_votesOf 22 = .ok (.iload_n 1, 1) := by decide +kernel
theorem dM_votesOf_23 : decode cM_votesOf 23 = .ok (.iadd, 1) := by decide +kernel
theorem dM_votesOf_24 : decode cM_votesOf 24 = .ok (.iaload, 1) := by decide +kernel
theorem dM_votesOf_25 : decode cM_votesOf 25 = .ok (.ireturn, 1) := by decide +kernel
theorem dM_acceptsOf_0 : decode cM_acceptsOf 0 = .ok (.iload_n 2, 1) := by decide +kernel
theorem dM_acceptsOf_1 : decode cM_acceptsOf 1 = .ok (.iload_n 1, 1) := by decide +kernel
theorem dM_acceptsOf_2 : decode cM_acceptsOf 2 = .ok (.if_icmp .ne 12, 3) := by decide +kernel
theorem dM_acceptsOf_5 : decode cM_acceptsOf 5 = .ok (.aload_n 0, 1) := by decide +kernel
theorem dM_acceptsOf_6 : decode cM_acceptsOf 6 = .ok (.getfield 35, 3) := by decide +kernel
theorem dM_acceptsOf_9 : decode cM_acceptsOf 9 = .ok (.iload_n 1, 1) := by decide +kernel
theorem dM_acceptsOf_10 : decode cM_acceptsOf 10 = .ok (.iaload, 1) := by decide +kernel
theorem dM_acceptsOf_11 : decode cM_acceptsOf 11 = .ok (.goto 14, 3) := by decide +kernel
theorem dM_acceptsOf_14 : decode cM_acceptsOf 14 = .ok (.aload_n 0, 1) := by decide +kernel
theorem dM_acceptsOf_15 : decode cM_acceptsOf 15 = .ok (.getfield 53, 3) := by decide +kernel
theorem dM_acceptsOf_18 : decode cM_acceptsOf 18 = .ok (.bipush 6, 2) := by decide +kernel
theorem dM_acceptsOf_20 : decode cM_acceptsOf 20 = .ok (.iload_n 2, 1) := by decide +kernel
theorem dM_acceptsOf_21 : decode cM_acceptsOf 21 = .ok (.imul, 1) := by decide +kernel
theorem dM_acceptsOf_22 : decode cM_acceptsOf 22 = .ok (.iload_n 1, 1) := by decide +kernel
theorem dM_acceptsOf_23 : decode cM_acceptsOf 23 = .ok (.iadd, 1) := by decide +kernel
theorem dM_acceptsOf_24 : decode cM_acceptsOf 24 = .ok (.iaload, 1) := by decide +kernel
theorem dM_acceptsOf_25 : decode cM_acceptsOf 25 = .ok (.ireturn, 1) := by decide +kernel
theorem dM_backers_0 : decode cM_backers 0 = .ok (.iconst 0, 1) := by decide +kernel
theorem dM_backers_1 : decode cM_backers 1 = .ok (.istore 4, 2) := by decide +kernel
theorem dM_backers_3 : decode cM_backers 3 = .ok (.iconst 0, 1) := by decide +kernel
theorem dM_backers_4 : decode cM_backers 4 = .ok (.istore 5, 2) := by decide +kernel
theorem dM_backers_6 : decode cM_backers 6 = .ok (.iload 5, 2) := by decide +kernel
theorem dM_backers_8 : decode cM_backers 8 = .ok (.aload_n 0, 1) := by decide +kernel
theorem dM_backers_9 : decode cM_backers 9 = .ok (.getfield 59, 3) := by decide +kernel
theorem dM_backers_12 : decode cM_backers 12 = .ok (.if_icmp .ge 63, 3) := by decide +kernel
theorem dM_backers_15 : decode cM_backers 15 = .ok (.aload_n 0, 1) := by decide +kernel
theorem dM_backers_16 : decode cM_backers 16 = .ok (.iload 5, 2) := by decide +kernel
theorem dM_backers_18 : decode cM_backers 18 = .ok (.iload_n 1, 1) := by decide +kernel
theorem dM_backers_19 : decode cM_backers 19 = .ok (.invokevirtual 101, 3) := by decide +kernel
theorem dM_backers_22 : decode cM_backers 22 = .ok (.istore 6, 2) := by decide +kernel
theorem dM_backers_24 : decode cM_backers 24 = .ok (.iload_n 3, 1) := by decide +kernel
theorem dM_backers_25 : decode cM_backers 25 = .ok (.ifCond .eq 16, 3) := by decide +kernel
theorem dM_backers_28 : decode cM_backers 28 = .ok (.iload 6, 2) := by decide +kernel
theorem dM_backers_30 : decode cM_backers 30 = .ok (.aload_n 0, 1) := by decide +kernel
theorem dM_backers_31 : decode cM_backers 31 = .ok (.iload 5, 2) := by decide +kernel
theorem dM_backers_33 : decode cM_backers 33 = .ok (.iload_n 1, 1) := by decide +kernel
theorem dM_backers_34 : decode cM_backers 34 = .ok (.invokevirtual 105, 3) := by decide +kernel
theorem dM_backers_37 : decode cM_backers 37 = .ok (.ior, 1) := by decide +kernel
theorem dM_backers_38 : decode cM_backers 38 = .ok (.goto 5, 3) := by decide +kernel
theorem dM_backers_41 : decode cM_backers 41 = .ok (.iload 6, 2) := by decide +kernel
theorem dM_backers_43 : decode cM_backers 43 = .ok (.istore 6, 2) := by decide +kernel
theorem dM_backers_45 : decode cM_backers 45 = .ok (.iload 6, 2) := by decide +kernel
theorem dM_backers_47 : decode cM_backers 47 = .ok (.iload_n 2, 1) := by decide +kernel
theorem dM_backers_48 : decode cM_backers 48 = .ok (.ishr, 1) := by decide +kernel
theorem dM_backers_49 : decode cM_backers 49 = .ok (.iconst 1, 1) := by decide +kernel
theorem dM_backers_50 : decode cM_backers 50 = .ok (.iand, 1) := by decide +kernel
theorem dM_backers_51 : decode cM_backers 51 = .ok (.iconst 1, 1) := by decide +kernel
theorem dM_backers_52 : decode cM_backers 52 = .ok (.if_icmp .ne 13, 3) := by decide +kernel
theorem dM_backers_55 : decode cM_backers 55 = .ok (.iload 4, 2) := by decide +kernel
theorem dM_backers_57 : decode cM_backers 57 = .ok (.iconst 1, 1) := by decide +kernel
theorem dM_backers_58 : decode cM_backers 58 = .ok (.iload 5, 2) := by decide +kernel
theorem dM_backers_60 : decode cM_backers 60 = .ok (.ishl, 1) := by decide +kernel
theorem dM_backers_61 : decode cM_backers 61 = .ok (.ior, 1) := by decide +kernel
theorem dM_backers_62 : decode cM_backers 62 = .ok (.goto 5, 3) := by decide +kernel
theorem dM_backers_65 : decode cM_backers 65 = .ok (.iload 4, 2) := by decide +kernel
theorem dM_backers_67 : decode cM_backers 67 = .ok (.istore 4, 2) := by decide +kernel
theorem dM_backers_69 : decode cM_backers 69 = .ok (.iinc 5 1, 3) := by decide +kernel
theorem dM_backers_72 : decode cM_backers 72 = .ok (.goto (-66), 3) := by decide +kernel
theorem dM_backers_75 : decode cM_backers 75 = .ok (.iload 4, 2) := by decide +kernel
theorem dM_backers_77 : decode cM_backers 77 = .ok (.ireturn, 1) := by decide +kernel
theorem dM_quorumWithin_0 : decode cM_quorumWithin 0 = .ok (.iconst 0, 1) := by decide +kernel
theorem dM_quorumWithin_1 : decode cM_quorumWithin 1 = .ok (.istore_n 3, 1) := by decide +kernel
theorem dM_quorumWithin_2 : decode cM_quorumWithin 2 = .ok (.iconst 1, 1) := by decide +kernel
theorem dM_quorumWithin_3 : decode cM_quorumWithin 3 = .ok (.istore 4, 2) := by decide +kernel
theorem dM_quorumWithin_5 : decode cM_quorumWithin 5 = .ok (.iload 4, 2) := by decide +kernel
theorem dM_quorumWithin_7 : decode cM_quorumWithin 7 = .ok (.iconst 1, 1) := by decide +kernel
theorem dM_quorumWithin_8 : decode cM_quorumWithin 8 = .ok (.aload_n 0, 1) := by decide +kernel
theorem dM_quorumWithin_9 : decode cM_quorumWithin 9 = .ok (.getfield 59, 3) := by decide +kernel
theorem dM_quorumWithin_12 : decode cM_quorumWithin 12 = .ok (.ishl, 1) := by decide +kernel
theorem dM_quorumWithin_13 : decode cM_quorumWithin 13 = .ok (.if_icmp .ge 48, 3) := by decide +kernel
theorem dM_quorumWithin_16 : decode cM_quorumWithin 16 = .ok (.iload_n 3, 1) := by decide +kernel
theorem dM_quorumWithin_17 : decode cM_quorumWithin 17 = .ok (.ifCond .ne 32, 3) := by decide +kernel
theorem dM_quorumWithin_20 : decode cM_quorumWithin 20 = .ok (.aload_n 0, 1) := by decide +kernel
theorem dM_quorumWithin_21 : decode cM_quorumWithin 21 = .ok (.getfield 56, 3) := by decide +kernel
theorem dM_quorumWithin_24 : decode cM_quorumWithin 24 = .ok (.iload 4, 2) := by decide +kernel
theorem dM_quorumWithin_26 : decode cM_quorumWithin 26 = .ok (.baload, 1) := by decide +kernel
theorem dM_quorumWithin_27 : decode cM_quorumWithin 27 = .ok (.ifCond .eq 26, 3) := by decide +kernel
theorem dM_quorumWithin_30 : decode cM_quorumWithin 30 = .ok (.iload 4, 2) := by decide +kernel
theorem dM_quorumWithin_32 : decode cM_quorumWithin 32 = .ok (.iload_n 1, 1) := by decide +kernel
theorem dM_quorumWithin_33 : decode cM_quorumWithin 33 = .ok (.iconst (-1), 1) := by decide +kernel
theorem dM_quorumWithin_34 : decode cM_quorumWithin 34 = .ok (.ixor, 1) := by decide +kernel
theorem dM_quorumWithin_35 : decode cM_quorumWithin 35 = .ok (.iand, 1) := by decide +kernel
theorem dM_quorumWithin_36 : decode cM_quorumWithin 36 = .ok (.ifCond .ne 17, 3) := by decide +kernel
theorem dM_quorumWithin_39 : decode cM_quorumWithin 39 = .ok (.iload 4, 2) := by decide +kernel
theorem dM_quorumWithin_41 : decode cM_quorumWithin 41 = .ok (.iload_n 2, 1) := by decide +kernel
theorem dM_quorumWithin_42 : decode cM_quorumWithin 42 = .ok (.ishr, 1) := by decide +kernel
theorem dM_quorumWithin_43 : decode cM_quorumWithin 43 = .ok (.iconst 1, 1) := by decide +kernel
theorem dM_quorumWithin_44 : decode cM_quorumWithin 44 = .ok (.iand, 1) := by decide +kernel
theorem dM_quorumWithin_45 : decode cM_quorumWithin 45 = .ok (.iconst 1, 1) := by decide +kernel
theorem dM_quorumWithin_46 : decode cM_quorumWithin 46 = .ok (.if_icmp .ne 7, 3) := by decide +kernel
theorem dM_quorumWithin_49 : decode cM_quorumWithin 49 = .ok (.iconst 1, 1) := by decide +kernel
theorem dM_quorumWithin_50 : decode cM_quorumWithin 50 = .ok (.goto 4, 3) := by decide +kernel
theorem dM_quorumWithin_53 : decode cM_quorumWithin 53 = .ok (.iconst 0, 1) := by decide +kernel
theorem dM_quorumWithin_54 : decode cM_quorumWithin 54 = .ok (.istore_n 3, 1) := by decide +kernel
theorem dM_quorumWithin_55 : decode cM_quorumWithin 55 = .ok (.iinc 4 1, 3) := by decide +kernel
theorem dM_quorumWithin_58 : decode cM_quorumWithin 58 = .ok (.goto (-53), 3) := by decide +kernel
theorem dM_quorumWithin_61 : decode cM_quorumWithin 61 = .ok (.iload_n 3, 1) := by decide +kernel
theorem dM_quorumWithin_62 : decode cM_quorumWithin 62 = .ok (.ireturn, 1) := by decide +kernel
theorem dM_stepAccept_0 : decode cM_stepAccept 0 = .ok (.iconst 0, 1) := by decide +kernel
theorem dM_stepAccept_1 : decode cM_stepAccept 1 = .ok (.istore_n 2, 1) := by decide +kernel
theorem dM_stepAccept_2 : decode cM_stepAccept 2 = .ok (.iload_n 2, 1) := by decide +kernel
theorem dM_stepAccept_3 : decode cM_stepAccept 3 = .ok (.bipush 24, 2) := by decide +kernel
theorem dM_stepAccept_5 : decode cM_stepAccept 5 = .ok (.if_icmp .ge 92, 3) := by decide +kernel
theorem dM_stepAccept_8 : decode cM_stepAccept 8 = .ok (.aload_n 0, 1) := by decide +kernel
theorem dM_stepAccept_9 : decode cM_stepAccept 9 = .ok (.getfield 35, 3) := by decide +kernel
theorem dM_stepAccept_12 : decode cM_stepAccept 12 = .ok (.iload_n 1, 1) := by decide +kernel
theorem dM_stepAccept_13 : decode cM_stepAccept 13 = .ok (.iaload, 1) := by decide +kernel
theorem dM_stepAccept_14 : decode cM_stepAccept 14 = .ok (.iload_n 2, 1) := by decide +kernel
theorem dM_stepAccept_15 : decode cM_stepAccept 15 = .ok (.ishr, 1) := by decide +kernel
theorem dM_stepAccept_16 : decode cM_stepAccept 16 = .ok (.iconst 1, 1) := by decide +kernel
theorem dM_stepAccept_17 : decode cM_stepAccept 17 = .ok (.iand, 1) := by decide +kernel
theorem dM_stepAccept_18 : decode cM_stepAccept 18 = .ok (.ifCond .ne 73, 3) := by decide +kernel
theorem dM_stepAccept_21 : decode cM_stepAccept 21 = .ok (.aload_n 0, 1) := by decide +kernel
theorem dM_stepAccept_22 : decode cM_stepAccept 22 = .ok (.aload_n 0, 1) := by decide +kernel
theorem dM_stepAccept_23 : decode cM_stepAccept 23 = .ok (.getfield 35, 3) := by decide +kernel
theorem dM_stepAccept_26 : decode cM_stepAccept 26 = .ok (.iload_n 1, 1) := by decide +kernel
theorem dM_stepAccept_27 : decode cM_stepAccept 27 = .ok (.iaload, 1) := by decide +kernel
theorem dM_stepAccept_28 : decode cM_stepAccept 28 = .ok (.iload_n 2, 1) := by decide +kernel
theorem dM_stepAccept_29 : decode cM_stepAccept 29 = .ok (.invokevirtual 108, 3) := by decide +kernel
theorem dM_stepAccept_32 : decode cM_stepAccept 32 = .ok (.ifCond .ne 59, 3) := by decide +kernel
theorem dM_stepAccept_35 : decode cM_stepAccept 35 = .ok (.aload_n 0, 1) := by decide +kernel
theorem dM_stepAccept_36 : decode cM_stepAccept 36 = .ok (.iload_n 1, 1) := by decide +kernel
theorem dM_stepAccept_37 : decode cM_stepAccept 37 = .ok (.iload_n 2, 1) := by decide +kernel
theorem dM_stepAccept_38 : decode cM_stepAccept 38 = .ok (.iconst 0, 1) := by decide +kernel
theorem dM_stepAccept_39 : decode cM_stepAccept 39 = .ok (.invokevirtual 111, 3) := by decide +kernel
theorem dM_stepAccept_42 : decode cM_stepAccept 42 = .ok (.iconst 1, 1) := by decide +kernel
theorem dM_stepAccept_43 : decode cM_stepAccept 43 = .ok (.iload_n 1, 1) := by decide +kernel
theorem dM_stepAccept_44 : decode cM_stepAccept 44 = .ok (.ishl, 1) := by decide +kernel
theorem dM_stepAccept_45 : decode cM_stepAccept 45 = .ok (.iconst (-1), 1) := by decide +kernel
theorem dM_stepAccept_46 : decode cM_stepAccept 46 = .ok (.ixor, 1) := by decide +kernel
theorem dM_stepAccept_47 : decode cM_stepAccept 47 = .ok (.iand, 1) := by decide +kernel
theorem dM_stepAccept_48 : decode cM_stepAccept 48 = .ok (.istore_n 3, 1) := by decide +kernel
theorem dM_stepAccept_49 : decode cM_stepAccept 49 = .ok (.aload_n 0, 1) := by decide +kernel
theorem dM_stepAccept_50 : decode cM_stepAccept 50 = .ok (.aload_n 0, 1) := by decide +kernel
theorem dM_stepAccept_51 : decode cM_stepAccept 51 = .ok (.iload_n 1, 1) := by decide +kernel
theorem dM_stepAccept_52 : decode cM_stepAccept 52 = .ok (.iload_n 2, 1) := by decide +kernel
theorem dM_stepAccept_53 : decode cM_stepAccept 53 = .ok (.iconst 1, 1) := by decide +kernel
theorem dM_stepAccept_54 : decode cM_stepAccept 54 = .ok (.invokevirtual 111, 3) := by decide +kernel
theorem dM_stepAccept_57 : decode cM_stepAccept 57 = .ok (.iload_n 1, 1) := by decide +kernel
theorem dM_stepAccept_58 : decode cM_stepAccept 58 = .ok (.invokevirtual 115, 3) := by decide +kernel
theorem dM_stepAccept_61 : decode cM_stepAccept 61 = .ok (.ifCond .ne 12, 3) := by decide +kernel
theorem dM_stepAccept_64 : decode cM_stepAccept 64 = .ok (.aload_n 0, 1) := by decide +kernel
theorem dM_stepAccept_65 : decode cM_stepAccept 65 = .ok (.iload_n 3, 1) := by decide +kernel
theorem dM_stepAccept_66 : decode cM_stepAccept 66 = .ok (.iload_n 1, 1) := by decide +kernel
theorem dM_stepAccept_67 : decode cM_stepAccept 67 = .ok (.invokevirtual 88, 3) := by decide +kernel
theorem dM_stepAccept_70 : decode cM_stepAccept 70 = .ok (.ifCond .eq 21, 3) := by decide +kernel
theorem dM_stepAccept_73 : decode cM_stepAccept 73 = .ok (.aload_n 0, 1) := by decide +kernel
theorem dM_stepAccept_74 : decode cM_stepAccept 74 = .ok (.getfield 35, 3) := by decide +kernel
theorem dM_stepAccept_77 : decode cM_stepAccept 77 = .ok (.iload_n 1, 1) := by decide +kernel
theorem dM_stepAccept_78 : decode cM_stepAccept 78 = .ok (.aload_n 0, 1) := by decide +kernel
theorem dM_stepAccept_79 : decode cM_stepAccept 79 = .ok (.getfield 35, 3) := by decide +kernel
theorem dM_stepAccept_82 : decode cM_stepAccept 82 = .ok (.iload_n 1, 1) := by decide +kernel
theorem dM_stepAccept_83 : decode cM_stepAccept 83 = .ok (.iaload, 1) := by decide +kernel
theorem dM_stepAccept_84 : decode cM_stepAccept 84 = .ok (.iconst 1, 1) := by decide +kernel
theorem dM_stepAccept_85 : decode cM_stepAccept 85 = .ok (.iload_n 2, 1) := by decide +kernel
theorem dM_stepAccept_86 : decode cM_stepAccept 86 = .ok (.ishl, 1) := by decide +kernel
theorem dM_stepAccept_87 : decode cM_stepAccept 87 = .ok (.ior, 1) := by decide +kernel
theorem dM_stepAccept_88 : decode cM_stepAccept 88 = .ok (.iastore, 1) := by decide +kernel
theorem dM_stepAccept_89 : decode cM_stepAccept 89 = .ok (.iconst 1, 1) := by decide +kernel
theorem dM_stepAccept_90 : decode cM_stepAccept 90 = .ok (.ireturn, 1) := by decide +kernel
theorem dM_stepAccept_91 : decode cM_stepAccept 91 = .ok (.iinc 2 1, 3) := by decide +kernel
theorem dM_stepAccept_94 : decode cM_stepAccept 94 = .ok (.goto (-92), 3) := by decide +kernel
theorem dM_stepAccept_97 : decode cM_stepAccept 97 = .ok (.iconst 0, 1) := by decide +kernel
theorem dM_stepAccept_98 : decode cM_stepAccept 98 = .ok (.ireturn, 1) := by decide +kernel
theorem dM_stepConfirm_0 : decode cM_stepConfirm 0 = .ok (.iconst 0, 1) := by decide +kernel
theorem dM_stepConfirm_1 : decode cM_stepConfirm 1 = .ok (.istore_n 2, 1) := by decide +kernel
theorem dM_stepConfirm_2 : decode cM_stepConfirm 2 = .ok (.iload_n 2, 1) := by decide +kernel
theorem dM_stepConfirm_3 : decode cM_stepConfirm 3 = .ok (.bipush 24, 2) := by decide +kernel
theorem dM_stepConfirm_5 : decode cM_stepConfirm 5 = .ok (.if_icmp .ge 104, 3) := by decide +kernel
theorem dM_stepConfirm_8 : decode cM_stepConfirm 8 = .ok (.aload_n 0, 1) := by decide +kernel
theorem dM_stepConfirm_9 : decode cM_stepConfirm 9 = .ok (.getfield 35, 3) := by decide +kernel
theorem dM_stepConfirm_12 : decode cM_stepConfirm 12 = .ok (.iload_n 1, 1) := by decide +kernel
theorem dM_stepConfirm_13 : decode cM_stepConfirm 13 = .ok (.iaload, 1) := by decide +kernel
theorem dM_stepConfirm_14 : decode cM_stepConfirm 14 = .ok (.iload_n 2, 1) := by decide +kernel
theorem dM_stepConfirm_15 : decode cM_stepConfirm 15 = .ok (.ishr, 1) := by decide +kernel
theorem dM_stepConfirm_16 : decode cM_stepConfirm 16 = .ok (.iconst 1, 1) := by decide +kernel
theorem dM_stepConfirm_17 : decode cM_stepConfirm 17 = .ok (.iand, 1) := by decide +kernel
theorem dM_stepConfirm_18 : decode cM_stepConfirm 18 = .ok (.iconst 1, 1) := by decide +kernel
theorem dM_stepConfirm_19 : decode cM_stepConfirm 19 = .ok (.if_icmp .ne 20, 3) := by decide +kernel
theorem dM_stepConfirm_22 : decode cM_stepConfirm 22 = .ok (.aload_n 0, 1) := by decide +kernel
theorem dM_stepConfirm_23 : decode cM_stepConfirm 23 = .ok (.getfield 38, 3) := by decide +kernel
theorem dM_stepConfirm_26 : decode cM_stepConfirm 26 = .ok (.iload_n 1, 1) := by decide +kernel
theorem dM_stepConfirm_27 : decode cM_stepConfirm 27 = .ok (.iaload, 1) := by decide +kernel
theorem dM_stepConfirm_28 : decode cM_stepConfirm 28 = .ok (.iload_n 2, 1) := by decide +kernel
theorem dM_stepConfirm_29 : decode cM_stepConfirm 29 = .ok (.ishr, 1) := by decide +kernel
theorem dM_stepConfirm_30 : decode cM_stepConfirm 30 = .ok (.iconst 1, 1) := by decide +kernel
theorem dM_stepConfirm_31 : decode cM_stepConfirm 31 = .ok (.iand, 1) := by decide +kernel
theorem dM_stepConfirm_32 : decode cM_stepConfirm 32 = .ok (.ifCond .ne 7, 3) := by decide +kernel
theorem dM_stepConfirm_35 : decode cM_stepConfirm 35 = .ok (.iconst 1, 1) := by decide +kernel
theorem dM_stepConfirm_36 : decode cM_stepConfirm 36 = .ok (.goto 4, 3) := by decide +kernel
theorem dM_stepConfirm_39 : decode cM_stepConfirm 39 = .ok (.iconst 0, 1) := by decide +kernel
theorem dM_stepConfirm_40 : decode cM_stepConfirm 40 = .ok (.istore_n 3, 1) := by decide +kernel
theorem dM_stepConfirm_41 : decode cM_stepConfirm 41 = .ok (.iload_n 3, 1) := by decide +kernel
theorem dM_stepConfirm_42 : decode cM_stepConfirm 42 = .ok (.ifCond .eq 61, 3) := by decide +kernel
theorem dM_stepConfirm_45 : decode cM_stepConfirm 45 = .ok (.aload_n 0, 1) := by decide +kernel
theorem dM_stepConfirm_46 : decode cM_stepConfirm 46 = .ok (.aload_n 0, 1) := by decide +kernel
theorem dM_stepConfirm_47 : decode cM_stepConfirm 47 = .ok (.iload_n 1, 1) := by decide +kernel
theorem dM_stepConfirm_48 : decode cM_stepConfirm 48 = .ok (.iload_n 2, 1) := by decide +kernel
theorem dM_stepConfirm_49 : decode cM_stepConfirm 49 = .ok (.iconst 0, 1) := by decide +kernel
theorem dM_stepConfirm_50 : decode cM_stepConfirm 50 = .ok (.invokevirtual 111, 3) := by decide +kernel
theorem dM_stepConfirm_53 : decode cM_stepConfirm 53 = .ok (.iload_n 1, 1) := by decide +kernel
theorem dM_stepConfirm_54 : decode cM_stepConfirm 54 = .ok (.invokevirtual 115, 3) := by decide +kernel
theorem dM_stepConfirm_57 : decode cM_stepConfirm 57 = .ok (.ifCond .eq 46, 3) := by decide +kernel
theorem dM_stepConfirm_60 : decode cM_stepConfirm 60 = .ok (.aload_n 0, 1) := by decide +kernel
theorem dM_stepConfirm_61 : decode cM_stepConfirm 61 = .ok (.getfield 38, 3) := by decide +kernel
theorem dM_stepConfirm_64 : decode cM_stepConfirm 64 = .ok (.iload_n 1, 1) := by decide +kernel
theorem dM_stepConfirm_65 : decode cM_stepConfirm 65 = .ok (.aload_n 0, 1) := by decide +kernel
theorem dM_stepConfirm_66 : decode cM_stepConfirm 66 = .ok (.getfield 38, 3) := by decide +kernel
theorem dM_stepConfirm_69 : decode cM_stepConfirm 69 = .ok (.iload_n 1, 1) := by decide +kernel
theorem dM_stepConfirm_70 : decode cM_stepConfirm 70 = .ok (.iaload, 1) := by decide +kernel
theorem dM_stepConfirm_71 : decode cM_stepConfirm 71 = .ok (.iconst 1, 1) := by decide +kernel
theorem dM_stepConfirm_72 : decode cM_stepConfirm 72 = .ok (.iload_n 2, 1) := by decide +kernel
theorem dM_stepConfirm_73 : decode cM_stepConfirm 73 = .ok (.ishl, 1) := by decide +kernel
theorem dM_stepConfirm_74 : decode cM_stepConfirm 74 = .ok (.ior, 1) := by decide +kernel
theorem dM_stepConfirm_75 : decode cM_stepConfirm 75 = .ok (.iastore, 1) := by decide +kernel
theorem dM_stepConfirm_76 : decode cM_stepConfirm 76 = .ok (.iload_n 2, 1) := by decide +kernel
theorem dM_stepConfirm_77 : decode cM_stepConfirm 77 = .ok (.bipush 12, 2) := by decide +kernel
theorem dM_stepConfirm_79 : decode cM_stepConfirm 79 = .ok (.if_icmp .lt 22, 3) := by decide +kernel
theorem dM_stepConfirm_82 : decode cM_stepConfirm 82 = .ok (.aload_n 0, 1) := by decide +kernel
theorem dM_stepConfirm_83 : decode cM_stepConfirm 83 = .ok (.getfield 47, 3) := by decide +kernel
theorem dM_stepConfirm_86 : decode cM_stepConfirm 86 = .ok (.iload_n 1, 1) := by decide +kernel
theorem dM_stepConfirm_87 : decode cM_stepConfirm 87 = .ok (.iaload, 1) := by decide +kernel
theorem dM_stepConfirm_88 : decode cM_stepConfirm 88 = .ok (.iconst (-1), 1) := by decide +kernel
theorem dM_stepConfirm_89 : decode cM_stepConfirm 89 = .ok (.if_icmp .ne 12, 3) := by decide +kernel
theorem dM_stepConfirm_92 : decode cM_stepConfirm 92 = .ok (.aload_n 0, 1) := by decide +kernel
theorem dM_stepConfirm_93 : decode cM_stepConfirm 93 = .ok (.getfield 47, 3) := by decide +kernel
theorem dM_stepConfirm_96 : decode cM_stepConfirm 96 = .ok (.iload_n 1, 1) := by decide +kernel
theorem dM_stepConfirm_97 : decode cM_stepConfirm 97 = .ok (.iload_n 2, 1) := by decide +kernel
theorem dM_stepConfirm_98 : decode cM_stepConfirm 98 = .ok (.iconst 3, 1) := by decide +kernel
theorem dM_stepConfirm_99 : decode cM_stepConfirm 99 = .ok (.irem, 1) := by decide +kernel
theorem dM_stepConfirm_100 : decode cM_stepConfirm 100 = .ok (.iastore, 1) := by decide +kernel
theorem dM_stepConfirm_101 : decode cM_stepConfirm 101 = .ok (.iconst 1, 1) := by decide +kernel
theorem dM_stepConfirm_102 : decode cM_stepConfirm 102 = .ok (.ireturn, 1) := by decide +kernel
theorem dM_stepConfirm_103 : decode cM_stepConfirm 103 = .ok (.iinc 2 1, 3) := by decide +kernel
theorem dM_stepConfirm_106 : decode cM_stepConfirm 106 = .ok (.goto (-104), 3) := by decide +kernel
theorem dM_stepConfirm_109 : decode cM_stepConfirm 109 = .ok (.iconst 0, 1) := by decide +kernel
theorem dM_stepConfirm_110 : decode cM_stepConfirm 110 = .ok (.ireturn, 1) := by decide +kernel
theorem dM_vote_0 : decode cM_vote 0 = .ok (.aload_n 0, 1) := by decide +kernel
theorem dM_vote_1 : decode cM_vote 1 = .ok (.getfield 32, 3) := by decide +kernel
theorem dM_vote_4 : decode cM_vote 4 = .ok (.iload_n 1, 1) := by decide +kernel
theorem dM_vote_5 : decode cM_vote 5 = .ok (.iaload, 1) := by decide +kernel
theorem dM_vote_6 : decode cM_vote 6 = .ok (.iload_n 2, 1) := by decide +kernel
theorem dM_vote_7 : decode cM_vote 7 = .ok (.ishr, 1) := by decide +kernel
theorem dM_vote_8 : decode cM_vote 8 = .ok (.iconst 1, 1) := by decide +kernel
theorem dM_vote_9 : decode cM_vote 9 = .ok (.iand, 1) := by decide +kernel
theorem dM_vote_10 : decode cM_vote 10 = .ok (.iconst 1, 1) := by decide +kernel
theorem dM_vote_11 : decode cM_vote 11 = .ok (.if_icmp .eq 24, 3) := by decide +kernel
theorem dM_vote_14 : decode cM_vote 14 = .ok (.aload_n 0, 1) := by decide +kernel
theorem dM_vote_15 : decode cM_vote 15 = .ok (.aload_n 0, 1) := by decide +kernel
theorem dM_vote_16 : decode cM_vote 16 = .ok (.getfield 32, 3) := by decide +kernel
theorem dM_vote_19 : decode cM_vote 19 = .ok (.iload_n 1, 1) := by decide +kernel
theorem dM_vote_20 : decode cM_vote 20 = .ok (.iaload, 1) := by decide +kernel
theorem dM_vote_21 : decode cM_vote 21 = .ok (.aload_n 0, 1) := by decide +kernel
theorem dM_vote_22 : decode cM_vote 22 = .ok (.getfield 35, 3) := by decide +kernel
theorem dM_vote_25 : decode cM_vote 25 = .ok (.iload_n 1, 1) := by decide +kernel
theorem dM_vote_26 : decode cM_vote 26 = .ok (.iaload, 1) := by decide +kernel
theorem dM_vote_27 : decode cM_vote 27 = .ok (.ior, 1) := by decide +kernel
theorem dM_vote_28 : decode cM_vote 28 = .ok (.iload_n 2, 1) := by decide +kernel
theorem dM_vote_29 : decode cM_vote 29 = .ok (.invokevirtual 108, 3) := by decide +kernel
theorem dM_vote_32 : decode cM_vote 32 = .ok (.ifCond .eq 5, 3) := by decide +kernel
theorem dM_vote_35 : decode cM_vote 35 = .ok (.iconst 0, 1) := by decide +kernel
theorem dM_vote_36 : decode cM_vote 36 = .ok (.ireturn, 1) := by decide +kernel
theorem dM_vote_37 : decode cM_vote 37 = .ok (.aload_n 0, 1) := by decide +kernel
theorem dM_vote_38 : decode cM_vote 38 = .ok (.getfield 32, 3) := by decide +kernel
theorem dM_vote_41 : decode cM_vote 41 = .ok (.iload_n 1, 1) := by decide +kernel
theorem dM_vote_42 : decode cM_vote 42 = .ok (.aload_n 0, 1) := by decide +kernel
theorem dM_vote_43 : decode cM_vote 43 = .ok (.getfield 32, 3) := by decide +kernel
theorem dM_vote_46 : decode cM_vote 46 = .ok (.iload_n 1, 1) := by decide +kernel
theorem dM_vote_47 : decode cM_vote 47 = .ok (.iaload, 1) := by decide +kernel
theorem dM_vote_48 : decode cM_vote 48 = .ok (.iconst 1, 1) := by decide +kernel
theorem dM_vote_49 : decode cM_vote 49 = .ok (.iload_n 2, 1) := by decide +kernel
theorem dM_vote_50 : decode cM_vote 50 = .ok (.ishl, 1) := by decide +kernel
theorem dM_vote_51 : decode cM_vote 51 = .ok (.ior, 1) := by decide +kernel
theorem dM_vote_52 : decode cM_vote 52 = .ok (.iastore, 1) := by decide +kernel
theorem dM_vote_53 : decode cM_vote 53 = .ok (.iconst 1, 1) := by decide +kernel
theorem dM_vote_54 : decode cM_vote 54 = .ok (.ireturn, 1) := by decide +kernel
theorem dM_stepCommit_0 : decode cM_stepCommit 0 = .ok (.iconst 3, 1) := by decide +kernel
theorem dM_stepCommit_1 : decode cM_stepCommit 1 = .ok (.aload_n 0, 1) := by decide +kernel
theorem dM_stepCommit_2 : decode cM_stepCommit 2 = .ok (.getfield 41, 3) := by decide +kernel
theorem dM_stepCommit_5 : decode cM_stepCommit 5 = .ok (.iload_n 1, 1) := by decide +kernel
theorem dM_stepCommit_6 : decode cM_stepCommit 6 = .ok (.iaload, 1) := by decide +kernel
theorem dM_stepCommit_7 : decode cM_stepCommit 7 = .ok (.iconst 1, 1) := by decide +kernel
theorem dM_stepCommit_8 : decode cM_stepCommit 8 = .ok (.isub, 1) := by decide +kernel
theorem dM_stepCommit_9 : decode cM_stepCommit 9 = .ok (.imul, 1) := by decide +kernel
theorem dM_stepCommit_10 : decode cM_stepCommit 10 = .ok (.aload_n 0, 1) := by decide +kernel
theorem dM_stepCommit_11 : decode cM_stepCommit 11 = .ok (.getfield 44, 3) := by decide +kernel
theorem dM_stepCommit_14 : decode cM_stepCommit 14 = .ok (.iload_n 1, 1) := by decide +kernel
theorem dM_stepCommit_15 : decode cM_stepCommit 15 = .ok (.iaload, 1) := by decide +kernel
theorem dM_stepCommit_16 : decode cM_stepCommit 16 = .ok (.iadd, 1) := by decide +kernel
theorem dM_stepCommit_17 : decode cM_stepCommit 17 = .ok (.istore_n 2, 1) := by decide +kernel
theorem dM_stepCommit_18 : decode cM_stepCommit 18 = .ok (.aload_n 0, 1) := by decide +kernel
theorem dM_stepCommit_19 : decode cM_stepCommit 19 = .ok (.getfield 41, 3) := by decide +kernel
theorem dM_stepCommit_22 : decode cM_stepCommit 22 = .ok (.iload_n 1, 1) := by decide +kernel
theorem dM_stepCommit_23 : decode cM_stepCommit 23 = .ok (.iaload, 1) := by decide +kernel
theorem dM_stepCommit_24 : decode cM_stepCommit 24 = .ok (.ifCond .le 33, 3) := by decide +kernel
theorem dM_stepCommit_27 : decode cM_stepCommit 27 = .ok (.aload_n 0, 1) := by decide +kernel
theorem dM_stepCommit_28 : decode cM_stepCommit 28 = .ok (.getfield 38, 3) := by decide +kernel
theorem dM_stepCommit_31 : decode cM_stepCommit 31 = .ok (.iload_n 1, 1) := by decide +kernel
theorem dM_stepCommit_32 : decode cM_stepCommit 32 = .ok (.iaload, 1) := by decide +kernel
theorem dM_stepCommit_33 : decode cM_stepCommit 33 = .ok (.iload_n 2, 1) := by decide +kernel
theorem dM_stepCommit_34 : decode cM_stepCommit 34 = .ok (.ishr, 1) := by decide +kernel
theorem dM_stepCommit_35 : decode cM_stepCommit 35 = .ok (.iconst 1, 1) := by decide +kernel
theorem dM_stepCommit_36 : decode cM_stepCommit 36 = .ok (.iand, 1) := by decide +kernel
theorem dM_stepCommit_37 : decode cM_stepCommit 37 = .ok (.iconst 1, 1) := by decide +kernel
theorem dM_stepCommit_38 : decode cM_stepCommit 38 = .ok (.if_icmp .ne 19, 3) := by decide +kernel
theorem dM_stepCommit_41 : decode cM_stepCommit 41 = .ok (.aload_n 0, 1) := by decide +kernel
theorem dM_stepCommit_42 : decode cM_stepCommit 42 = .ok (.iload_n 1, 1) := by decide +kernel
theorem dM_stepCommit_43 : decode cM_stepCommit 43 = .ok (.bipush 12, 2) := by decide +kernel
theorem dM_stepCommit_45 : decode cM_stepCommit 45 = .ok (.iload_n 2, 1) := by decide +kernel
theorem dM_stepCommit_46 : decode cM_stepCommit 46 = .ok (.iadd, 1) := by decide +kernel
theorem dM_stepCommit_47 : decode cM_stepCommit 47 = .ok (.invokevirtual 118, 3) := by decide +kernel
theorem dM_stepCommit_50 : decode cM_stepCommit 50 = .ok (.ifCond .eq 7, 3) := by decide +kernel
theorem dM_stepCommit_53 : decode cM_stepCommit 53 = .ok (.iconst 1, 1) := by decide +kernel
theorem dM_stepCommit_54 : decode cM_stepCommit 54 = .ok (.goto 4, 3) := by decide +kernel
theorem dM_stepCommit_57 : decode cM_stepCommit 57 = .ok (.iconst 0, 1) := by decide +kernel
theorem dM_stepCommit_58 : decode cM_stepCommit 58 = .ok (.ireturn, 1) := by decide +kernel
theorem dM_settle_0 : decode cM_settle 0 = .ok (.aload_n 0, 1) := by decide +kernel
theorem dM_settle_1 : decode cM_settle 1 = .ok (.invokevirtual 95, 3) := by decide +kernel
theorem dM_settle_4 : decode cM_settle 4 = .ok (.iconst 1, 1) := by decide +kernel
theorem dM_settle_5 : decode cM_settle 5 = .ok (.istore_n 2, 1) := by decide +kernel
theorem dM_settle_6 : decode cM_settle 6 = .ok (.iconst 0, 1) := by decide +kernel
theorem dM_settle_7 : decode cM_settle 7 = .ok (.istore_n 3, 1) := by decide +kernel
theorem dM_settle_8 : decode cM_settle 8 = .ok (.iload_n 3, 1) := by decide +kernel
theorem dM_settle_9 : decode cM_settle 9 = .ok (.bipush 100, 2) := by decide +kernel
theorem dM_settle_11 : decode cM_settle 11 = .ok (.if_icmp .ge 43, 3) := by decide +kernel
theorem dM_settle_14 : decode cM_settle 14 = .ok (.iload_n 2, 1) := by decide +kernel
theorem dM_settle_15 : decode cM_settle 15 = .ok (.ifCond .eq 39, 3) := by decide +kernel
theorem dM_settle_18 : decode cM_settle 18 = .ok (.aload_n 0, 1) := by decide +kernel
theorem dM_settle_19 : decode cM_settle 19 = .ok (.iload_n 1, 1) := by decide +kernel
theorem dM_settle_20 : decode cM_settle 20 = .ok (.invokevirtual 121, 3) := by decide +kernel
theorem dM_settle_23 : decode cM_settle 23 = .ok (.ifCond .ne 19, 3) := by decide +kernel
theorem dM_settle_26 : decode cM_settle 26 = .ok (.aload_n 0, 1) := by decide +kernel
theorem dM_settle_27 : decode cM_settle 27 = .ok (.iload_n 1, 1) := by decide +kernel
theorem dM_settle_28 : decode cM_settle 28 = .ok (.invokevirtual 124, 3) := by decide +kernel
theorem dM_settle_31 : decode cM_settle 31 = .ok (.ifCond .ne 11, 3) := by decide +kernel
theorem dM_settle_34 : decode cM_settle 34 = .ok (.aload_n 0, 1) := by decide +kernel
theorem dM_settle_35 : decode cM_settle 35 = .ok (.iload_n 1, 1) := by decide +kernel
theorem dM_settle_36 : decode cM_settle 36 = .ok (.invokevirtual 127, 3) := by decide +kernel
theorem dM_settle_39 : decode cM_settle 39 = .ok (.ifCond .eq 7, 3) := by decide +kernel
theorem dM_settle_42 : decode cM_settle 42 = .ok (.iconst 1, 1) := by decide +kernel
theorem dM_settle_43 : decode cM_settle 43 = .ok (.goto 4, 3) := by decide +kernel
theorem dM_settle_46 : decode cM_settle 46 = .ok (.iconst 0, 1) := by decide +kernel
theorem dM_settle_47 : decode cM_settle 47 = .ok (.istore_n 2, 1) := by decide +kernel
theorem dM_settle_48 : decode cM_settle 48 = .ok (.iinc 3 1, 3) := by decide +kernel
theorem dM_settle_51 : decode cM_settle 51 = .ok (.goto (-43), 3) := by decide +kernel
theorem dM_settle_54 : decode cM_settle 54 = .ok (.return_, 1) := by decide +kernel
theorem dM_corrupt_0 : decode cM_corrupt 0 = .ok (.aload_n 0, 1) := by decide +kernel
theorem dM_corrupt_1 : decode cM_corrupt 1 = .ok (.iload_n 1, 1) := by decide +kernel
theorem dM_corrupt_2 : decode cM_corrupt 2 = .ok (.invokevirtual 92, 3) := by decide +kernel
theorem dM_corrupt_5 : decode cM_corrupt 5 = .ok (.ifCond .ne 5, 3) := by decide +kernel
theorem dM_corrupt_8 : decode cM_corrupt 8 = .ok (.iconst 0, 1) := by decide +kernel
theorem dM_corrupt_9 : decode cM_corrupt 9 = .ok (.ireturn, 1) := by decide +kernel
theorem dM_corrupt_10 : decode cM_corrupt 10 = .ok (.aload_n 0, 1) := by decide +kernel
theorem dM_corrupt_11 : decode cM_corrupt 11 = .ok (.getfield 29, 3) := by decide +kernel
theorem dM_corrupt_14 : decode cM_corrupt 14 = .ok (.iload_n 1, 1) := by decide +kernel
theorem dM_corrupt_15 : decode cM_corrupt 15 = .ok (.iconst 1, 1) := by decide +kernel
theorem dM_corrupt_16 : decode cM_corrupt 16 = .ok (.bastore, 1) := by decide +kernel
theorem dM_corrupt_17 : decode cM_corrupt 17 = .ok (.iconst 1, 1) := by decide +kernel
theorem dM_corrupt_18 : decode cM_corrupt 18 = .ok (.ireturn, 1) := by decide +kernel
theorem dM_choice_0 : decode cM_choice 0 = .ok (.iload_n 2, 1) := by decide +kernel
theorem dM_choice_1 : decode cM_choice 1 = .ok (.istore_n 3, 1) := by decide +kernel
theorem dM_choice_2 : decode cM_choice 2 = .ok (.iconst 0, 1) := by decide +kernel
theorem dM_choice_3 : decode cM_choice 3 = .ok (.istore 4, 2) := by decide +kernel
theorem dM_choice_5 : decode cM_choice 5 = .ok (.iload 4, 2) := by decide +kernel
theorem dM_choice_7 : decode cM_choice 7 = .ok (.bipush 12, 2) := by decide +kernel
theorem dM_choice_9 : decode cM_choice 9 = .ok (.if_icmp .ge 33, 3) := by decide +kernel
theorem dM_choice_12 : decode cM_choice 12 = .ok (.aload_n 0, 1) := by decide +kernel
theorem dM_choice_13 : decode cM_choice 13 = .ok (.getfield 38, 3) := by decide +kernel
theorem dM_choice_16 : decode cM_choice 16 = .ok (.iload_n 1, 1) := by decide +kernel
theorem dM_choice_17 : decode cM_choice 17 = .ok (.iaload, 1) := by decide +kernel
theorem dM_choice_18 : decode cM_choice 18 = .ok (.iload 4, 2) := by decide +kernel
theorem dM_choice_20 : decode cM_choice 20 = .ok (.ishr, 1) := by decide +kernel
theorem dM_choice_21 : decode cM_choice 21 = .ok (.iconst 1, 1) := by decide +kernel
theorem dM_choice_22 : decode cM_choice 22 = .ok (.iand, 1) := by decide +kernel
theorem dM_choice_23 : decode cM_choice 23 = .ok (.iconst 1, 1) := by decide +kernel
theorem dM_choice_24 : decode cM_choice 24 = .ok (.if_icmp .ne 10, 3) := by decide +kernel
theorem dM_choice_27 : decode cM_choice 27 = .ok (.iload 4, 2) := by decide +kernel
theorem dM_choice_29 : decode cM_choice 29 = .ok (.iconst 3, 1) := by decide +kernel
theorem dM_choice_30 : decode cM_choice 30 = .ok (.irem, 1) := by decide +kernel
theorem dM_choice_31 : decode cM_choice 31 = .ok (.goto 4, 3) := by decide +kernel
theorem dM_choice_34 : decode cM_choice 34 = .ok (.iload_n 3, 1) := by decide +kernel
theorem dM_choice_35 : decode cM_choice 35 = .ok (.istore_n 3, 1) := by decide +kernel
theorem dM_choice_36 : decode cM_choice 36 = .ok (.iinc 4 1, 3) := by decide +kernel
theorem dM_choice_39 : decode cM_choice 39 = .ok (.goto (-34), 3) := by decide +kernel
theorem dM_choice_42 : decode cM_choice 42 = .ok (.bipush 12, 2) := by decide +kernel
theorem dM_choice_44 : decode cM_choice 44 = .ok (.istore 4, 2) := by decide +kernel
theorem dM_choice_46 : decode cM_choice 46 = .ok (.iload 4, 2) := by decide +kernel
theorem dM_choice_48 : decode cM_choice 48 = .ok (.bipush 24, 2) := by decide +kernel
theorem dM_choice_50 : decode cM_choice 50 = .ok (.if_icmp .ge 33, 3) := by decide +kernel
theorem dM_choice_53 : decode cM_choice 53 = .ok (.aload_n 0, 1) := by decide +kernel
theorem dM_choice_54 : decode cM_choice 54 = .ok (.getfield 35, 3) := by decide +kernel
theorem dM_choice_57 : decode cM_choice 57 = .ok (.iload_n 1, 1) := by decide +kernel
theorem dM_choice_58 : decode cM_choice 58 = .ok (.iaload, 1) := by decide +kernel
theorem dM_choice_59 : decode cM_choice 59 = .ok (.iload 4, 2) := by decide +kernel
theorem dM_choice_61 : decode cM_choice 61 = .ok (.ishr, 1) := by decide +kernel
theorem dM_choice_62 : decode cM_choice 62 = .ok (.iconst 1, 1) := by decide +kernel
theorem dM_choice_63 : decode cM_choice 63 = .ok (.iand, 1) := by decide +kernel
theorem dM_choice_64 : decode cM_choice 64 = .ok (.iconst 1, 1) := by decide +kernel
theorem dM_choice_65 : decode cM_choice 65 = .ok (.if_icmp .ne 10, 3) := by decide +kernel
theorem dM_choice_68 : decode cM_choice 68 = .ok (.iload 4, 2) := by decide +kernel
theorem dM_choice_70 : decode cM_choice 70 = .ok (.iconst 3, 1) := by decide +kernel
theorem dM_choice_71 : decode cM_choice 71 = .ok (.irem, 1) := by decide +kernel
theorem dM_choice_72 : decode cM_choice 72 = .ok (.goto 4, 3) := by decide +kernel
theorem dM_choice_75 : decode cM_choice 75 = .ok (.iload_n 3, 1) := by decide +kernel
theorem dM_choice_76 : decode cM_choice 76 = .ok (.istore_n 3, 1) := by decide +kernel
theorem dM_choice_77 : decode cM_choice 77 = .ok (.iinc 4 1, 3) := by decide +kernel
theorem dM_choice_80 : decode cM_choice 80 = .ok (.goto (-34), 3) := by decide +kernel
theorem dM_choice_83 : decode cM_choice 83 = .ok (.iload_n 3, 1) := by decide +kernel
theorem dM_choice_84 : decode cM_choice 84 = .ok (.ireturn, 1) := by decide +kernel
theorem dM_propose_0 : decode cM_propose 0 = .ok (.aload_n 0, 1) := by decide +kernel
theorem dM_propose_1 : decode cM_propose 1 = .ok (.iload_n 1, 1) := by decide +kernel
theorem dM_propose_2 : decode cM_propose 2 = .ok (.invokevirtual 92, 3) := by decide +kernel
theorem dM_propose_5 : decode cM_propose 5 = .ok (.ifCond .eq 32, 3) := by decide +kernel
theorem dM_propose_8 : decode cM_propose 8 = .ok (.iload_n 2, 1) := by decide +kernel
theorem dM_propose_9 : decode cM_propose 9 = .ok (.iconst 1, 1) := by decide +kernel
theorem dM_propose_10 : decode cM_propose 10 = .ok (.if_icmp .lt 27, 3) := by decide +kernel
theorem dM_propose_13 : decode cM_propose 13 = .ok (.iload_n 2, 1) := by decide +kernel
theorem dM_propose_14 : decode cM_propose 14 = .ok (.iconst 4, 1) := by decide +kernel
theorem dM_propose_15 : decode cM_propose 15 = .ok (.if_icmp .gt 22, 3) := by decide +kernel
theorem dM_propose_18 : decode cM_propose 18 = .ok (.iload_n 2, 1) := by decide +kernel
theorem dM_propose_19 : decode cM_propose 19 = .ok (.aload_n 0, 1) := by decide +kernel
theorem dM_propose_20 : decode cM_propose 20 = .ok (.getfield 41, 3) := by decide +kernel
theorem dM_propose_23 : decode cM_propose 23 = .ok (.iload_n 1, 1) := by decide +kernel
theorem dM_propose_24 : decode cM_propose 24 = .ok (.iaload, 1) := by decide +kernel
theorem dM_propose_25 : decode cM_propose 25 = .ok (.if_icmp .le 12, 3) := by decide +kernel
theorem dM_propose_28 : decode cM_propose 28 = .ok (.iload_n 3, 1) := by decide +kernel
theorem dM_propose_29 : decode cM_propose 29 = .ok (.ifCond .lt 8, 3) := by decide +kernel
theorem dM_propose_32 : decode cM_propose 32 = .ok (.iload_n 3, 1) := by decide +kernel
theorem dM_propose_33 : decode cM_propose 33 = .ok (.iconst 2, 1) := by decide +kernel
theorem dM_propose_34 : decode cM_propose 34 = .ok (.if_icmp .le 5, 3) := by decide +kernel
theorem dM_propose_37 : decode cM_propose 37 = .ok (.iconst (-1), 1) := by decide +kernel
theorem dM_propose_38 : decode cM_propose 38 = .ok (.ireturn, 1) := by decide +kernel
theorem dM_propose_39 : decode cM_propose 39 = .ok (.aload_n 0, 1) := by decide +kernel
theorem dM_propose_40 : decode cM_propose 40 = .ok (.iconst 1, 1) := by decide +kernel
theorem dM_propose_41 : decode cM_propose 41 = .ok (.putfield 70, 3) := by decide +kernel
theorem dM_propose_44 : decode cM_propose 44 = .ok (.aload_n 0, 1) := by decide +kernel
theorem dM_propose_45 : decode cM_propose 45 = .ok (.getfield 44, 3) := by decide +kernel
theorem dM_propose_48 : decode cM_propose 48 = .ok (.iload_n 1, 1) := by decide +kernel
theorem dM_propose_49 : decode cM_propose 49 = .ok (.aload_n 0, 1) := by decide +kernel
theorem dM_propose_50 : decode cM_propose 50 = .ok (.iload_n 1, 1) := by decide +kernel
theorem dM_propose_51 : decode cM_propose 51 = .ok (.iload_n 3, 1) := by decide +kernel
theorem dM_propose_52 : decode cM_propose 52 = .ok (.invokevirtual 130, 3) := by decide +kernel
theorem dM_propose_55 : decode cM_propose 55 = .ok (.iastore, 1) := by decide +kernel
theorem dM_propose_56 : decode cM_propose 56 = .ok (.aload_n 0, 1) := by decide +kernel
theorem dM_propose_57 : decode cM_propose 57 = .ok (.getfield 41, 3) := by decide +kernel
theorem dM_propose_60 : decode cM_propose 60 = .ok (.iload_n 1, 1) := by decide +kernel
theorem dM_propose_61 : decode cM_propose 61 = .ok (.iload_n 2, 1) := by decide +kernel
theorem dM_propose_62 : decode cM_propose 62 = .ok (.iastore, 1) := by decide +kernel
theorem dM_propose_63 : decode cM_propose 63 = .ok (.iconst 1, 1) := by decide +kernel
theorem dM_propose_64 : decode cM_propose 64 = .ok (.istore 4, 2) := by decide +kernel
theorem dM_propose_66 : decode cM_propose 66 = .ok (.iload 4, 2) := by decide +kernel
theorem dM_propose_68 : decode cM_propose 68 = .ok (.iload_n 2, 1) := by decide +kernel
theorem dM_propose_69 : decode cM_propose 69 = .ok (.if_icmp .gt 29, 3) := by decide +kernel
theorem dM_propose_72 : decode cM_propose 72 = .ok (.aload_n 0, 1) := by decide +kernel
theorem dM_propose_73 : decode cM_propose 73 = .ok (.iload_n 1, 1) := by decide +kernel
theorem dM_propose_74 : decode cM_propose 74 = .ok (.iconst 3, 1) := by decide +kernel
theorem dM_propose_75 : decode cM_propose 75 = .ok (.iload 4, 2) := by decide +kernel
theorem dM_propose_77 : decode cM_propose 77 = .ok (.iconst 1, 1) := by decide +kernel
theorem dM_propose_78 : decode cM_propose 78 = .ok (.isub, 1) := by decide +kernel
theorem dM_propose_79 : decode cM_propose 79 = .ok (.imul, 1) := by decide +kernel
theorem dM_propose_80 : decode cM_propose 80 = .ok (.aload_n 0, 1) := by decide +kernel
theorem dM_propose_81 : decode cM_propose 81 = .ok (.getfield 44, 3) := by decide +kernel
theorem dM_propose_84 : decode cM_propose 84 = .ok (.iload_n 1, 1) := by decide +kernel
theorem dM_propose_85 : decode cM_propose 85 = .ok (.iaload, 1) := by decide +kernel
theorem dM_propose_86 : decode cM_propose 86 = .ok (.iadd, 1) := by decide +kernel
theorem dM_propose_87 : decode cM_propose 87 = .ok (.invokevirtual 118, 3) := by decide +kernel
theorem dM_propose_90 : decode cM_propose 90 = .ok (.istore 5, 2) := by decide +kernel
theorem dM_propose_92 : decode cM_propose 92 = .ok (.iinc 4 1, 3) := by decide +kernel
theorem dM_propose_95 : decode cM_propose 95 = .ok (.goto (-29), 3) := by decide +kernel
theorem dM_propose_98 : decode cM_propose 98 = .ok (.aload_n 0, 1) := by decide +kernel
theorem dM_propose_99 : decode cM_propose 99 = .ok (.iload_n 1, 1) := by decide +kernel
theorem dM_propose_100 : decode cM_propose 100 = .ok (.invokevirtual 133, 3) := by decide +kernel
theorem dM_propose_103 : decode cM_propose 103 = .ok (.aload_n 0, 1) := by decide +kernel
theorem dM_propose_104 : decode cM_propose 104 = .ok (.getfield 44, 3) := by decide +kernel
theorem dM_propose_107 : decode cM_propose 107 = .ok (.iload_n 1, 1) := by decide +kernel
theorem dM_propose_108 : decode cM_propose 108 = .ok (.iaload, 1) := by decide +kernel
theorem dM_propose_109 : decode cM_propose 109 = .ok (.ireturn, 1) := by decide +kernel
theorem dM_deliver_0 : decode cM_deliver 0 = .ok (.aload_n 0, 1) := by decide +kernel
theorem dM_deliver_1 : decode cM_deliver 1 = .ok (.iload_n 1, 1) := by decide +kernel
theorem dM_deliver_2 : decode cM_deliver 2 = .ok (.invokevirtual 92, 3) := by decide +kernel
theorem dM_deliver_5 : decode cM_deliver 5 = .ok (.ifCond .eq 16, 3) := by decide +kernel
theorem dM_deliver_8 : decode cM_deliver 8 = .ok (.aload_n 0, 1) := by decide +kernel
theorem dM_deliver_9 : decode cM_deliver 9 = .ok (.iload_n 2, 1) := by decide +kernel
theorem dM_deliver_10 : decode cM_deliver 10 = .ok (.invokevirtual 92, 3) := by decide +kernel
theorem dM_deliver_13 : decode cM_deliver 13 = .ok (.ifCond .eq 8, 3) := by decide +kernel
theorem dM_deliver_16 : decode cM_deliver 16 = .ok (.iload_n 1, 1) := by decide +kernel
theorem dM_deliver_17 : decode cM_deliver 17 = .ok (.iload_n 2, 1) := by decide +kernel
theorem dM_deliver_18 : decode cM_deliver 18 = .ok (.if_icmp .ne 5, 3) := by decide +kernel
theorem dM_deliver_21 : decode cM_deliver 21 = .ok (.iconst 0, 1) := by decide +kernel
theorem dM_deliver_22 : decode cM_deliver 22 = .ok (.ireturn, 1) := by decide +kernel
theorem dM_deliver_23 : decode cM_deliver 23 = .ok (.aload_n 0, 1) := by decide +kernel
theorem dM_deliver_24 : decode cM_deliver 24 = .ok (.iconst 1, 1) := by decide +kernel
theorem dM_deliver_25 : decode cM_deliver 25 = .ok (.putfield 70, 3) := by decide +kernel
theorem dM_deliver_28 : decode cM_deliver 28 = .ok (.aload_n 0, 1) := by decide +kernel
theorem dM_deliver_29 : decode cM_deliver 29 = .ok (.getfield 50, 3) := by decide +kernel
theorem dM_deliver_32 : decode cM_deliver 32 = .ok (.bipush 6, 2) := by decide +kernel
theorem dM_deliver_34 : decode cM_deliver 34 = .ok (.iload_n 2, 1) := by decide +kernel
theorem dM_deliver_35 : decode cM_deliver 35 = .ok (.imul, 1) := by decide +kernel
theorem dM_deliver_36 : decode cM_deliver 36 = .ok (.iload_n 1, 1) := by decide +kernel
theorem dM_deliver_37 : decode cM_deliver 37 = .ok (.iadd, 1) := by decide +kernel
theorem dM_deliver_38 : decode cM_deliver 38 = .ok (.aload_n 0, 1) := by decide +kernel
theorem dM_deliver_39 : decode cM_deliver 39 = .ok (.getfield 32, 3) := by decide +kernel
theorem dM_deliver_42 : decode cM_deliver 42 = .ok (.iload_n 1, 1) := by decide +kernel
theorem dM_deliver_43 : decode cM_deliver 43 = .ok (.iaload, 1) := by decide +kernel
theorem dM_deliver_44 : decode cM_deliver 44 = .ok (.iastore, 1) := by decide +kernel
theorem dM_deliver_45 : decode cM_deliver 45 = .ok (.aload_n 0, 1) := by decide +kernel
theorem dM_deliver_46 : decode cM_deliver 46 = .ok (.getfield 53, 3) := by decide +kernel
theorem dM_deliver_49 : decode cM_deliver 49 = .ok (.bipush 6, 2) := by decide +kernel
theorem dM_deliver_51 : decode cM_deliver 51 = .ok (.iload_n 2, 1) := by decide +kernel
theorem dM_deliver_52 : decode cM_deliver 52 = .ok (.imul, 1) := by decide +kernel
theorem dM_deliver_53 : decode cM_deliver 53 = .ok (.iload_n 1, 1) := by decide +kernel
theorem dM_deliver_54 : decode cM_deliver 54 = .ok (.iadd, 1) := by decide +kernel
theorem dM_deliver_55 : decode cM_deliver 55 = .ok (.aload_n 0, 1) := by decide +kernel
theorem dM_deliver_56 : decode cM_deliver 56 = .ok (.getfield 35, 3) := by decide +kernel
theorem dM_deliver_59 : decode cM_deliver 59 = .ok (.iload_n 1, 1) := by decide +kernel
theorem dM_deliver_60 : decode cM_deliver 60 = .ok (.iaload, 1) := by decide +kernel
theorem dM_deliver_61 : decode cM_deliver 61 = .ok (.iastore, 1) := by decide +kernel
theorem dM_deliver_62 : decode cM_deliver 62 = .ok (.aload_n 0, 1) := by decide +kernel
theorem dM_deliver_63 : decode cM_deliver 63 = .ok (.iload_n 2, 1) := by decide +kernel
theorem dM_deliver_64 : decode cM_deliver 64 = .ok (.invokevirtual 133, 3) := by decide +kernel
theorem dM_deliver_67 : decode cM_deliver 67 = .ok (.iconst 1, 1) := by decide +kernel
theorem dM_deliver_68 : decode cM_deliver 68 = .ok (.ireturn, 1) := by decide +kernel
theorem dM_say_0 : decode cM_say 0 = .ok (.aload_n 0, 1) := by decide +kernel
theorem dM_say_1 : decode cM_say 1 = .ok (.iload_n 1, 1) := by decide +kernel
theorem dM_say_2 : decode cM_say 2 = .ok (.invokevirtual 63, 3) := by decide +kernel
theorem dM_say_5 : decode cM_say 5 = .ok (.ifCond .eq 20, 3) := by decide +kernel
theorem dM_say_8 : decode cM_say 8 = .ok (.aload_n 0, 1) := by decide +kernel
theorem dM_say_9 : decode cM_say 9 = .ok (.getfield 29, 3) := by decide +kernel
theorem dM_say_12 : decode cM_say 12 = .ok (.iload_n 1, 1) := by decide +kernel
theorem dM_say_13 : decode cM_say 13 = .ok (.baload, 1) := by decide +kernel
theorem dM_say_14 : decode cM_say 14 = .ok (.ifCond .eq 11, 3) := by decide +kernel
theorem dM_say_17 : decode cM_say 17 = .ok (.aload_n 0, 1) := by decide +kernel
theorem dM_say_18 : decode cM_say 18 = .ok (.iload_n 2, 1) := by decide +kernel
theorem dM_say_19 : decode cM_say 19 = .ok (.invokevirtual 92, 3) := by decide +kernel
theorem dM_say_22 : decode cM_say 22 = .ok (.ifCond .ne 5, 3) := by decide +kernel
theorem dM_say_25 : decode cM_say 25 = .ok (.iconst 0, 1) := by decide +kernel
theorem dM_say_26 : decode cM_say 26 = .ok (.ireturn, 1) := by decide +kernel
theorem dM_say_27 : decode cM_say 27 = .ok (.aload_n 0, 1) := by decide +kernel
theorem dM_say_28 : decode cM_say 28 = .ok (.iconst 1, 1) := by decide +kernel
theorem dM_say_29 : decode cM_say 29 = .ok (.putfield 70, 3) := by decide +kernel
theorem dM_say_32 : decode cM_say 32 = .ok (.aload_n 0, 1) := by decide +kernel
theorem dM_say_33 : decode cM_say 33 = .ok (.getfield 50, 3) := by decide +kernel
theorem dM_say_36 : decode cM_say 36 = .ok (.bipush 6, 2) := by decide +kernel
theorem dM_say_38 : decode cM_say 38 = .ok (.iload_n 2, 1) := by decide +kernel
theorem dM_say_39 : decode cM_say 39 = .ok (.imul, 1) := by decide +kernel
theorem dM_say_40 : decode cM_say 40 = .ok (.iload_n 1, 1) := by decide +kernel
theorem dM_say_41 : decode cM_say 41 = .ok (.iadd, 1) := by decide +kernel
theorem dM_say_42 : decode cM_say 42 = .ok (.iload_n 3, 1) := by decide +kernel
theorem dM_say_43 : decode cM_say 43 = .ok (.ldc 136, 2) := by decide +kernel
theorem dM_say_45 : decode cM_say 45 = .ok (.iand, 1) := by decide +kernel
theorem dM_say_46 : decode cM_say 46 = .ok (.iastore, 1) := by decide +kernel
theorem dM_say_47 : decode cM_say 47 = .ok (.aload_n 0, 1) := by decide +kernel
theorem dM_say_48 : decode cM_say 48 = .ok (.getfield 53, 3) := by decide +kernel
theorem dM_say_51 : decode cM_say 51 = .ok (.bipush 6, 2) := by decide +kernel
theorem dM_say_53 : decode cM_say 53 = .ok (.iload_n 2, 1) := by decide +kernel
theorem dM_say_54 : decode cM_say 54 = .ok (.imul, 1) := by decide +kernel
theorem dM_say_55 : decode cM_say 55 = .ok (.iload_n 1, 1) := by decide +kernel
theorem dM_say_56 : decode cM_say 56 = .ok (.iadd, 1) := by decide +kernel
theorem dM_say_57 : decode cM_say 57 = .ok (.iload 4, 2) := by decide +kernel
theorem dM_say_59 : decode cM_say 59 = .ok (.ldc 136, 2) := by decide +kernel
theorem dM_say_61 : decode cM_say 61 = .ok (.iand, 1) := by decide +kernel
theorem dM_say_62 : decode cM_say 62 = .ok (.iastore, 1) := by decide +kernel
theorem dM_say_63 : decode cM_say 63 = .ok (.aload_n 0, 1) := by decide +kernel
theorem dM_say_64 : decode cM_say 64 = .ok (.iload_n 2, 1) := by decide +kernel
theorem dM_say_65 : decode cM_say 65 = .ok (.invokevirtual 133, 3) := by decide +kernel
theorem dM_say_68 : decode cM_say 68 = .ok (.iconst 1, 1) := by decide +kernel
theorem dM_say_69 : decode cM_say 69 = .ok (.ireturn, 1) := by decide +kernel
theorem dM_voted_0 : decode cM_voted 0 = .ok (.aload_n 0, 1) := by decide +kernel
theorem dM_voted_1 : decode cM_voted 1 = .ok (.iload_n 1, 1) := by decide +kernel
theorem dM_voted_2 : decode cM_voted 2 = .ok (.invokevirtual 63, 3) := by decide +kernel
theorem dM_voted_5 : decode cM_voted 5 = .ok (.ifCond .eq 12, 3) := by decide +kernel
theorem dM_voted_8 : decode cM_voted 8 = .ok (.aload_n 0, 1) := by decide +kernel
theorem dM_voted_9 : decode cM_voted 9 = .ok (.getfield 32, 3) := by decide +kernel
theorem dM_voted_12 : decode cM_voted 12 = .ok (.iload_n 1, 1) := by decide +kernel
theorem dM_voted_13 : decode cM_voted 13 = .ok (.iaload, 1) := by decide +kernel
theorem dM_voted_14 : decode cM_voted 14 = .ok (.goto 4, 3) := by decide +kernel
theorem dM_voted_17 : decode cM_voted 17 = .ok (.iconst 0, 1) := by decide +kernel
theorem dM_voted_18 : decode cM_voted 18 = .ok (.ireturn, 1) := by decide +kernel
theorem dM_accepted_0 : decode cM_accepted 0 = .ok (.aload_n 0, 1) := by decide +kernel
theorem dM_accepted_1 : decode cM_accepted 1 = .ok (.iload_n 1, 1) := by decide +kernel
theorem dM_accepted_2 : decode cM_accepted 2 = .ok (.invokevirtual 63, 3) := by decide +kernel
theorem dM_accepted_5 : decode cM_accepted 5 = .ok (.ifCond .eq 12, 3) := by decide +kernel
theorem dM_accepted_8 : decode cM_accepted 8 = .ok (.aload_n 0, 1) := by decide +kernel
theorem dM_accepted_9 : decode cM_accepted 9 = .ok (.getfield 35, 3) := by decide +kernel
theorem dM_accepted_12 : decode cM_accepted 12 = .ok (.iload_n 1, 1) := by decide +kernel
theorem dM_accepted_13 : decode cM_accepted 13 = .ok (.iaload, 1) := by decide +kernel
theorem dM_accepted_14 : decode cM_accepted 14 = .ok (.goto 4, 3) := by decide +kernel
theorem dM_accepted_17 : decode cM_accepted 17 = .ok (.iconst 0, 1) := by decide +kernel
theorem dM_accepted_18 : decode cM_accepted 18 = .ok (.ireturn, 1) := by decide +kernel
theorem dM_confirmed_0 : decode cM_confirmed 0 = .ok (.aload_n 0, 1) := by decide +kernel
theorem dM_confirmed_1 : decode cM_confirmed 1 = .ok (.iload_n 1, 1) := by decide +kernel
theorem dM_confirmed_2 : decode cM_confirmed 2 = .ok (.invokevirtual 63, 3) := by decide +kernel
theorem dM_confirmed_5 : decode cM_confirmed 5 = .ok (.ifCond .eq 12, 3) := by decide +kernel
theorem dM_confirmed_8 : decode cM_confirmed 8 = .ok (.aload_n 0, 1) := by decide +kernel
theorem dM_confirmed_9 : decode cM_confirmed 9 = .ok (.getfield 38, 3) := by decide +kernel
theorem dM_confirmed_12 : decode cM_confirmed 12 = .ok (.iload_n 1, 1) := by decide +kernel
theorem dM_confirmed_13 : decode cM_confirmed 13 = .ok (.iaload, 1) := by decide +kernel
theorem dM_confirmed_14 : decode cM_confirmed 14 = .ok (.goto 4, 3) := by decide +kernel
theorem dM_confirmed_17 : decode cM_confirmed 17 = .ok (.iconst 0, 1) := by decide +kernel
theorem dM_confirmed_18 : decode cM_confirmed 18 = .ok (.ireturn, 1) := by decide +kernel
theorem dM_counter_0 : decode cM_counter 0 = .ok (.aload_n 0, 1) := by decide +kernel
theorem dM_counter_1 : decode cM_counter 1 = .ok (.iload_n 1, 1) := by decide +kernel
theorem dM_counter_2 : decode cM_counter 2 = .ok (.invokevirtual 63, 3) := by decide +kernel
theorem dM_counter_5 : decode cM_counter 5 = .ok (.ifCond .eq 12, 3) := by decide +kernel
theorem dM_counter_8 : decode cM_counter 8 = .ok (.aload_n 0, 1) := by decide +kernel
theorem dM_counter_9 : decode cM_counter 9 = .ok (.getfield 41, 3) := by decide +kernel
theorem dM_counter_12 : decode cM_counter 12 = .ok (.iload_n 1, 1) := by decide +kernel
theorem dM_counter_13 : decode cM_counter 13 = .ok (.iaload, 1) := by decide +kernel
theorem dM_counter_14 : decode cM_counter 14 = .ok (.goto 4, 3) := by decide +kernel
theorem dM_counter_17 : decode cM_counter 17 = .ok (.iconst 0, 1) := by decide +kernel
theorem dM_counter_18 : decode cM_counter 18 = .ok (.ireturn, 1) := by decide +kernel
theorem dM_value_0 : decode cM_value 0 = .ok (.aload_n 0, 1) := by decide +kernel
theorem dM_value_1 : decode cM_value 1 = .ok (.iload_n 1, 1) := by decide +kernel
theorem dM_value_2 : decode cM_value 2 = .ok (.invokevirtual 63, 3) := by decide +kernel
theorem dM_value_5 : decode cM_value 5 = .ok (.ifCond .eq 12, 3) := by decide +kernel
theorem dM_value_8 : decode cM_value 8 = .ok (.aload_n 0, 1) := by decide +kernel
theorem dM_value_9 : decode cM_value 9 = .ok (.getfield 44, 3) := by decide +kernel
theorem dM_value_12 : decode cM_value 12 = .ok (.iload_n 1, 1) := by decide +kernel
theorem dM_value_13 : decode cM_value 13 = .ok (.iaload, 1) := by decide +kernel
theorem dM_value_14 : decode cM_value 14 = .ok (.goto 4, 3) := by decide +kernel
theorem dM_value_17 : decode cM_value 17 = .ok (.iconst 0, 1) := by decide +kernel
theorem dM_value_18 : decode cM_value 18 = .ok (.ireturn, 1) := by decide +kernel
theorem dM_decided_0 : decode cM_decided 0 = .ok (.aload_n 0, 1) := by decide +kernel
theorem dM_decided_1 : decode cM_decided 1 = .ok (.iload_n 1, 1) := by decide +kernel
theorem dM_decided_2 : decode cM_decided 2 = .ok (.invokevirtual 63, 3) := by decide +kernel
theorem dM_decided_5 : decode cM_decided 5 = .ok (.ifCond .eq 12, 3) := by decide +kernel
theorem dM_decided_8 : decode cM_decided 8 = .ok (.aload_n 0, 1) := by decide +kernel
theorem dM_decided_9 : decode cM_decided 9 = .ok (.getfield 47, 3) := by decide +kernel
theorem dM_decided_12 : decode cM_decided 12 = .ok (.iload_n 1, 1) := by decide +kernel
theorem dM_decided_13 : decode cM_decided 13 = .ok (.iaload, 1) := by decide +kernel
theorem dM_decided_14 : decode cM_decided 14 = .ok (.goto 4, 3) := by decide +kernel
theorem dM_decided_17 : decode cM_decided 17 = .ok (.iconst (-1), 1) := by decide +kernel
theorem dM_decided_18 : decode cM_decided 18 = .ok (.ireturn, 1) := by decide +kernel
theorem dM_known_0 : decode cM_known 0 = .ok (.aload_n 0, 1) := by decide +kernel
theorem dM_known_1 : decode cM_known 1 = .ok (.iload_n 1, 1) := by decide +kernel
theorem dM_known_2 : decode cM_known 2 = .ok (.invokevirtual 63, 3) := by decide +kernel
theorem dM_known_5 : decode cM_known 5 = .ok (.ifCond .eq 11, 3) := by decide +kernel
theorem dM_known_8 : decode cM_known 8 = .ok (.aload_n 0, 1) := by decide +kernel
theorem dM_known_9 : decode cM_known 9 = .ok (.iload_n 2, 1) := by decide +kernel
theorem dM_known_10 : decode cM_known 10 = .ok (.invokevirtual 63, 3) := by decide +kernel
theorem dM_known_13 : decode cM_known 13 = .ok (.ifCond .ne 5, 3) := by decide +kernel
theorem dM_known_16 : decode cM_known 16 = .ok (.iconst 0, 1) := by decide +kernel
theorem dM_known_17 : decode cM_known 17 = .ok (.ireturn, 1) := by decide +kernel
theorem dM_known_18 : decode cM_known 18 = .ok (.iload_n 3, 1) := by decide +kernel
theorem dM_known_19 : decode cM_known 19 = .ok (.ifCond .eq 12, 3) := by decide +kernel
theorem dM_known_22 : decode cM_known 22 = .ok (.aload_n 0, 1) := by decide +kernel
theorem dM_known_23 : decode cM_known 23 = .ok (.iload_n 2, 1) := by decide +kernel
theorem dM_known_24 : decode cM_known 24 = .ok (.iload_n 1, 1) := by decide +kernel
theorem dM_known_25 : decode cM_known 25 = .ok (.invokevirtual 101, 3) := by decide +kernel
theorem dM_known_28 : decode cM_known 28 = .ok (.goto 9, 3) := by decide +kernel
theorem dM_known_31 : decode cM_known 31 = .ok (.aload_n 0, 1) := by decide +kernel
theorem dM_known_32 : decode cM_known 32 = .ok (.iload_n 2, 1) := by decide +kernel
theorem dM_known_33 : decode cM_known 33 = .ok (.iload_n 1, 1) := by decide +kernel
theorem dM_known_34 : decode cM_known 34 = .ok (.invokevirtual 105, 3) := by decide +kernel
theorem dM_known_37 : decode cM_known 37 = .ok (.ireturn, 1) := by decide +kernel
