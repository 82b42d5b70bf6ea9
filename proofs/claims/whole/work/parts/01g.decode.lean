theorem dX9_feed_50 : decode cX9_feed 50 = .ok (.bipush 12, 2) := by decide +kernel
theorem dX9_feed_52 : decode cX9_feed 52 = .ok (.if_icmp .ge 7, 3) := by decide +kernel
theorem dX9_feed_55 : decode cX9_feed 55 = .ok (.iload_n 3, 1) := by decide +kernel
theorem dX9_feed_56 : decode cX9_feed 56 = .ok (.goto 17, 3) := by decide +kernel
theorem dX9_feed_59 : decode cX9_feed 59 = .ok (.iload 6, 2) := by decide +kernel
theorem dX9_feed_61 : decode cX9_feed 61 = .ok (.bipush 16, 2) := by decide +kernel
theorem dX9_feed_63 : decode cX9_feed 63 = .ok (.if_icmp .ge 8, 3) := by decide +kernel
theorem dX9_feed_66 : decode cX9_feed 66 = .ok (.iload 4, 2) := by decide +kernel
theorem dX9_feed_68 : decode cX9_feed 68 = .ok (.goto 5, 3) := by decide +kernel
theorem dX9_feed_71 : decode cX9_feed 71 = .ok (.iload 5, 2) := by decide +kernel
theorem dX9_feed_73 : decode cX9_feed 73 = .ok (.istore 7, 2) := by decide +kernel
theorem dX9_feed_75 : decode cX9_feed 75 = .ok (.aload_n 0, 1) := by decide +kernel
theorem dX9_feed_76 : decode cX9_feed 76 = .ok (.getfield 7, 3) := by decide +kernel
theorem dX9_feed_79 : decode cX9_feed 79 = .ok (.aload_n 0, 1) := by decide +kernel
theorem dX9_feed_80 : decode cX9_feed 80 = .ok (.getfield 72, 3) := by decide +kernel
theorem dX9_feed_83 : decode cX9_feed 83 = .ok (.iload 6, 2) := by decide +kernel
theorem dX9_feed_85 : decode cX9_feed 85 = .ok (.iadd, 1) := by decide +kernel
theorem dX9_feed_86 : decode cX9_feed 86 = .ok (.iload 7, 2) := by decide +kernel
theorem dX9_feed_88 : decode cX9_feed 88 = .ok (.bipush 24, 2) := by decide +kernel
theorem dX9_feed_90 : decode cX9_feed 90 = .ok (.bipush 8, 2) := by decide +kernel
theorem dX9_feed_92 : decode cX9_feed 92 = .ok (.iload 6, 2) := by decide +kernel
theorem dX9_feed_94 : decode cX9_feed 94 = .ok (.iconst 4, 1) := by decide +kernel
theorem dX9_feed_95 : decode cX9_feed 95 = .ok (.irem, 1) := by decide +kernel
theorem dX9_feed_96 : decode cX9_feed 96 = .ok (.imul, 1) := by decide +kernel
theorem dX9_feed_97 : decode cX9_feed 97 = .ok (.isub, 1) := by decide +kernel
theorem dX9_feed_98 : decode cX9_feed 98 = .ok (.ishr, 1) := by decide +kernel
theorem dX9_feed_99 : decode cX9_feed 99 = .ok (.sipush 255, 3) := by decide +kernel
theorem dX9_feed_102 : decode cX9_feed 102 = .ok (.iand, 1) := by decide +kernel
theorem dX9_feed_103 : decode cX9_feed 103 = .ok (.iastore, 1) := by decide +kernel
theorem dX9_feed_104 : decode cX9_feed 104 = .ok (.iinc 6 1, 3) := by decide +kernel
theorem dX9_feed_107 : decode cX9_feed 107 = .ok (.goto (-87), 3) := by decide +kernel
theorem dX9_feed_110 : decode cX9_feed 110 = .ok (.aload_n 0, 1) := by decide +kernel
theorem dX9_feed_111 : decode cX9_feed 111 = .ok (.dup, 1) := by decide +kernel
theorem dX9_feed_112 : decode cX9_feed 112 = .ok (.getfield 72, 3) := by decide +kernel
theorem dX9_feed_115 : decode cX9_feed 115 = .ok (.bipush 20, 2) := by decide +kernel
theorem dX9_feed_117 : decode cX9_feed 117 = .ok (.iadd, 1) := by decide +kernel
theorem dX9_feed_118 : decode cX9_feed 118 = .ok (.putfield 72, 3) := by decide +kernel
theorem dX9_feed_121 : decode cX9_feed 121 = .ok (.aload_n 0, 1) := by decide +kernel
theorem dX9_feed_122 : decode cX9_feed 122 = .ok (.getfield 72, 3) := by decide +kernel
theorem dX9_feed_125 : decode cX9_feed 125 = .ok (.ireturn, 1) := by decide +kernel
theorem dX9_work_0 : decode cX9_work 0 = .ok (.aload_n 0, 1) := by decide +kernel
theorem dX9_work_1 : decode cX9_work 1 = .ok (.iconst 0, 1) := by decide +kernel
theorem dX9_work_2 : decode cX9_work 2 = .ok (.putfield 69, 3) := by decide +kernel
theorem dX9_work_5 : decode cX9_work 5 = .ok (.iload_n 1, 1) := by decide +kernel
theorem dX9_work_6 : decode cX9_work 6 = .ok (.ifCond .lt 11, 3) := by decide +kernel
theorem dX9_work_9 : decode cX9_work 9 = .ok (.iload_n 1, 1) := by decide +kernel
theorem dX9_work_10 : decode cX9_work 10 = .ok (.aload_n 0, 1) := by decide +kernel
theorem dX9_work_11 : decode cX9_work 11 = .ok (.getfield 72, 3) := by decide +kernel
theorem dX9_work_14 : decode cX9_work 14 = .ok (.if_icmp .le 6, 3) := by decide +kernel
theorem dX9_work_17 : decode cX9_work 17 = .ok (.bipush (-2), 2) := by decide +kernel
theorem dX9_work_19 : decode cX9_work 19 = .ok (.ireturn, 1) := by decide +kernel
theorem dX9_work_20 : decode cX9_work 20 = .ok (.aload_n 0, 1) := by decide +kernel
theorem dX9_work_21 : decode cX9_work 21 = .ok (.iconst 0, 1) := by decide +kernel
theorem dX9_work_22 : decode cX9_work 22 = .ok (.putfield 72, 3) := by decide +kernel
theorem dX9_work_25 : decode cX9_work 25 = .ok (.aload_n 0, 1) := by decide +kernel
theorem dX9_work_26 : decode cX9_work 26 = .ok (.iconst 0, 1) := by decide +kernel
theorem dX9_work_27 : decode cX9_work 27 = .ok (.putfield 75, 3) := by decide +kernel
theorem dX9_work_30 : decode cX9_work 30 = .ok (.aload_n 0, 1) := by decide +kernel
theorem dX9_work_31 : decode cX9_work 31 = .ok (.iconst (-1), 1) := by decide +kernel
theorem dX9_work_32 : decode cX9_work 32 = .ok (.putfield 16, 3) := by decide +kernel
theorem dX9_work_35 : decode cX9_work 35 = .ok (.iconst 0, 1) := by decide +kernel
theorem dX9_work_36 : decode cX9_work 36 = .ok (.istore_n 2, 1) := by decide +kernel
theorem dX9_work_37 : decode cX9_work 37 = .ok (.iconst 0, 1) := by decide +kernel
theorem dX9_work_38 : decode cX9_work 38 = .ok (.istore_n 3, 1) := by decide +kernel
theorem dX9_work_39 : decode cX9_work 39 = .ok (.iload_n 3, 1) := by decide +kernel
theorem dX9_work_40 : decode cX9_work 40 = .ok (.iload_n 1, 1) := by decide +kernel
theorem dX9_work_41 : decode cX9_work 41 = .ok (.if_icmp .ge 100, 3) := by decide +kernel
theorem dX9_work_44 : decode cX9_work 44 = .ok (.aload_n 0, 1) := by decide +kernel
theorem dX9_work_45 : decode cX9_work 45 = .ok (.getfield 7, 3) := by decide +kernel
theorem dX9_work_48 : decode cX9_work 48 = .ok (.iload_n 3, 1) := by decide +kernel
theorem dX9_work_49 : decode cX9_work 49 = .ok (.iaload, 1) := by decide +kernel
theorem dX9_work_50 : decode cX9_work 50 = .ok (.istore 4, 2) := by decide +kernel
theorem dX9_work_52 : decode cX9_work 52 = .ok (.iload 4, 2) := by decide +kernel
theorem dX9_work_54 : decode cX9_work 54 = .ok (.bipush 10, 2) := by decide +kernel
theorem dX9_work_56 : decode cX9_work 56 = .ok (.if_icmp .eq 79, 3) := by decide +kernel
theorem dX9_work_59 : decode cX9_work 59 = .ok (.iload 4, 2) := by decide +kernel
theorem dX9_work_61 : decode cX9_work 61 = .ok (.bipush 32, 2) := by decide +kernel
theorem dX9_work_63 : decode cX9_work 63 = .ok (.if_icmp .ne 6, 3) := by decide +kernel
theorem dX9_work_66 : decode cX9_work 66 = .ok (.goto 69, 3) := by decide +kernel
theorem dX9_work_69 : decode cX9_work 69 = .ok (.aload_n 0, 1) := by decide +kernel
theorem dX9_work_70 : decode cX9_work 70 = .ok (.iload 4, 2) := by decide +kernel
theorem dX9_work_72 : decode cX9_work 72 = .ok (.bipush 97, 2) := by decide +kernel
theorem dX9_work_74 : decode cX9_work 74 = .ok (.if_icmp .lt 10, 3) := by decide +kernel
theorem dX9_work_77 : decode cX9_work 77 = .ok (.iload 4, 2) := by decide +kernel
theorem dX9_work_79 : decode cX9_work 79 = .ok (.bipush 112, 2) := by decide +kernel
theorem dX9_work_81 : decode cX9_work 81 = .ok (.if_icmp .le 7, 3) := by decide +kernel
theorem dX9_work_84 : decode cX9_work 84 = .ok (.iconst 1, 1) := by decide +kernel
theorem dX9_work_85 : decode cX9_work 85 = .ok (.goto 15, 3) := by decide +kernel
theorem dX9_work_88 : decode cX9_work 88 = .ok (.iload_n 2, 1) := by decide +kernel
theorem dX9_work_89 : decode cX9_work 89 = .ok (.sipush 160, 3) := by decide +kernel
theorem dX9_work_92 : decode cX9_work 92 = .ok (.if_icmp .ne 7, 3) := by decide +kernel
theorem dX9_work_95 : decode cX9_work 95 = .ok (.iconst 2, 1) := by decide +kernel
theorem dX9_work_96 : decode cX9_work 96 = .ok (.goto 4, 3) := by decide +kernel
theorem dX9_work_99 : decode cX9_work 99 = .ok (.iconst 0, 1) := by decide +kernel
theorem dX9_work_100 : decode cX9_work 100 = .ok (.putfield 75, 3) := by decide +kernel
theorem dX9_work_103 : decode cX9_work 103 = .ok (.aload_n 0, 1) := by decide +kernel
theorem dX9_work_104 : decode cX9_work 104 = .ok (.getfield 75, 3) := by decide +kernel
theorem dX9_work_107 : decode cX9_work 107 = .ok (.ifCond .eq 10, 3) := by decide +kernel
theorem dX9_work_110 : decode cX9_work 110 = .ok (.aload_n 0, 1) := by decide +kernel
theorem dX9_work_111 : decode cX9_work 111 = .ok (.iload_n 3, 1) := by decide +kernel
theorem dX9_work_112 : decode cX9_work 112 = .ok (.putfield 16, 3) := by decide +kernel
theorem dX9_work_115 : decode cX9_work 115 = .ok (.iconst (-1), 1) := by decide +kernel
theorem dX9_work_116 : decode cX9_work 116 = .ok (.ireturn, 1) := by decide +kernel
theorem dX9_work_117 : decode cX9_work 117 = .ok (.aload_n 0, 1) := by decide +kernel
theorem dX9_work_118 : decode cX9_work 118 = .ok (.getfield 13, 3) := by decide +kernel
theorem dX9_work_121 : decode cX9_work 121 = .ok (.sipush 160, 3) := by decide +kernel
theorem dX9_work_124 : decode cX9_work 124 = .ok (.iload_n 2, 1) := by decide +kernel
theorem dX9_work_125 : decode cX9_work 125 = .ok (.iadd, 1) := by decide +kernel
theorem dX9_work_126 : decode cX9_work 126 = .ok (.iload 4, 2) := by decide +kernel
theorem dX9_work_128 : decode cX9_work 128 = .ok (.bipush 97, 2) := by decide +kernel
theorem dX9_work_130 : decode cX9_work 130 = .ok (.isub, 1) := by decide +kernel
theorem dX9_work_131 : decode cX9_work 131 = .ok (.iastore, 1) := by decide +kernel
theorem dX9_work_132 : decode cX9_work 132 = .ok (.iinc 2 1, 3) := by decide +kernel
theorem dX9_work_135 : decode cX9_work 135 = .ok (.iinc 3 1, 3) := by decide +kernel
theorem dX9_work_138 : decode cX9_work 138 = .ok (.goto (-99), 3) := by decide +kernel
theorem dX9_work_141 : decode cX9_work 141 = .ok (.aload_n 0, 1) := by decide +kernel
theorem dX9_work_142 : decode cX9_work 142 = .ok (.iload_n 2, 1) := by decide +kernel
theorem dX9_work_143 : decode cX9_work 143 = .ok (.putfield 78, 3) := by decide +kernel
theorem dX9_work_146 : decode cX9_work 146 = .ok (.iconst 0, 1) := by decide +kernel
theorem dX9_work_147 : decode cX9_work 147 = .ok (.istore_n 3, 1) := by decide +kernel
theorem dX9_work_148 : decode cX9_work 148 = .ok (.iload_n 3, 1) := by decide +kernel
theorem dX9_work_149 : decode cX9_work 149 = .ok (.iload_n 2, 1) := by decide +kernel
theorem dX9_work_150 : decode cX9_work 150 = .ok (.if_icmp .ge 25, 3) := by decide +kernel
theorem dX9_work_153 : decode cX9_work 153 = .ok (.aload_n 0, 1) := by decide +kernel
theorem dX9_work_154 : decode cX9_work 154 = .ok (.getfield 13, 3) := by decide +kernel
theorem dX9_work_157 : decode cX9_work 157 = .ok (.iload_n 3, 1) := by decide +kernel
theorem dX9_work_158 : decode cX9_work 158 = .ok (.aload_n 0, 1) := by decide +kernel
theorem dX9_work_159 : decode cX9_work 159 = .ok (.getfield 13, 3) := by decide +kernel
theorem dX9_work_162 : decode cX9_work 162 = .ok (.sipush 160, 3) := by decide +kernel
theorem dX9_work_165 : decode cX9_work 165 = .ok (.iload_n 3, 1) := by decide +kernel
theorem dX9_work_166 : decode cX9_work 166 = .ok (.iadd, 1) := by decide +kernel
theorem dX9_work_167 : decode cX9_work 167 = .ok (.iaload, 1) := by decide +kernel
theorem dX9_work_168 : decode cX9_work 168 = .ok (.iastore, 1) := by decide +kernel
theorem dX9_work_169 : decode cX9_work 169 = .ok (.iinc 3 1, 3) := by decide +kernel
theorem dX9_work_172 : decode cX9_work 172 = .ok (.goto (-24), 3) := by decide +kernel
theorem dX9_work_175 : decode cX9_work 175 = .ok (.aload_n 0, 1) := by decide +kernel
theorem dX9_work_176 : decode cX9_work 176 = .ok (.iconst 0, 1) := by decide +kernel
theorem dX9_work_177 : decode cX9_work 177 = .ok (.putfield 81, 3) := by decide +kernel
theorem dX9_work_180 : decode cX9_work 180 = .ok (.aload_n 0, 1) := by decide +kernel
theorem dX9_work_181 : decode cX9_work 181 = .ok (.iconst 0, 1) := by decide +kernel
theorem dX9_work_182 : decode cX9_work 182 = .ok (.putfield 84, 3) := by decide +kernel
theorem dX9_work_185 : decode cX9_work 185 = .ok (.aload_n 0, 1) := by decide +kernel
theorem dX9_work_186 : decode cX9_work 186 = .ok (.getfield 78, 3) := by decide +kernel
theorem dX9_work_189 : decode cX9_work 189 = .ok (.ireturn, 1) := by decide +kernel
theorem dX9_fault_0 : decode cX9_fault 0 = .ok (.aload_n 0, 1) := by decide +kernel
theorem dX9_fault_1 : decode cX9_fault 1 = .ok (.iconst 0, 1) := by decide +kernel
theorem dX9_fault_2 : decode cX9_fault 2 = .ok (.putfield 69, 3) := by decide +kernel
theorem dX9_fault_5 : decode cX9_fault 5 = .ok (.iload_n 1, 1) := by decide +kernel
theorem dX9_fault_6 : decode cX9_fault 6 = .ok (.ifCond .ne 10, 3) := by decide +kernel
theorem dX9_fault_9 : decode cX9_fault 9 = .ok (.aload_n 0, 1) := by decide +kernel
theorem dX9_fault_10 : decode cX9_fault 10 = .ok (.getfield 75, 3) := by decide +kernel
theorem dX9_fault_13 : decode cX9_fault 13 = .ok (.goto 16, 3) := by decide +kernel
theorem dX9_fault_16 : decode cX9_fault 16 = .ok (.iload_n 1, 1) := by decide +kernel
theorem dX9_fault_17 : decode cX9_fault 17 = .ok (.iconst 1, 1) := by decide +kernel
theorem dX9_fault_18 : decode cX9_fault 18 = .ok (.if_icmp .ne 10, 3) := by decide +kernel
theorem dX9_fault_21 : decode cX9_fault 21 = .ok (.aload_n 0, 1) := by decide +kernel
theorem dX9_fault_22 : decode cX9_fault 22 = .ok (.getfield 16, 3) := by decide +kernel
theorem dX9_fault_25 : decode cX9_fault 25 = .ok (.goto 4, 3) := by decide +kernel
theorem dX9_fault_28 : decode cX9_fault 28 = .ok (.iconst (-1), 1) := by decide +kernel
theorem dX9_fault_29 : decode cX9_fault 29 = .ok (.ireturn, 1) := by decide +kernel
theorem dX9_isHalf_0 : decode cX9_isHalf 0 = .ok (.iload_n 1, 1) := by decide +kernel
theorem dX9_isHalf_1 : decode cX9_isHalf 1 = .ok (.ifCond .lt 15, 3) := by decide +kernel
theorem dX9_isHalf_4 : decode cX9_isHalf 4 = .ok (.iload_n 1, 1) := by decide +kernel
theorem dX9_isHalf_5 : decode cX9_isHalf 5 = .ok (.aload_n 0, 1) := by decide +kernel
theorem dX9_isHalf_6 : decode cX9_isHalf 6 = .ok (.getfield 88, 3) := by decide +kernel
theorem dX9_isHalf_9 : decode cX9_isHalf 9 = .ok (.if_icmp .ge 7, 3) := by decide +kernel
theorem dX9_isHalf_12 : decode cX9_isHalf 12 = .ok (.iconst 1, 1) := by decide +kernel
theorem dX9_isHalf_13 : decode cX9_isHalf 13 = .ok (.goto 4, 3) := by decide +kernel
theorem dX9_isHalf_16 : decode cX9_isHalf 16 = .ok (.iconst 0, 1) := by decide +kernel
theorem dX9_isHalf_17 : decode cX9_isHalf 17 = .ok (.ireturn, 1) := by decide +kernel
theorem dX9_half_0 : decode cX9_half 0 = .ok (.aload_n 0, 1) := by decide +kernel
theorem dX9_half_1 : decode cX9_half 1 = .ok (.iconst 0, 1) := by decide +kernel
theorem dX9_half_2 : decode cX9_half 2 = .ok (.putfield 69, 3) := by decide +kernel
theorem dX9_half_5 : decode cX9_half 5 = .ok (.iload_n 1, 1) := by decide +kernel
theorem dX9_half_6 : decode cX9_half 6 = .ok (.ifCond .lt 36, 3) := by decide +kernel
theorem dX9_half_9 : decode cX9_half 9 = .ok (.iload_n 1, 1) := by decide +kernel
theorem dX9_half_10 : decode cX9_half 10 = .ok (.iconst 2, 1) := by decide +kernel
theorem dX9_half_11 : decode cX9_half 11 = .ok (.if_icmp .gt 31, 3) := by decide +kernel
theorem dX9_half_14 : decode cX9_half 14 = .ok (.iload_n 2, 1) := by decide +kernel
theorem dX9_half_15 : decode cX9_half 15 = .ok (.ifCond .lt 27, 3) := by decide +kernel
theorem dX9_half_18 : decode cX9_half 18 = .ok (.iload_n 2, 1) := by decide +kernel
theorem dX9_half_19 : decode cX9_half 19 = .ok (.iconst 1, 1) := by decide +kernel
theorem dX9_half_20 : decode cX9_half 20 = .ok (.if_icmp .gt 22, 3) := by decide +kernel
theorem dX9_half_23 : decode cX9_half 23 = .ok (.iload_n 3, 1) := by decide +kernel
theorem dX9_half_24 : decode cX9_half 24 = .ok (.ifCond .lt 18, 3) := by decide +kernel
theorem dX9_half_27 : decode cX9_half 27 = .ok (.iload_n 3, 1) := by decide +kernel
theorem dX9_half_28 : decode cX9_half 28 = .ok (.bipush 9, 2) := by decide +kernel
theorem dX9_half_30 : decode cX9_half 30 = .ok (.if_icmp .gt 12, 3) := by decide +kernel
theorem dX9_half_33 : decode cX9_half 33 = .ok (.aload_n 0, 1) := by decide +kernel
theorem dX9_half_34 : decode cX9_half 34 = .ok (.getfield 88, 3) := by decide +kernel
theorem dX9_half_37 : decode cX9_half 37 = .ok (.bipush 8, 2) := by decide +kernel
theorem dX9_half_39 : decode cX9_half 39 = .ok (.if_icmp .ne 5, 3) := by decide +kernel
theorem dX9_half_42 : decode cX9_half 42 = .ok (.iconst (-1), 1) := by decide +kernel
theorem dX9_half_43 : decode cX9_half 43 = .ok (.ireturn, 1) := by decide +kernel
theorem dX9_half_44 : decode cX9_half 44 = .ok (.aload_n 0, 1) := by decide +kernel
theorem dX9_half_45 : decode cX9_half 45 = .ok (.getfield 20, 3) := by decide +kernel
theorem dX9_half_48 : decode cX9_half 48 = .ok (.aload_n 0, 1) := by decide +kernel
theorem dX9_half_49 : decode cX9_half 49 = .ok (.getfield 88, 3) := by decide +kernel
theorem dX9_half_52 : decode cX9_half 52 = .ok (.iload_n 1, 1) := by decide +kernel
theorem dX9_half_53 : decode cX9_half 53 = .ok (.iastore, 1) := by decide +kernel
theorem dX9_half_54 : decode cX9_half 54 = .ok (.aload_n 0, 1) := by decide +kernel
theorem dX9_half_55 : decode cX9_half 55 = .ok (.getfield 23, 3) := by decide +kernel
theorem dX9_half_58 : decode cX9_half 58 = .ok (.aload_n 0, 1) := by decide +kernel
theorem dX9_half_59 : decode cX9_half 59 = .ok (.getfield 88, 3) := by decide +kernel
theorem dX9_half_62 : decode cX9_half 62 = .ok (.iload_n 2, 1) := by decide +kernel
theorem dX9_half_63 : decode cX9_half 63 = .ok (.iastore, 1) := by decide +kernel
theorem dX9_half_64 : decode cX9_half 64 = .ok (.aload_n 0, 1) := by decide +kernel
theorem dX9_half_65 : decode cX9_half 65 = .ok (.getfield 26, 3) := by decide +kernel
theorem dX9_half_68 : decode cX9_half 68 = .ok (.aload_n 0, 1) := by decide +kernel
theorem dX9_half_69 : decode cX9_half 69 = .ok (.getfield 88, 3) := by decide +kernel
theorem dX9_half_72 : decode cX9_half 72 = .ok (.iload_n 3, 1) := by decide +kernel
theorem dX9_half_73 : decode cX9_half 73 = .ok (.iastore, 1) := by decide +kernel
theorem dX9_half_74 : decode cX9_half 74 = .ok (.iconst 0, 1) := by decide +kernel
theorem dX9_half_75 : decode cX9_half 75 = .ok (.istore 4, 2) := by decide +kernel
theorem dX9_half_77 : decode cX9_half 77 = .ok (.iload 4, 2) := by decide +kernel
theorem dX9_half_79 : decode cX9_half 79 = .ok (.bipush 16, 2) := by decide +kernel
theorem dX9_half_81 : decode cX9_half 81 = .ok (.if_icmp .ge 26, 3) := by decide +kernel
theorem dX9_half_84 : decode cX9_half 84 = .ok (.aload_n 0, 1) := by decide +kernel
theorem dX9_half_85 : decode cX9_half 85 = .ok (.getfield 29, 3) := by decide +kernel
theorem dX9_half_88 : decode cX9_half 88 = .ok (.bipush 16, 2) := by decide +kernel
theorem dX9_half_90 : decode cX9_half 90 = .ok (.aload_n 0, 1) := by decide +kernel
theorem dX9_half_91 : decode cX9_half 91 = .ok (.getfield 88, 3) := by decide +kernel
theorem dX9_half_94 : decode cX9_half 94 = .ok (.imul, 1) := by decide +kernel
theorem dX9_half_95 : decode cX9_half 95 = .ok (.iload 4, 2) := by decide +kernel
theorem dX9_half_97 : decode cX9_half 97 = .ok (.iadd, 1) := by decide +kernel
theorem dX9_half_98 : decode cX9_half 98 = .ok (.ldc 91, 2) := by decide +kernel
theorem dX9_half_100 : decode cX9_half 100 = .ok (.iastore, 1) := by decide +kernel
theorem dX9_half_101 : decode cX9_half 101 = .ok (.iinc 4 1, 3) := by decide +kernel
theorem dX9_half_104 : decode cX9_half 104 = .ok (.goto (-27), 3) := by decide +kernel
theorem dX9_half_107 : decode cX9_half 107 = .ok (.aload_n 0, 1) := by decide +kernel
theorem dX9_half_108 : decode cX9_half 108 = .ok (.dup, 1) := by decide +kernel
theorem dX9_half_109 : decode cX9_half 109 = .ok (.getfield 88, 3) := by decide +kernel
theorem dX9_half_112 : decode cX9_half 112 = .ok (.iconst 1, 1) := by decide +kernel
theorem dX9_half_113 : decode cX9_half 113 = .ok (.iadd, 1) := by decide +kernel
theorem dX9_half_114 : decode cX9_half 114 = .ok (.putfield 88, 3) := by decide +kernel
theorem dX9_half_117 : decode cX9_half 117 = .ok (.aload_n 0, 1) := by decide +kernel
theorem dX9_half_118 : decode cX9_half 118 = .ok (.getfield 88, 3) := by decide +kernel
theorem dX9_half_121 : decode cX9_half 121 = .ok (.iconst 1, 1) := by decide +kernel
theorem dX9_half_122 : decode cX9_half 122 = .ok (.isub, 1) := by decide +kernel
theorem dX9_half_123 : decode cX9_half 123 = .ok (.ireturn, 1) := by decide +kernel
theorem dX9_spotAt_0 : decode cX9_spotAt 0 = .ok (.aload_n 0, 1) := by decide +kernel
theorem dX9_spotAt_1 : decode cX9_spotAt 1 = .ok (.iload_n 1, 1) := by decide +kernel
theorem dX9_spotAt_2 : decode cX9_spotAt 2 = .ok (.invokevirtual 92, 3) := by decide +kernel
theorem dX9_spotAt_5 : decode cX9_spotAt 5 = .ok (.ifCond .eq 36, 3) := by decide +kernel
theorem dX9_spotAt_8 : decode cX9_spotAt 8 = .ok (.iload_n 2, 1) := by decide +kernel
theorem dX9_spotAt_9 : decode cX9_spotAt 9 = .ok (.ifCond .lt 32, 3) := by decide +kernel
theorem dX9_spotAt_12 : decode cX9_spotAt 12 = .ok (.iload_n 2, 1) := by decide +kernel
theorem dX9_spotAt_13 : decode cX9_spotAt 13 = .ok (.iconst 1, 1) := by decide +kernel
theorem dX9_spotAt_14 : decode cX9_spotAt 14 = .ok (.if_icmp .gt 27, 3) := by decide +kernel
theorem dX9_spotAt_17 : decode cX9_spotAt 17 = .ok (.iload_n 3, 1) := by decide +kernel
theorem dX9_spotAt_18 : decode cX9_spotAt 18 = .ok (.ifCond .lt 23, 3) := by decide +kernel
theorem dX9_spotAt_21 : decode cX9_spotAt 21 = .ok (.iload_n 3, 1) := by decide +kernel
theorem dX9_spotAt_22 : decode cX9_spotAt 22 = .ok (.bipush 7, 2) := by decide +kernel
theorem dX9_spotAt_24 : decode cX9_spotAt 24 = .ok (.if_icmp .gt 17, 3) := by decide +kernel
theorem dX9_spotAt_27 : decode cX9_spotAt 27 = .ok (.bipush 16, 2) := by decide +kernel
theorem dX9_spotAt_29 : decode cX9_spotAt 29 = .ok (.iload_n 1, 1) := by decide +kernel
theorem dX9_spotAt_30 : decode cX9_spotAt 30 = .ok (.imul, 1) := by decide +kernel
theorem dX9_spotAt_31 : decode cX9_spotAt 31 = .ok (.bipush 8, 2) := by decide +kernel
theorem dX9_spotAt_33 : decode cX9_spotAt 33 = .ok (.iload_n 2, 1) := by decide +kernel
theorem dX9_spotAt_34 : decode cX9_spotAt 34 = .ok (.imul, 1) := by decide +kernel
theorem dX9_spotAt_35 : decode cX9_spotAt 35 = .ok (.iadd, 1) := by decide +kernel
theorem dX9_spotAt_36 : decode cX9_spotAt 36 = .ok (.iload_n 3, 1) := by decide +kernel
theorem dX9_spotAt_37 : decode cX9_spotAt 37 = .ok (.iadd, 1) := by decide +kernel
theorem dX9_spotAt_38 : decode cX9_spotAt 38 = .ok (.goto 4, 3) := by decide +kernel
theorem dX9_spotAt_41 : decode cX9_spotAt 41 = .ok (.iconst (-1), 1) := by decide +kernel
theorem dX9_spotAt_42 : decode cX9_spotAt 42 = .ok (.ireturn, 1) := by decide +kernel
theorem dX9_light_0 : decode cX9_light 0 = .ok (.aload_n 0, 1) := by decide +kernel
theorem dX9_light_1 : decode cX9_light 1 = .ok (.iconst 0, 1) := by decide +kernel
theorem dX9_light_2 : decode cX9_light 2 = .ok (.putfield 69, 3) := by decide +kernel
theorem dX9_light_5 : decode cX9_light 5 = .ok (.aload_n 0, 1) := by decide +kernel
theorem dX9_light_6 : decode cX9_light 6 = .ok (.iload_n 1, 1) := by decide +kernel
theorem dX9_light_7 : decode cX9_light 7 = .ok (.iload_n 2, 1) := by decide +kernel
theorem dX9_light_8 : decode cX9_light 8 = .ok (.iload_n 3, 1) := by decide +kernel
theorem dX9_light_9 : decode cX9_light 9 = .ok (.invokevirtual 96, 3) := by decide +kernel
theorem dX9_light_12 : decode cX9_light 12 = .ok (.istore 5, 2) := by decide +kernel
theorem dX9_light_14 : decode cX9_light 14 = .ok (.iload 5, 2) := by decide +kernel
theorem dX9_light_16 : decode cX9_light 16 = .ok (.iconst (-1), 1) := by decide +kernel
theorem dX9_light_17 : decode cX9_light 17 = .ok (.if_icmp .eq 16, 3) := by decide +kernel
theorem dX9_light_20 : decode cX9_light 20 = .ok (.iload 4, 2) := by decide +kernel
theorem dX9_light_22 : decode cX9_light 22 = .ok (.iconst 1, 1) := by decide +kernel
theorem dX9_light_23 : decode cX9_light 23 = .ok (.if_icmp .lt 10, 3) := by decide +kernel
theorem dX9_light_26 : decode cX9_light 26 = .ok (.iload 4, 2) := by decide +kernel
theorem dX9_light_28 : decode cX9_light 28 = .ok (.ldc 91, 2) := by decide +kernel
theorem dX9_light_30 : decode cX9_light 30 = .ok (.if_icmp .le 5, 3) := by decide +kernel
theorem dX9_light_33 : decode cX9_light 33 = .ok (.iconst (-1), 1) := by decide +kernel
theorem dX9_light_34 : decode cX9_light 34 = .ok (.ireturn, 1) := by decide +kernel
theorem dX9_light_35 : decode cX9_light 35 = .ok (.aload_n 0, 1) := by decide +kernel
theorem dX9_light_36 : decode cX9_light 36 = .ok (.getfield 29, 3) := by decide +kernel
theorem dX9_light_39 : decode cX9_light 39 = .ok (.iload 5, 2) := by decide +kernel
theorem dX9_light_41 : decode cX9_light 41 = .ok (.iaload, 1) := by decide +kernel
theorem dX9_light_42 : decode cX9_light 42 = .ok (.iload 4, 2) := by decide +kernel
theorem dX9_light_44 : decode cX9_light 44 = .ok (.iand, 1) := by decide +kernel
theorem dX9_light_45 : decode cX9_light 45 = .ok (.istore 6, 2) := by decide +kernel
theorem dX9_light_47 : decode cX9_light 47 = .ok (.iload 6, 2) := by decide +kernel
theorem dX9_light_49 : decode cX9_light 49 = .ok (.ifCond .ne 16, 3) := by decide +kernel
theorem dX9_light_52 : decode cX9_light 52 = .ok (.aload_n 0, 1) := by decide +kernel
theorem dX9_light_53 : decode cX9_light 53 = .ok (.dup, 1) := by decide +kernel
theorem dX9_light_54 : decode cX9_light 54 = .ok (.getfield 100, 3) := by decide +kernel
theorem dX9_light_57 : decode cX9_light 57 = .ok (.iconst 1, 1) := by decide +kernel
theorem dX9_light_58 : decode cX9_light 58 = .ok (.iadd, 1) := by decide +kernel
theorem dX9_light_59 : decode cX9_light 59 = .ok (.putfield 100, 3) := by decide +kernel
theorem dX9_light_62 : decode cX9_light 62 = .ok (.bipush (-2), 2) := by decide +kernel
theorem dX9_light_64 : decode cX9_light 64 = .ok (.ireturn, 1) := by decide +kernel
theorem dX9_light_65 : decode cX9_light 65 = .ok (.aload_n 0, 1) := by decide +kernel
theorem dX9_light_66 : decode cX9_light 66 = .ok (.getfield 29, 3) := by decide +kernel
theorem dX9_light_69 : decode cX9_light 69 = .ok (.iload 5, 2) := by decide +kernel
theorem dX9_light_71 : decode cX9_light 71 = .ok (.iload 6, 2) := by decide +kernel
theorem dX9_light_73 : decode cX9_light 73 = .ok (.iastore, 1) := by decide +kernel
theorem dX9_light_74 : decode cX9_light 74 = .ok (.iconst 0, 1) := by decide +kernel
theorem dX9_light_75 : decode cX9_light 75 = .ok (.istore 7, 2) := by decide +kernel
theorem dX9_light_77 : decode cX9_light 77 = .ok (.iconst 0, 1) := by decide +kernel
theorem dX9_light_78 : decode cX9_light 78 = .ok (.istore 8, 2) := by decide +kernel
theorem dX9_light_80 : decode cX9_light 80 = .ok (.iload 8, 2) := by decide +kernel
theorem dX9_light_82 : decode cX9_light 82 = .ok (.bipush 16, 2) := by decide +kernel
theorem dX9_light_84 : decode cX9_light 84 = .ok (.if_icmp .ge 21, 3) := by decide +kernel
theorem dX9_light_87 : decode cX9_light 87 = .ok (.iload 7, 2) := by decide +kernel
theorem dX9_light_89 : decode cX9_light 89 = .ok (.iload 6, 2) := by decide +kernel
theorem dX9_light_91 : decode cX9_light 91 = .ok (.iload 8, 2) := by decide +kernel
theorem dX9_light_93 : decode cX9_light 93 = .ok (.ishr, 1) := by decide +kernel
theorem dX9_light_94 : decode cX9_light 94 = .ok (.iconst 1, 1) := by decide +kernel
theorem dX9_light_95 : decode cX9_light 95 = .ok (.iand, 1) := by decide +kernel
theorem dX9_light_96 : decode cX9_light 96 = .ok (.iadd, 1) := by decide +kernel
theorem dX9_light_97 : decode cX9_light 97 = .ok (.istore 7, 2) := by decide +kernel
theorem dX9_light_99 : decode cX9_light 99 = .ok (.iinc 8 1, 3) := by decide +kernel
theorem dX9_light_102 : decode cX9_light 102 = .ok (.goto (-22), 3) := by decide +kernel
theorem dX9_light_105 : decode cX9_light 105 = .ok (.iload 7, 2) := by decide +kernel
theorem dX9_light_107 : decode cX9_light 107 = .ok (.ireturn, 1) := by decide +kernel
theorem dX9_list_0 : decode cX9_list 0 = .ok (.aload_n 0, 1) := by decide +kernel
theorem dX9_list_1 : decode cX9_list 1 = .ok (.iconst 0, 1) := by decide +kernel
theorem dX9_list_2 : decode cX9_list 2 = .ok (.putfield 69, 3) := by decide +kernel
theorem dX9_list_5 : decode cX9_list 5 = .ok (.aload_n 0, 1) := by decide +kernel
theorem dX9_list_6 : decode cX9_list 6 = .ok (.iload_n 1, 1) := by decide +kernel
theorem dX9_list_7 : decode cX9_list 7 = .ok (.iload_n 2, 1) := by decide +kernel
theorem dX9_list_8 : decode cX9_list 8 = .ok (.iload_n 3, 1) := by decide +kernel
theorem dX9_list_9 : decode cX9_list 9 = .ok (.invokevirtual 96, 3) := by decide +kernel
theorem dX9_list_12 : decode cX9_list 12 = .ok (.istore 4, 2) := by decide +kernel
theorem dX9_list_14 : decode cX9_list 14 = .ok (.iload 4, 2) := by decide +kernel
theorem dX9_list_16 : decode cX9_list 16 = .ok (.iconst (-1), 1) := by decide +kernel
theorem dX9_list_17 : decode cX9_list 17 = .ok (.if_icmp .ne 7, 3) := by decide +kernel
theorem dX9_list_20 : decode cX9_list 20 = .ok (.iconst (-1), 1) := by decide +kernel
theorem dX9_list_21 : decode cX9_list 21 = .ok (.goto 10, 3) := by decide +kernel
theorem dX9_list_24 : decode cX9_list 24 = .ok (.aload_n 0, 1) := by decide +kernel
theorem dX9_list_25 : decode cX9_list 25 = .ok (.getfield 29, 3) := by decide +kernel
theorem dX9_list_28 : decode cX9_list 28 = .ok (.iload 4, 2) := by decide +kernel
theorem dX9_list_30 : decode cX9_list 30 = .ok (.iaload, 1) := by decide +kernel
theorem dX9_list_31 : decode cX9_list 31 = .ok (.ireturn, 1) := by decide +kernel
theorem dX9_places_0 : decode cX9_places 0 = .ok (.aload_n 0, 1) := by decide +kernel
theorem dX9_places_1 : decode cX9_places 1 = .ok (.getfield 78, 3) := by decide +kernel
theorem dX9_places_4 : decode cX9_places 4 = .ok (.bipush 31, 2) := by decide +kernel
theorem dX9_places_6 : decode cX9_places 6 = .ok (.isub, 1) := by decide +kernel
theorem dX9_places_7 : decode cX9_places 7 = .ok (.ireturn, 1) := by decide +kernel
theorem dX9_letterAt_0 : decode cX9_letterAt 0 = .ok (.aload_n 0, 1) := by decide +kernel
theorem dX9_letterAt_1 : decode cX9_letterAt 1 = .ok (.getfield 13, 3) := by decide +kernel
theorem dX9_letterAt_4 : decode cX9_letterAt 4 = .ok (.iload_n 2, 1) := by decide +kernel
theorem dX9_letterAt_5 : decode cX9_letterAt 5 = .ok (.bipush 16, 2) := by decide +kernel
theorem dX9_letterAt_7 : decode cX9_letterAt 7 = .ok (.iload_n 3, 1) := by decide +kernel
theorem dX9_letterAt_8 : decode cX9_letterAt 8 = .ok (.bipush 8, 2) := by decide +kernel
theorem dX9_letterAt_10 : decode cX9_letterAt 10 = .ok (.idiv, 1) := by decide +kernel
theorem dX9_letterAt_11 : decode cX9_letterAt 11 = .ok (.imul, 1) := by decide +kernel
theorem dX9_letterAt_12 : decode cX9_letterAt 12 = .ok (.iadd, 1) := by decide +kernel
theorem dX9_letterAt_13 : decode cX9_letterAt 13 = .ok (.bipush 8, 2) := by decide +kernel
theorem dX9_letterAt_15 : decode cX9_letterAt 15 = .ok (.iload_n 1, 1) := by decide +kernel
theorem dX9_letterAt_16 : decode cX9_letterAt 16 = .ok (.imul, 1) := by decide +kernel
theorem dX9_letterAt_17 : decode cX9_letterAt 17 = .ok (.iadd, 1) := by decide +kernel
theorem dX9_letterAt_18 : decode cX9_letterAt 18 = .ok (.iload_n 3, 1) := by decide +kernel
theorem dX9_letterAt_19 : decode cX9_letterAt 19 = .ok (.bipush 8, 2) := by decide +kernel
theorem dX9_letterAt_21 : decode cX9_letterAt 21 = .ok (.irem, 1) := by decide +kernel
theorem dX9_letterAt_22 : decode cX9_letterAt 22 = .ok (.iadd, 1) := by decide +kernel
theorem dX9_letterAt_23 : decode cX9_letterAt 23 = .ok (.iaload, 1) := by decide +kernel
theorem dX9_letterAt_24 : decode cX9_letterAt 24 = .ok (.ireturn, 1) := by decide +kernel
theorem dX9_quarrelsOf_0 : decode cX9_quarrelsOf 0 = .ok (.iconst 0, 1) := by decide +kernel
theorem dX9_quarrelsOf_1 : decode cX9_quarrelsOf 1 = .ok (.istore 4, 2) := by decide +kernel
theorem dX9_quarrelsOf_3 : decode cX9_quarrelsOf 3 = .ok (.iconst 0, 1) := by decide +kernel
theorem dX9_quarrelsOf_4 : decode cX9_quarrelsOf 4 = .ok (.istore 5, 2) := by decide +kernel
theorem dX9_quarrelsOf_6 : decode cX9_quarrelsOf 6 = .ok (.iload 5, 2) := by decide +kernel
theorem dX9_quarrelsOf_8 : decode cX9_quarrelsOf 8 = .ok (.bipush 16, 2) := by decide +kernel
theorem dX9_quarrelsOf_10 : decode cX9_quarrelsOf 10 = .ok (.if_icmp .ge 46, 3) := by decide +kernel
theorem dX9_quarrelsOf_13 : decode cX9_quarrelsOf 13 = .ok (.iload 4, 2) := by decide +kernel
theorem dX9_quarrelsOf_15 : decode cX9_quarrelsOf 15 = .ok (.aload_n 0, 1) := by decide +kernel
theorem dX9_quarrelsOf_16 : decode cX9_quarrelsOf 16 = .ok (.getfield 29, 3) := by decide +kernel
theorem dX9_quarrelsOf_19 : decode cX9_quarrelsOf 19 = .ok (.bipush 16, 2) := by decide +kernel
theorem dX9_quarrelsOf_21 : decode cX9_quarrelsOf 21 = .ok (.iload_n 1, 1) := by decide +kernel
theorem dX9_quarrelsOf_22 : decode cX9_quarrelsOf 22 = .ok (.imul, 1) := by decide +kernel
theorem dX9_quarrelsOf_23 : decode cX9_quarrelsOf 23 = .ok (.iload 5, 2) := by decide +kernel
theorem dX9_quarrelsOf_25 : decode cX9_quarrelsOf 25 = .ok (.iadd, 1) := by decide +kernel
theorem dX9_quarrelsOf_26 : decode cX9_quarrelsOf 26 = .ok (.iaload, 1) := by decide +kernel
theorem dX9_quarrelsOf_27 : decode cX9_quarrelsOf 27 = .ok (.aload_n 0, 1) := by decide +kernel
theorem dX9_quarrelsOf_28 : decode cX9_quarrelsOf 28 = .ok (.iload_n 2, 1) := by decide +kernel
theorem dX9_quarrelsOf_29 : decode cX9_quarrelsOf 29 = .ok (.iload_n 3, 1) := by decide +kernel
theorem dX9_quarrelsOf_30 : decode cX9_quarrelsOf 30 = .ok (.iload 5, 2) := by decide +kernel
theorem dX9_quarrelsOf_32 : decode cX9_quarrelsOf 32 = .ok (.invokevirtual 103, 3) := by decide +kernel
theorem dX9_quarrelsOf_35 : decode cX9_quarrelsOf 35 = .ok (.ishr, 1) := by decide +kernel
theorem dX9_quarrelsOf_36 : decode cX9_quarrelsOf 36 = .ok (.iconst 1, 1) := by decide +kernel
theorem dX9_quarrelsOf_37 : decode cX9_quarrelsOf 37 = .ok (.iand, 1) := by decide +kernel
theorem dX9_quarrelsOf_38 : decode cX9_quarrelsOf 38 = .ok (.iconst 1, 1) := by decide +kernel
theorem dX9_quarrelsOf_39 : decode cX9_quarrelsOf 39 = .ok (.if_icmp .ne 7, 3) := by decide +kernel
theorem dX9_quarrelsOf_42 : decode cX9_quarrelsOf 42 = .ok (.iconst 0, 1) := by decide +kernel
theorem dX9_quarrelsOf_43 : decode cX9_quarrelsOf 43 = .ok (.goto 4, 3) := by decide +kernel
theorem dX9_quarrelsOf_46 : decode cX9_quarrelsOf 46 = .ok (.iconst 1, 1) := by decide +kernel
theorem dX9_quarrelsOf_47 : decode cX9_quarrelsOf 47 = .ok (.iadd, 1) := by decide +kernel
theorem dX9_quarrelsOf_48 : decode cX9_quarrelsOf 48 = .ok (.istore 4, 2) := by decide +kernel
theorem dX9_quarrelsOf_50 : decode cX9_quarrelsOf 50 = .ok (.iinc 5 1, 3) := by decide +kernel
theorem dX9_quarrelsOf_53 : decode cX9_quarrelsOf 53 = .ok (.goto (-47), 3) := by decide +kernel
theorem dX9_quarrelsOf_56 : decode cX9_quarrelsOf 56 = .ok (.iload 4, 2) := by decide +kernel
theorem dX9_quarrelsOf_58 : decode cX9_quarrelsOf 58 = .ok (.ireturn, 1) := by decide +kernel
theorem dX9_quarrels_0 : decode cX9_quarrels 0 = .ok (.aload_n 0, 1) := by decide +kernel
theorem dX9_quarrels_1 : decode cX9_quarrels 1 = .ok (.iconst 0, 1) := by decide +kernel
theorem dX9_quarrels_2 : decode cX9_quarrels 2 = .ok (.putfield 69, 3) := by decide +kernel
theorem dX9_quarrels_5 : decode cX9_quarrels 5 = .ok (.aload_n 0, 1) := by decide +kernel
theorem dX9_quarrels_6 : decode cX9_quarrels 6 = .ok (.iload_n 1, 1) := by decide +kernel
theorem dX9_quarrels_7 : decode cX9_quarrels 7 = .ok (.invokevirtual 92, 3) := by decide +kernel
theorem dX9_quarrels_10 : decode cX9_quarrels 10 = .ok (.ifCond .eq 24, 3) := by decide +kernel
theorem dX9_quarrels_13 : decode cX9_quarrels 13 = .ok (.iload_n 2, 1) := by decide +kernel
theorem dX9_quarrels_14 : decode cX9_quarrels 14 = .ok (.ifCond .lt 20, 3) := by decide +kernel
theorem dX9_quarrels_17 : decode cX9_quarrels 17 = .ok (.iload_n 2, 1) := by decide +kernel
theorem dX9_quarrels_18 : decode cX9_quarrels 18 = .ok (.iconst 1, 1) := by decide +kernel
theorem dX9_quarrels_19 : decode cX9_quarrels 19 = .ok (.if_icmp .gt 15, 3) := by decide +kernel
theorem dX9_quarrels_22 : decode cX9_quarrels 22 = .ok (.iload_n 3, 1) := by decide +kernel
theorem dX9_quarrels_23 : decode cX9_quarrels 23 = .ok (.ifCond .lt 11, 3) := by decide +kernel
theorem dX9_quarrels_26 : decode cX9_quarrels 26 = .ok (.iload_n 3, 1) := by decide +kernel
theorem dX9_quarrels_27 : decode cX9_quarrels 27 = .ok (.aload_n 0, 1) := by decide +kernel
theorem dX9_quarrels_28 : decode cX9_quarrels 28 = .ok (.invokevirtual 106, 3) := by decide +kernel
theorem dX9_quarrels_31 : decode cX9_quarrels 31 = .ok (.if_icmp .lt 7, 3) := by decide +kernel
theorem dX9_quarrels_34 : decode cX9_quarrels 34 = .ok (.iconst (-1), 1) := by decide +kernel
theorem dX9_quarrels_35 : decode cX9_quarrels 35 = .ok (.goto 10, 3) := by decide +kernel
theorem dX9_quarrels_38 : decode cX9_quarrels 38 = .ok (.aload_n 0, 1) := by decide +kernel
theorem dX9_quarrels_39 : decode cX9_quarrels 39 = .ok (.iload_n 1, 1) := by decide +kernel
theorem dX9_quarrels_40 : decode cX9_quarrels 40 = .ok (.iload_n 2, 1) := by decide +kernel
theorem dX9_quarrels_41 : decode cX9_quarrels 41 = .ok (.iload_n 3, 1) := by decide +kernel
theorem dX9_quarrels_42 : decode cX9_quarrels 42 = .ok (.invokevirtual 110, 3) := by decide +kernel
theorem dX9_quarrels_45 : decode cX9_quarrels 45 = .ok (.ireturn, 1) := by decide +kernel
theorem dX9_canBe_0 : decode cX9_canBe 0 = .ok (.aload_n 0, 1) := by decide +kernel
theorem dX9_canBe_1 : decode cX9_canBe 1 = .ok (.getfield 20, 3) := by decide +kernel
theorem dX9_canBe_4 : decode cX9_canBe 4 = .ok (.iload_n 1, 1) := by decide +kernel
theorem dX9_canBe_5 : decode cX9_canBe 5 = .ok (.iaload, 1) := by decide +kernel
theorem dX9_canBe_6 : decode cX9_canBe 6 = .ok (.iconst 2, 1) := by decide +kernel
theorem dX9_canBe_7 : decode cX9_canBe 7 = .ok (.if_icmp .eq 13, 3) := by decide +kernel
theorem dX9_canBe_10 : decode cX9_canBe 10 = .ok (.aload_n 0, 1) := by decide +kernel
theorem dX9_canBe_11 : decode cX9_canBe 11 = .ok (.getfield 20, 3) := by decide +kernel
theorem dX9_canBe_14 : decode cX9_canBe 14 = .ok (.iload_n 1, 1) := by decide +kernel
theorem dX9_canBe_15 : decode cX9_canBe 15 = .ok (.iaload, 1) := by decide +kernel
theorem dX9_canBe_16 : decode cX9_canBe 16 = .ok (.iload_n 2, 1) := by decide +kernel
theorem dX9_canBe_17 : decode cX9_canBe 17 = .ok (.if_icmp .ne 7, 3) := by decide +kernel
theorem dX9_canBe_20 : decode cX9_canBe 20 = .ok (.iconst 1, 1) := by decide +kernel
theorem dX9_canBe_21 : decode cX9_canBe 21 = .ok (.goto 4, 3) := by decide +kernel
theorem dX9_canBe_24 : decode cX9_canBe 24 = .ok (.iconst 0, 1) := by decide +kernel
theorem dX9_canBe_25 : decode cX9_canBe 25 = .ok (.ireturn, 1) := by decide +kernel
theorem dX9_both_0 : decode cX9_both 0 = .ok (.iload_n 1, 1) := by decide +kernel
theorem dX9_both_1 : decode cX9_both 1 = .ok (.iconst (-1), 1) := by decide +kernel
theorem dX9_both_2 : decode cX9_both 2 = .ok (.if_icmp .ne 7, 3) := by decide +kernel
theorem dX9_both_5 : decode cX9_both 5 = .ok (.iconst 0, 1) := by decide +kernel
theorem dX9_both_6 : decode cX9_both 6 = .ok (.goto 10, 3) := by decide +kernel
theorem dX9_both_9 : decode cX9_both 9 = .ok (.aload_n 0, 1) := by decide +kernel
theorem dX9_both_10 : decode cX9_both 10 = .ok (.iload_n 1, 1) := by decide +kernel
theorem dX9_both_11 : decode cX9_both 11 = .ok (.iconst 0, 1) := by decide +kernel
theorem dX9_both_12 : decode cX9_both 12 = .ok (.iload_n 3, 1) := by decide +kernel
theorem dX9_both_13 : decode cX9_both 13 = .ok (.invokevirtual 110, 3) := by decide +kernel
theorem dX9_both_16 : decode cX9_both 16 = .ok (.iload_n 2, 1) := by decide +kernel
theorem dX9_both_17 : decode cX9_both 17 = .ok (.iconst (-1), 1) := by decide +kernel
theorem dX9_both_18 : decode cX9_both 18 = .ok (.if_icmp .ne 7, 3) := by decide +kernel
theorem dX9_both_21 : decode cX9_both 21 = .ok (.iconst 0, 1) := by decide +kernel
theorem dX9_both_22 : decode cX9_both 22 = .ok (.goto 10, 3) := by decide +kernel
theorem dX9_both_25 : decode cX9_both 25 = .ok (.aload_n 0, 1) := by decide +kernel
theorem dX9_both_26 : decode cX9_both 26 = .ok (.iload_n 2, 1) := by decide +kernel
theorem dX9_both_27 : decode cX9_both 27 = .ok (.iconst 1, 1) := by decide +kernel
theorem dX9_both_28 : decode cX9_both 28 = .ok (.iload_n 3, 1) := by decide +kernel
theorem dX9_both_29 : decode cX9_both 29 = .ok (.invokevirtual 110, 3) := by decide +kernel
theorem dX9_both_32 : decode cX9_both 32 = .ok (.iadd, 1) := by decide +kernel
theorem dX9_both_33 : decode cX9_both 33 = .ok (.ireturn, 1) := by decide +kernel
theorem dX9_tries_0 : decode cX9_tries 0 = .ok (.iload_n 1, 1) := by decide +kernel
theorem dX9_tries_1 : decode cX9_tries 1 = .ok (.iconst (-1), 1) := by decide +kernel
theorem dX9_tries_2 : decode cX9_tries 2 = .ok (.if_icmp .eq 12, 3) := by decide +kernel
theorem dX9_tries_5 : decode cX9_tries 5 = .ok (.aload_n 0, 1) := by decide +kernel
theorem dX9_tries_6 : decode cX9_tries 6 = .ok (.iload_n 1, 1) := by decide +kernel
theorem dX9_tries_7 : decode cX9_tries 7 = .ok (.iconst 0, 1) := by decide +kernel
theorem dX9_tries_8 : decode cX9_tries 8 = .ok (.invokevirtual 113, 3) := by decide +kernel
theorem dX9_tries_11 : decode cX9_tries 11 = .ok (.ifCond .eq 17, 3) := by decide +kernel
theorem dX9_tries_14 : decode cX9_tries 14 = .ok (.iload_n 2, 1) := by decide +kernel
theorem dX9_tries_15 : decode cX9_tries 15 = .ok (.iconst (-1), 1) := by decide +kernel
theorem dX9_tries_16 : decode cX9_tries 16 = .ok (.if_icmp .eq 13, 3) := by decide +kernel
theorem dX9_tries_19 : decode cX9_tries 19 = .ok (.aload_n 0, 1) := by decide +kernel
theorem dX9_tries_20 : decode cX9_tries 20 = .ok (.iload_n 2, 1) := by decide +kernel
theorem dX9_tries_21 : decode cX9_tries 21 = .ok (.iconst 1, 1) := by decide +kernel
theorem dX9_tries_22 : decode cX9_tries 22 = .ok (.invokevirtual 113, 3) := by decide +kernel
theorem dX9_tries_25 : decode cX9_tries 25 = .ok (.ifCond .ne 4, 3) := by decide +kernel
theorem dX9_tries_28 : decode cX9_tries 28 = .ok (.return_, 1) := by decide +kernel
theorem dX9_tries_29 : decode cX9_tries 29 = .ok (.iconst 0, 1) := by decide +kernel
theorem dX9_tries_30 : decode cX9_tries 30 = .ok (.istore_n 3, 1) := by decide +kernel
theorem dX9_tries_31 : decode cX9_tries 31 = .ok (.iload_n 3, 1) := by decide +kernel
theorem dX9_tries_32 : decode cX9_tries 32 = .ok (.aload_n 0, 1) := by decide +kernel
theorem dX9_tries_33 : decode cX9_tries 33 = .ok (.invokevirtual 106, 3) := by decide +kernel
theorem dX9_tries_36 : decode cX9_tries 36 = .ok (.if_icmp .ge 59, 3) := by decide +kernel
theorem dX9_tries_39 : decode cX9_tries 39 = .ok (.aload_n 0, 1) := by decide +kernel
theorem dX9_tries_40 : decode cX9_tries 40 = .ok (.iload_n 1, 1) := by decide +kernel
theorem dX9_tries_41 : decode cX9_tries 41 = .ok (.iload_n 2, 1) := by decide +kernel
theorem dX9_tries_42 : decode cX9_tries 42 = .ok (.iload_n 3, 1) := by decide +kernel
theorem dX9_tries_43 : decode cX9_tries 43 = .ok (.invokevirtual 117, 3) := by decide +kernel
theorem dX9_tries_46 : decode cX9_tries 46 = .ok (.istore 4, 2) := by decide +kernel
theorem dX9_tries_48 : decode cX9_tries 48 = .ok (.aload_n 0, 1) := by decide +kernel
theorem dX9_tries_49 : decode cX9_tries 49 = .ok (.getfield 120, 3) := by decide +kernel
theorem dX9_tries_52 : decode cX9_tries 52 = .ok (.iconst (-1), 1) := by decide +kernel
theorem dX9_tries_53 : decode cX9_tries 53 = .ok (.if_icmp .eq 15, 3) := by decide +kernel
theorem dX9_tries_56 : decode cX9_tries 56 = .ok (.iload 4, 2) := by decide +kernel
theorem dX9_tries_58 : decode cX9_tries 58 = .ok (.aload_n 0, 1) := by decide +kernel
theorem dX9_tries_59 : decode cX9_tries 59 = .ok (.getfield 120, 3) := by decide +kernel
theorem dX9_tries_62 : decode cX9_tries 62 = .ok (.if_icmp .lt 6, 3) := by decide +kernel
theorem dX9_tries_65 : decode cX9_tries 65 = .ok (.goto 24, 3) := by decide +kernel
theorem dX9_tries_68 : decode cX9_tries 68 = .ok (.aload_n 0, 1) := by decide +kernel
theorem dX9_tries_69 : decode cX9_tries 69 = .ok (.iload 4, 2) := by decide +kernel
theorem dX9_tries_71 : decode cX9_tries 71 = .ok (.putfield 120, 3) := by decide +kernel
theorem dX9_tries_74 : decode cX9_tries 74 = .ok (.aload_n 0, 1) := by decide +kernel
theorem dX9_tries_75 : decode cX9_tries 75 = .ok (.iload_n 3, 1) := by decide +kernel
theorem dX9_tries_76 : decode cX9_tries 76 = .ok (.putfield 123, 3) := by decide +kernel
theorem dX9_tries_79 : decode cX9_tries 79 = .ok (.aload_n 0, 1) := by decide +kernel
theorem dX9_tries_80 : decode cX9_tries 80 = .ok (.iload_n 1, 1) := by decide +kernel
theorem dX9_tries_81 : decode cX9_tries 81 = .ok (.putfield 126, 3) := by decide +kernel
theorem dX9_tries_84 : decode cX9_tries 84 = .ok (.aload_n 0, 1) := by decide +kernel
theorem dX9_tries_85 : decode cX9_tries 85 = .ok (.iload_n 2, 1) := by decide +kernel
theorem dX9_tries_86 : decode cX9_tries 86 = .ok (.putfield 129, 3) := by decide +kernel
theorem dX9_tries_89 : decode cX9_tries 89 = .ok (.iinc 3 1, 3) := by decide +kernel
theorem dX9_tries_92 : decode cX9_tries 92 = .ok (.goto (-61), 3) := by decide +kernel
theorem dX9_tries_95 : decode cX9_tries 95 = .ok (.return_, 1) := by decide +kernel
theorem dX9_bests_0 : decode cX9_bests 0 = .ok (.iload_n 1, 1) := by decide +kernel
theorem dX9_bests_1 : decode cX9_bests 1 = .ok (.iload_n 2, 1) := by decide +kernel
theorem dX9_bests_2 : decode cX9_bests 2 = .ok (.invokestatic 132, 3) := by decide +kernel
theorem dX9_bests_5 : decode cX9_bests 5 = .ok (.istore_n 3, 1) := by decide +kernel
theorem dX9_bests_6 : decode cX9_bests 6 = .ok (.iload_n 1, 1) := by decide +kernel
theorem dX9_bests_7 : decode cX9_bests 7 = .ok (.iload_n 2, 1) := by decide +kernel
theorem dX9_bests_8 : decode cX9_bests 8 = .ok (.invokestatic 138, 3) := by decide +kernel
theorem dX9_bests_11 : decode cX9_bests 11 = .ok (.istore 4, 2) := by decide +kernel
theorem dX9_bests_13 : decode cX9_bests 13 = .ok (.aload_n 0, 1) := by decide +kernel
theorem dX9_bests_14 : decode cX9_bests 14 = .ok (.iconst (-1), 1) := by decide +kernel
theorem dX9_bests_15 : decode cX9_bests 15 = .ok (.putfield 120, 3) := by decide +kernel
theorem dX9_bests_18 : decode cX9_bests 18 = .ok (.iload_n 3, 1) := by decide +kernel
theorem dX9_bests_19 : decode cX9_bests 19 = .ok (.iload 4, 2) := by decide +kernel
theorem dX9_bests_21 : decode cX9_bests 21 = .ok (.if_icmp .ne 18, 3) := by decide +kernel
theorem dX9_bests_24 : decode cX9_bests 24 = .ok (.aload_n 0, 1) := by decide +kernel
theorem dX9_bests_25 : decode cX9_bests 25 = .ok (.iload_n 3, 1) := by decide +kernel
theorem dX9_bests_26 : decode cX9_bests 26 = .ok (.iconst (-1), 1) := by decide +kernel
theorem dX9_bests_27 : decode cX9_bests 27 = .ok (.invokevirtual 141, 3) := by decide +kernel
theorem dX9_bests_30 : decode cX9_bests 30 = .ok (.aload_n 0, 1) := by decide +kernel
theorem dX9_bests_31 : decode cX9_bests 31 = .ok (.iconst (-1), 1) := by decide +kernel
theorem dX9_bests_32 : decode cX9_bests 32 = .ok (.iload_n 3, 1) := by decide +kernel
theorem dX9_bests_33 : decode cX9_bests 33 = .ok (.invokevirtual 141, 3) := by decide +kernel
theorem dX9_bests_36 : decode cX9_bests 36 = .ok (.goto 49, 3) := by decide +kernel
theorem dX9_bests_39 : decode cX9_bests 39 = .ok (.aload_n 0, 1) := by decide +kernel
theorem dX9_bests_40 : decode cX9_bests 40 = .ok (.getfield 26, 3) := by decide +kernel
theorem dX9_bests_43 : decode cX9_bests 43 = .ok (.iload_n 3, 1) := by decide +kernel
theorem dX9_bests_44 : decode cX9_bests 44 = .ok (.iaload, 1) := by decide +kernel
theorem dX9_bests_45 : decode cX9_bests 45 = .ok (.aload_n 0, 1) := by decide +kernel
theorem dX9_bests_46 : decode cX9_bests 46 = .ok (.getfield 26, 3) := by decide +kernel
theorem dX9_bests_49 : decode cX9_bests 49 = .ok (.iload 4, 2) := by decide +kernel
theorem dX9_bests_51 : decode cX9_bests 51 = .ok (.iaload, 1) := by decide +kernel
theorem dX9_bests_52 : decode cX9_bests 52 = .ok (.if_icmp .ne 33, 3) := by decide +kernel
theorem dX9_bests_55 : decode cX9_bests 55 = .ok (.aload_n 0, 1) := by decide +kernel
theorem dX9_bests_56 : decode cX9_bests 56 = .ok (.getfield 23, 3) := by decide +kernel
theorem dX9_bests_59 : decode cX9_bests 59 = .ok (.iload_n 3, 1) := by decide +kernel
theorem dX9_bests_60 : decode cX9_bests 60 = .ok (.iaload, 1) := by decide +kernel
theorem dX9_bests_61 : decode cX9_bests 61 = .ok (.aload_n 0, 1) := by decide +kernel
theorem dX9_bests_62 : decode cX9_bests 62 = .ok (.getfield 23, 3) := by decide +kernel
theorem dX9_bests_65 : decode cX9_bests 65 = .ok (.iload 4, 2) := by decide +kernel
theorem dX9_bests_67 : decode cX9_bests 67 = .ok (.iaload, 1) := by decide +kernel
theorem dX9_bests_68 : decode cX9_bests 68 = .ok (.if_icmp .ne 17, 3) := by decide +kernel
theorem dX9_bests_71 : decode cX9_bests 71 = .ok (.aload_n 0, 1) := by decide +kernel
theorem dX9_bests_72 : decode cX9_bests 72 = .ok (.iload_n 3, 1) := by decide +kernel
theorem dX9_bests_73 : decode cX9_bests 73 = .ok (.iload 4, 2) := by decide +kernel
theorem dX9_bests_75 : decode cX9_bests 75 = .ok (.invokevirtual 141, 3) := by decide +kernel
theorem dX9_bests_78 : decode cX9_bests 78 = .ok (.aload_n 0, 1) := by decide +kernel
theorem dX9_bests_79 : decode cX9_bests 79 = .ok (.iload 4, 2) := by decide +kernel
theorem dX9_bests_81 : decode cX9_bests 81 = .ok (.iload_n 3, 1) := by decide +kernel
theorem dX9_bests_82 : decode cX9_bests 82 = .ok (.invokevirtual 141, 3) := by decide +kernel
theorem dX9_bests_85 : decode cX9_bests 85 = .ok (.aload_n 0, 1) := by decide +kernel
theorem dX9_bests_86 : decode cX9_bests 86 = .ok (.getfield 120, 3) := by decide +kernel
theorem dX9_bests_89 : decode cX9_bests 89 = .ok (.iconst (-1), 1) := by decide +kernel
theorem dX9_bests_90 : decode cX9_bests 90 = .ok (.if_icmp .eq 7, 3) := by decide +kernel
theorem dX9_bests_93 : decode cX9_bests 93 = .ok (.iconst 1, 1) := by decide +kernel
theorem dX9_bests_94 : decode cX9_bests 94 = .ok (.goto 4, 3) := by decide +kernel
theorem dX9_bests_97 : decode cX9_bests 97 = .ok (.iconst 0, 1) := by decide +kernel
theorem dX9_bests_98 : decode cX9_bests 98 = .ok (.ireturn, 1) := by decide +kernel
theorem dX9_best_0 : decode cX9_best 0 = .ok (.aload_n 0, 1) := by decide +kernel
theorem dX9_best_1 : decode cX9_best 1 = .ok (.iconst 0, 1) := by decide +kernel
theorem dX9_best_2 : decode cX9_best 2 = .ok (.putfield 69, 3) := by decide +kernel
theorem dX9_best_5 : decode cX9_best 5 = .ok (.aload_n 0, 1) := by decide +kernel
theorem dX9_best_6 : decode cX9_best 6 = .ok (.iload_n 1, 1) := by decide +kernel
theorem dX9_best_7 : decode cX9_best 7 = .ok (.invokevirtual 92, 3) := by decide +kernel
theorem dX9_best_10 : decode cX9_best 10 = .ok (.ifCond .eq 20, 3) := by decide +kernel
theorem dX9_best_13 : decode cX9_best 13 = .ok (.aload_n 0, 1) := by decide +kernel
theorem dX9_best_14 : decode cX9_best 14 = .ok (.iload_n 2, 1) := by decide +kernel
theorem dX9_best_15 : decode cX9_best 15 = .ok (.invokevirtual 92, 3) := by decide +kernel
theorem dX9_best_18 : decode cX9_best 18 = .ok (.ifCond .eq 12, 3) := by decide +kernel
theorem dX9_best_21 : decode cX9_best 21 = .ok (.aload_n 0, 1) := by decide +kernel
theorem dX9_best_22 : decode cX9_best 22 = .ok (.iload_n 1, 1) := by decide +kernel
theorem dX9_best_23 : decode cX9_best 23 = .ok (.iload_n 2, 1) := by decide +kernel
theorem dX9_best_24 : decode cX9_best 24 = .ok (.invokevirtual 145, 3) := by decide +kernel
theorem dX9_best_27 : decode cX9_best 27 = .ok (.ifCond .ne 5, 3) := by decide +kernel
theorem dX9_best_30 : decode cX9_best 30 = .ok (.iconst (-1), 1) := by decide +kernel
theorem dX9_best_31 : decode cX9_best 31 = .ok (.ireturn, 1) := by decide +kernel
theorem dX9_best_32 : decode cX9_best 32 = .ok (.iload_n 3, 1) := by decide +kernel
theorem dX9_best_33 : decode cX9_best 33 = .ok (.ifCond .ne 10, 3) := by decide +kernel
theorem dX9_best_36 : decode cX9_best 36 = .ok (.aload_n 0, 1) := by decide +kernel
theorem dX9_best_37 : decode cX9_best 37 = .ok (.getfield 120, 3) := by decide +kernel
theorem dX9_best_40 : decode cX9_best 40 = .ok (.goto 28, 3) := by decide +kernel
theorem dX9_best_43 : decode cX9_best 43 = .ok (.iload_n 3, 1) := by decide +kernel
theorem dX9_best_44 : decode cX9_best 44 = .ok (.iconst 1, 1) := by decide +kernel
theorem dX9_best_45 : decode cX9_best 45 = .ok (.if_icmp .ne 10, 3) := by decide +kernel
theorem dX9_best_48 : decode cX9_best 48 = .ok (.aload_n 0, 1) := by decide +kernel
theorem dX9_best_49 : decode cX9_best 49 = .ok (.getfield 123, 3) := by decide +kernel
theorem dX9_best_52 : decode cX9_best 52 = .ok (.goto 16, 3) := by decide +kernel
theorem dX9_best_55 : decode cX9_best 55 = .ok (.iload_n 3, 1) := by decide +kernel
theorem dX9_best_56 : decode cX9_best 56 = .ok (.iconst 2, 1) := by decide +kernel
theorem dX9_best_57 : decode cX9_best 57 = .ok (.if_icmp .ne 10, 3) := by decide +kernel
theorem dX9_best_60 : decode cX9_best 60 = .ok (.aload_n 0, 1) := by decide +kernel
theorem dX9_best_61 : decode cX9_best 61 = .ok (.getfield 126, 3) := by decide +kernel
theorem dX9_best_64 : decode cX9_best 64 = .ok (.goto 4, 3) := by decide +kernel
theorem dX9_best_67 : decode cX9_best 67 = .ok (.iconst (-1), 1) := by decide +kernel
theorem dX9_best_68 : decode cX9_best 68 = .ok (.ireturn, 1) := by decide +kernel
theorem dX9_price_0 : decode cX9_price 0 = .ok (.aload_n 0, 1) := by decide +kernel
theorem dX9_price_1 : decode cX9_price 1 = .ok (.iconst 0, 1) := by decide +kernel
theorem dX9_price_2 : decode cX9_price 2 = .ok (.putfield 69, 3) := by decide +kernel
theorem dX9_price_5 : decode cX9_price 5 = .ok (.iload_n 1, 1) := by decide +kernel
theorem dX9_price_6 : decode cX9_price 6 = .ok (.ifCond .lt 9, 3) := by decide +kernel
theorem dX9_price_9 : decode cX9_price 9 = .ok (.iload_n 1, 1) := by decide +kernel
theorem dX9_price_10 : decode cX9_price 10 = .ok (.bipush 99, 2) := by decide +kernel
theorem dX9_price_12 : decode cX9_price 12 = .ok (.if_icmp .le 5, 3) := by decide +kernel
theorem dX9_price_15 : decode cX9_price 15 = .ok (.iconst 0, 1) := by decide +kernel
theorem dX9_price_16 : decode cX9_price 16 = .ok (.ireturn, 1) := by decide +kernel
theorem dX9_price_17 : decode cX9_price 17 = .ok (.aload_n 0, 1) := by decide +kernel
theorem dX9_price_18 : decode cX9_price 18 = .ok (.iload_n 1, 1) := by decide +kernel
theorem dX9_price_19 : decode cX9_price 19 = .ok (.putfield 66, 3) := by decide +kernel
theorem dX9_price_22 : decode cX9_price 22 = .ok (.iconst 1, 1) := by decide +kernel
theorem dX9_price_23 : decode cX9_price 23 = .ok (.ireturn, 1) := by decide +kernel
theorem dX9_first_0 : decode cX9_first 0 = .ok (.iconst 0, 1) := by decide +kernel
theorem dX9_first_1 : decode cX9_first 1 = .ok (.istore_n 1, 1) := by decide +kernel
theorem dX9_first_2 : decode cX9_first 2 = .ok (.iload_n 0, 1) := by decide +kernel
theorem dX9_first_3 : decode cX9_first 3 = .ok (.iload_n 1, 1) := by decide +kernel
theorem dX9_first_4 : decode cX9_first 4 = .ok (.ishr, 1) := by decide +kernel
theorem dX9_first_5 : decode cX9_first 5 = .ok (.iconst 1, 1) := by decide +kernel
theorem dX9_first_6 : decode cX9_first 6 = .ok (.iand, 1) := by decide +kernel
theorem dX9_first_7 : decode cX9_first 7 = .ok (.ifCond .ne 9, 3) := by decide +kernel
theorem dX9_first_10 : decode cX9_first 10 = .ok (.iinc 1 1, 3) := by decide +kernel
theorem dX9_first_13 : decode cX9_first 13 = .ok (.goto (-11), 3) := by decide +kernel
theorem dX9_first_16 : decode cX9_first 16 = .ok (.iload_n 1, 1) := by decide +kernel
theorem dX9_first_17 : decode cX9_first 17 = .ok (.ireturn, 1) := by decide +kernel
theorem dX9_join_0 : decode cX9_join 0 = .ok (.aload_n 0, 1) := by decide +kernel
theorem dX9_join_1 : decode cX9_join 1 = .ok (.iconst 0, 1) := by decide +kernel
theorem dX9_join_2 : decode cX9_join 2 = .ok (.putfield 69, 3) := by decide +kernel
theorem dX9_join_5 : decode cX9_join 5 = .ok (.aload_n 0, 1) := by decide +kernel
theorem dX9_join_6 : decode cX9_join 6 = .ok (.getfield 88, 3) := by decide +kernel
theorem dX9_join_9 : decode cX9_join 9 = .ok (.ifCond .eq 11, 3) := by decide +kernel
theorem dX9_join_12 : decode cX9_join 12 = .ok (.aload_n 0, 1) := by decide +kernel
theorem dX9_join_13 : decode cX9_join 13 = .ok (.invokevirtual 106, 3) := by decide +kernel
theorem dX9_join_16 : decode cX9_join 16 = .ok (.iconst 1, 1) := by decide +kernel
theorem dX9_join_17 : decode cX9_join 17 = .ok (.if_icmp .ge 5, 3) := by decide +kernel
theorem dX9_join_20 : decode cX9_join 20 = .ok (.iconst (-1), 1) := by decide +kernel
theorem dX9_join_21 : decode cX9_join 21 = .ok (.ireturn, 1) := by decide +kernel
theorem dX9_join_22 : decode cX9_join 22 = .ok (.iconst 0, 1) := by decide +kernel
theorem dX9_join_23 : decode cX9_join 23 = .ok (.istore_n 1, 1) := by decide +kernel
theorem dX9_join_24 : decode cX9_join 24 = .ok (.iload_n 1, 1) := by decide +kernel
theorem dX9_join_25 : decode cX9_join 25 = .ok (.aload_n 0, 1) := by decide +kernel
theorem dX9_join_26 : decode cX9_join 26 = .ok (.getfield 88, 3) := by decide +kernel
theorem dX9_join_29 : decode cX9_join 29 = .ok (.if_icmp .ge 58, 3) := by decide +kernel
theorem dX9_join_32 : decode cX9_join 32 = .ok (.iload_n 1, 1) := by decide +kernel
theorem dX9_join_33 : decode cX9_join 33 = .ok (.istore_n 2, 1) := by decide +kernel
theorem dX9_join_34 : decode cX9_join 34 = .ok (.iload_n 2, 1) := by decide +kernel
theorem dX9_join_35 : decode cX9_join 35 = .ok (.aload_n 0, 1) := by decide +kernel
theorem dX9_join_36 : decode cX9_join 36 = .ok (.getfield 88, 3) := by decide +kernel
theorem dX9_join_39 : decode cX9_join 39 = .ok (.if_icmp .ge 42, 3) := by decide +kernel
theorem dX9_join_42 : decode cX9_join 42 = .ok (.aload_n 0, 1) := by decide +kernel
theorem dX9_join_43 : decode cX9_join 43 = .ok (.getfield 35, 3) := by decide +kernel
theorem dX9_join_46 : decode cX9_join 46 = .ok (.bipush 8, 2) := by decide +kernel
theorem dX9_join_48 : decode cX9_join 48 = .ok (.iload_n 1, 1) := by decide +kernel
theorem dX9_join_49 : decode cX9_join 49 = .ok (.imul, 1) := by decide +kernel
theorem dX9_join_50 : decode cX9_join 50 = .ok (.iload_n 2, 1) := by decide +kernel
theorem dX9_join_51 : decode cX9_join 51 = .ok (.iadd, 1) := by decide +kernel
theorem dX9_join_52 : decode cX9_join 52 = .ok (.aload_n 0, 1) := by decide +kernel
theorem dX9_join_53 : decode cX9_join 53 = .ok (.iload_n 1, 1) := by decide +kernel
theorem dX9_join_54 : decode cX9_join 54 = .ok (.iload_n 2, 1) := by decide +kernel
theorem dX9_join_55 : decode cX9_join 55 = .ok (.invokevirtual 145, 3) := by decide +kernel
theorem dX9_join_58 : decode cX9_join 58 = .ok (.ifCond .eq 15, 3) := by decide +kernel
theorem dX9_join_61 : decode cX9_join 61 = .ok (.aload_n 0, 1) := by decide +kernel
theorem dX9_join_62 : decode cX9_join 62 = .ok (.getfield 120, 3) := by decide +kernel
theorem dX9_join_65 : decode cX9_join 65 = .ok (.aload_n 0, 1) := by decide +kernel
theorem dX9_join_66 : decode cX9_join 66 = .ok (.getfield 66, 3) := by decide +kernel
theorem dX9_join_69 : decode cX9_join 69 = .ok (.iadd, 1) := by decide +kernel
theorem dX9_join_70 : decode cX9_join 70 = .ok (.goto 4, 3) := by decide +kernel
theorem dX9_join_73 : decode cX9_join 73 = .ok (.iconst (-1), 1) := by decide +kernel
theorem dX9_join_74 : decode cX9_join 74 = .ok (.iastore, 1) := by decide +kernel
theorem dX9_join_75 : decode cX9_join 75 = .ok (.iinc 2 1, 3) := by decide +kernel
theorem dX9_join_78 : decode cX9_join 78 = .ok (.goto (-44), 3) := by decide +kernel
theorem dX9_join_81 : decode cX9_join 81 = .ok (.iinc 1 1, 3) := by decide +kernel
theorem dX9_join_84 : decode cX9_join 84 = .ok (.goto (-60), 3) := by decide +kernel
theorem dX9_join_87 : decode cX9_join 87 = .ok (.aload_n 0, 1) := by decide +kernel
theorem dX9_join_88 : decode cX9_join 88 = .ok (.getfield 32, 3) := by decide +kernel
theorem dX9_join_91 : decode cX9_join 91 = .ok (.iconst 0, 1) := by decide +kernel
theorem dX9_join_92 : decode cX9_join 92 = .ok (.iconst 0, 1) := by decide +kernel
theorem dX9_join_93 : decode cX9_join 93 = .ok (.iastore, 1) := by decide +kernel
theorem dX9_join_94 : decode cX9_join 94 = .ok (.iconst 1, 1) := by decide +kernel
theorem dX9_join_95 : decode cX9_join 95 = .ok (.istore_n 1, 1) := by decide +kernel
theorem dX9_join_96 : decode cX9_join 96 = .ok (.iload_n 1, 1) := by decide +kernel
theorem dX9_join_97 : decode cX9_join 97 = .ok (.iconst 1, 1) := by decide +kernel
theorem dX9_join_98 : decode cX9_join 98 = .ok (.aload_n 0, 1) := by decide +kernel
theorem dX9_join_99 : decode cX9_join 99 = .ok (.getfield 88, 3) := by decide +kernel
theorem dX9_join_102 : decode cX9_join 102 = .ok (.ishl, 1) := by decide +kernel
theorem dX9_join_103 : decode cX9_join 103 = .ok (.if_icmp .ge 107, 3) := by decide +kernel
theorem dX9_join_106 : decode cX9_join 106 = .ok (.iload_n 1, 1) := by decide +kernel
theorem dX9_join_107 : decode cX9_join 107 = .ok (.invokestatic 148, 3) := by decide +kernel
theorem dX9_join_110 : decode cX9_join 110 = .ok (.istore_n 2, 1) := by decide +kernel
theorem dX9_join_111 : decode cX9_join 111 = .ok (.aload_n 0, 1) := by decide +kernel
theorem dX9_join_112 : decode cX9_join 112 = .ok (.getfield 32, 3) := by decide +kernel
theorem dX9_join_115 : decode cX9_join 115 = .ok (.iload_n 1, 1) := by decide +kernel
theorem dX9_join_116 : decode cX9_join 116 = .ok (.ldc 152, 2) := by decide +kernel
theorem dX9_join_118 : decode cX9_join 118 = .ok (.iastore, 1) := by decide +kernel
theorem dX9_join_119 : decode cX9_join 119 = .ok (.iload_n 2, 1) := by decide +kernel
theorem dX9_join_120 : decode cX9_join 120 = .ok (.istore_n 3, 1) := by decide +kernel
theorem dX9_join_121 : decode cX9_join 121 = .ok (.iload_n 3, 1) := by decide +kernel
theorem dX9_join_122 : decode cX9_join 122 = .ok (.aload_n 0, 1) := by decide +kernel
theorem dX9_join_123 : decode cX9_join 123 = .ok (.getfield 88, 3) := by decide +kernel
theorem dX9_join_126 : decode cX9_join 126 = .ok (.if_icmp .ge 78, 3) := by decide +kernel
theorem dX9_join_129 : decode cX9_join 129 = .ok (.iload_n 1, 1) := by decide +kernel
theorem dX9_join_130 : decode cX9_join 130 = .ok (.iload_n 3, 1) := by decide +kernel
theorem dX9_join_131 : decode cX9_join 131 = .ok (.ishr, 1) := by decide +kernel
theorem dX9_join_132 : decode cX9_join 132 = .ok (.iconst 1, 1) := by decide +kernel
theorem dX9_join_133 : decode cX9_join 133 = .ok (.iand, 1) := by decide +kernel
theorem dX9_join_134 : decode cX9_join 134 = .ok (.iconst 1, 1) := by decide +kernel
theorem dX9_join_135 : decode cX9_join 135 = .ok (.if_icmp .ne 63, 3) := by decide +kernel
theorem dX9_join_138 : decode cX9_join 138 = .ok (.aload_n 0, 1) := by decide +kernel
theorem dX9_join_139 : decode cX9_join 139 = .ok (.getfield 35, 3) := by decide +kernel
theorem dX9_join_142 : decode cX9_join 142 = .ok (.bipush 8, 2) := by decide +kernel
theorem dX9_join_144 : decode cX9_join 144 = .ok (.iload_n 2, 1) := by decide +kernel
theorem dX9_join_145 : decode cX9_join 145 = .ok (.imul, 1) := by decide +kernel
theorem dX9_join_146 : decode cX9_join 146 = .ok (.iload_n 3, 1) := by decide +kernel
theorem dX9_join_147 : decode cX9_join 147 = .ok (.iadd, 1) := by decide +kernel
theorem dX9_join_148 : decode cX9_join 148 = .ok (.iaload, 1) := by decide +kernel
theorem dX9_join_149 : decode cX9_join 149 = .ok (.iconst (-1), 1) := by decide +kernel
theorem dX9_join_150 : decode cX9_join 150 = .ok (.if_icmp .eq 48, 3) := by decide +kernel
theorem dX9_join_153 : decode cX9_join 153 = .ok (.aload_n 0, 1) := by decide +kernel
theorem dX9_join_154 : decode cX9_join 154 = .ok (.getfield 32, 3) := by decide +kernel
theorem dX9_join_157 : decode cX9_join 157 = .ok (.iload_n 1, 1) := by decide +kernel
theorem dX9_join_158 : decode cX9_join 158 = .ok (.aload_n 0, 1) := by decide +kernel
theorem dX9_join_159 : decode cX9_join 159 = .ok (.getfield 32, 3) := by decide +kernel
theorem dX9_join_162 : decode cX9_join 162 = .ok (.iload_n 1, 1) := by decide +kernel
theorem dX9_join_163 : decode cX9_join 163 = .ok (.iaload, 1) := by decide +kernel
theorem dX9_join_164 : decode cX9_join 164 = .ok (.aload_n 0, 1) := by decide +kernel
theorem dX9_join_165 : decode cX9_join 165 = .ok (.getfield 35, 3) := by decide +kernel
theorem dX9_join_168 : decode cX9_join 168 = .ok (.bipush 8, 2) := by decide +kernel
theorem dX9_join_170 : decode cX9_join 170 = .ok (.iload_n 2, 1) := by decide +kernel
theorem dX9_join_171 : decode cX9_join 171 = .ok (.imul, 1) := by decide +kernel
theorem dX9_join_172 : decode cX9_join 172 = .ok (.iload_n 3, 1) := by decide +kernel
theorem dX9_join_173 : decode cX9_join 173 = .ok (.iadd, 1) := by decide +kernel
theorem dX9_join_174 : decode cX9_join 174 = .ok (.iaload, 1) := by decide +kernel
theorem dX9_join_175 : decode cX9_join 175 = .ok (.aload_n 0, 1) := by decide +kernel
theorem dX9_join_176 : decode cX9_join 176 = .ok (.getfield 32, 3) := by decide +kernel
theorem dX9_join_179 : decode cX9_join 179 = .ok (.iload_n 1, 1) := by decide +kernel
theorem dX9_join_180 : decode cX9_join 180 = .ok (.iconst 1, 1) := by decide +kernel
theorem dX9_join_181 : decode cX9_join 181 = .ok (.iload_n 2, 1) := by decide +kernel
theorem dX9_join_182 : decode cX9_join 182 = .ok (.ishl, 1) := by decide +kernel
theorem dX9_join_183 : decode cX9_join 183 = .ok (.iconst (-1), 1) := by decide +kernel
theorem dX9_join_184 : decode cX9_join 184 = .ok (.ixor, 1) := by decide +kernel
theorem dX9_join_185 : decode cX9_join 185 = .ok (.iand, 1) := by decide +kernel
theorem dX9_join_186 : decode cX9_join 186 = .ok (.iconst 1, 1) := by decide +kernel
theorem dX9_join_187 : decode cX9_join 187 = .ok (.iload_n 3, 1) := by decide +kernel
theorem dX9_join_188 : decode cX9_join 188 = .ok (.ishl, 1) := by decide +kernel
theorem dX9_join_189 : decode cX9_join 189 = .ok (.iconst (-1), 1) := by decide +kernel
theorem dX9_join_190 : decode cX9_join 190 = .ok (.ixor, 1) := by decide +kernel
theorem dX9_join_191 : decode cX9_join 191 = .ok (.iand, 1) := by decide +kernel
theorem dX9_join_192 : decode cX9_join 192 = .ok (.iaload, 1) := by decide +kernel
theorem dX9_join_193 : decode cX9_join 193 = .ok (.iadd, 1) := by decide +kernel
theorem dX9_join_194 : decode cX9_join 194 = .ok (.invokestatic 132, 3) := by decide +kernel
theorem dX9_join_197 : decode cX9_join 197 = .ok (.iastore, 1) := by decide +kernel
theorem dX9_join_198 : decode cX9_join 198 = .ok (.iinc 3 1, 3) := by decide +kernel
theorem dX9_join_201 : decode cX9_join 201 = .ok (.goto (-80), 3) := by decide +kernel
theorem dX9_join_204 : decode cX9_join 204 = .ok (.iinc 1 1, 3) := by decide +kernel
theorem dX9_join_207 : decode cX9_join 207 = .ok (.goto (-111), 3) := by decide +kernel
theorem dX9_join_210 : decode cX9_join 210 = .ok (.aload_n 0, 1) := by decide +kernel
theorem dX9_join_211 : decode cX9_join 211 = .ok (.invokevirtual 153, 3) := by decide +kernel
theorem dX9_join_214 : decode cX9_join 214 = .ok (.aload_n 0, 1) := by decide +kernel
theorem dX9_join_215 : decode cX9_join 215 = .ok (.getfield 32, 3) := by decide +kernel
theorem dX9_join_218 : decode cX9_join 218 = .ok (.iconst 1, 1) := by decide +kernel
theorem dX9_join_219 : decode cX9_join 219 = .ok (.aload_n 0, 1) := by decide +kernel
theorem dX9_join_220 : decode cX9_join 220 = .ok (.getfield 88, 3) := by decide +kernel
theorem dX9_join_223 : decode cX9_join 223 = .ok (.ishl, 1) := by decide +kernel
theorem dX9_join_224 : decode cX9_join 224 = .ok (.iconst 1, 1) := by decide +kernel
theorem dX9_join_225 : decode cX9_join 225 = .ok (.isub, 1) := by decide +kernel
theorem dX9_join_226 : decode cX9_join 226 = .ok (.iaload, 1) := by decide +kernel
theorem dX9_join_227 : decode cX9_join 227 = .ok (.ireturn, 1) := by decide +kernel
theorem dX9_leaves_0 : decode cX9_leaves 0 = .ok (.iconst 1, 1) := by decide +kernel
theorem dX9_leaves_1 : decode cX9_leaves 1 = .ok (.aload_n 0, 1) := by decide +kernel
theorem dX9_leaves_2 : decode cX9_leaves 2 = .ok (.getfield 88, 3) := by decide +kernel
theorem dX9_leaves_5 : decode cX9_leaves 5 = .ok (.ishl, 1) := by decide +kernel
theorem dX9_leaves_6 : decode cX9_leaves 6 = .ok (.iconst 1, 1) := by decide +kernel
theorem dX9_leaves_7 : decode cX9_leaves 7 = .ok (.isub, 1) := by decide +kernel
theorem dX9_leaves_8 : decode cX9_leaves 8 = .ok (.istore_n 1, 1) := by decide +kernel
theorem dX9_leaves_9 : decode cX9_leaves 9 = .ok (.aload_n 0, 1) := by decide +kernel
theorem dX9_leaves_10 : decode cX9_leaves 10 = .ok (.iconst 1, 1) := by decide +kernel
theorem dX9_leaves_11 : decode cX9_leaves 11 = .ok (.putfield 84, 3) := by decide +kernel
theorem dX9_leaves_14 : decode cX9_leaves 14 = .ok (.aload_n 0, 1) := by decide +kernel
theorem dX9_leaves_15 : decode cX9_leaves 15 = .ok (.iconst 0, 1) := by decide +kernel
theorem dX9_leaves_16 : decode cX9_leaves 16 = .ok (.putfield 81, 3) := by decide +kernel
theorem dX9_leaves_19 : decode cX9_leaves 19 = .ok (.aload_n 0, 1) := by decide +kernel
theorem dX9_leaves_20 : decode cX9_leaves 20 = .ok (.aload_n 0, 1) := by decide +kernel
theorem dX9_leaves_21 : decode cX9_leaves 21 = .ok (.invokevirtual 106, 3) := by decide +kernel
theorem dX9_leaves_24 : decode cX9_leaves 24 = .ok (.putfield 156, 3) := by decide +kernel
theorem dX9_leaves_27 : decode cX9_leaves 27 = .ok (.iconst 0, 1) := by decide +kernel
theorem dX9_leaves_28 : decode cX9_leaves 28 = .ok (.istore_n 2, 1) := by decide +kernel
theorem dX9_leaves_29 : decode cX9_leaves 29 = .ok (.iload_n 2, 1) := by decide +kernel
theorem dX9_leaves_30 : decode cX9_leaves 30 = .ok (.sipush 128, 3) := by decide +kernel
theorem dX9_leaves_33 : decode cX9_leaves 33 = .ok (.if_icmp .ge 21, 3) := by decide +kernel
theorem dX9_leaves_36 : decode cX9_leaves 36 = .ok (.aload_n 0, 1) := by decide +kernel
theorem dX9_leaves_37 : decode cX9_leaves 37 = .ok (.getfield 53, 3) := by decide +kernel
theorem dX9_leaves_40 : decode cX9_leaves 40 = .ok (.iload_n 2, 1) := by decide +kernel
theorem dX9_leaves_41 : decode cX9_leaves 41 = .ok (.aload_n 0, 1) := by decide +kernel
theorem dX9_leaves_42 : decode cX9_leaves 42 = .ok (.getfield 29, 3) := by decide +kernel
theorem dX9_leaves_45 : decode cX9_leaves 45 = .ok (.iload_n 2, 1) := by decide +kernel
theorem dX9_leaves_46 : decode cX9_leaves 46 = .ok (.iaload, 1) := by decide +kernel
theorem dX9_leaves_47 : decode cX9_leaves 47 = .ok (.iastore, 1) := by decide +kernel
theorem dX9_leaves_48 : decode cX9_leaves 48 = .ok (.iinc 2 1, 3) := by decide +kernel
theorem dX9_leaves_51 : decode cX9_leaves 51 = .ok (.goto (-22), 3) := by decide +kernel
theorem dX9_leaves_54 : decode cX9_leaves 54 = .ok (.iconst 0, 1) := by decide +kernel
theorem dX9_leaves_55 : decode cX9_leaves 55 = .ok (.istore_n 2, 1) := by decide +kernel
theorem dX9_leaves_56 : decode cX9_leaves 56 = .ok (.iload_n 2, 1) := by decide +kernel
theorem dX9_leaves_57 : decode cX9_leaves 57 = .ok (.bipush 8, 2) := by decide +kernel
theorem dX9_leaves_59 : decode cX9_leaves 59 = .ok (.if_icmp .ge 28, 3) := by decide +kernel
theorem dX9_leaves_62 : decode cX9_leaves 62 = .ok (.aload_n 0, 1) := by decide +kernel
theorem dX9_leaves_63 : decode cX9_leaves 63 = .ok (.getfield 59, 3) := by decide +kernel
theorem dX9_leaves_66 : decode cX9_leaves 66 = .ok (.iload_n 2, 1) := by decide +kernel
theorem dX9_leaves_67 : decode cX9_leaves 67 = .ok (.iload_n 2, 1) := by decide +kernel
theorem dX9_leaves_68 : decode cX9_leaves 68 = .ok (.aload_n 0, 1) := by decide +kernel
theorem dX9_leaves_69 : decode cX9_leaves 69 = .ok (.getfield 88, 3) := by decide +kernel
theorem dX9_leaves_72 : decode cX9_leaves 72 = .ok (.if_icmp .ge 7, 3) := by decide +kernel
theorem dX9_leaves_75 : decode cX9_leaves 75 = .ok (.iconst 1, 1) := by decide +kernel
theorem dX9_leaves_76 : decode cX9_leaves 76 = .ok (.goto 4, 3) := by decide +kernel
theorem dX9_leaves_79 : decode cX9_leaves 79 = .ok (.iconst 0, 1) := by decide +kernel
theorem dX9_leaves_80 : decode cX9_leaves 80 = .ok (.bastore, 1) := by decide +kernel
theorem dX9_leaves_81 : decode cX9_leaves 81 = .ok (.iinc 2 1, 3) := by decide +kernel
theorem dX9_leaves_84 : decode cX9_leaves 84 = .ok (.goto (-28), 3) := by decide +kernel
theorem dX9_leaves_87 : decode cX9_leaves 87 = .ok (.iload_n 1, 1) := by decide +kernel
theorem dX9_leaves_88 : decode cX9_leaves 88 = .ok (.ifCond .eq 106, 3) := by decide +kernel
theorem dX9_leaves_91 : decode cX9_leaves 91 = .ok (.iload_n 1, 1) := by decide +kernel
theorem dX9_leaves_92 : decode cX9_leaves 92 = .ok (.invokestatic 148, 3) := by decide +kernel
theorem dX9_leaves_95 : decode cX9_leaves 95 = .ok (.istore_n 2, 1) := by decide +kernel
theorem dX9_leaves_96 : decode cX9_leaves 96 = .ok (.iload_n 2, 1) := by decide +kernel
theorem dX9_leaves_97 : decode cX9_leaves 97 = .ok (.istore_n 3, 1) := by decide +kernel
theorem dX9_leaves_98 : decode cX9_leaves 98 = .ok (.iload_n 1, 1) := by decide +kernel
theorem dX9_leaves_99 : decode cX9_leaves 99 = .ok (.iload_n 3, 1) := by decide +kernel
theorem dX9_leaves_100 : decode cX9_leaves 100 = .ok (.ishr, 1) := by decide +kernel
theorem dX9_leaves_101 : decode cX9_leaves 101 = .ok (.iconst 1, 1) := by decide +kernel
theorem dX9_leaves_102 : decode cX9_leaves 102 = .ok (.iand, 1) := by decide +kernel
theorem dX9_leaves_103 : decode cX9_leaves 103 = .ok (.ifCond .eq 57, 3) := by decide +kernel
theorem dX9_leaves_106 : decode cX9_leaves 106 = .ok (.aload_n 0, 1) := by decide +kernel
theorem dX9_leaves_107 : decode cX9_leaves 107 = .ok (.getfield 35, 3) := by decide +kernel
theorem dX9_leaves_110 : decode cX9_leaves 110 = .ok (.bipush 8, 2) := by decide +kernel
theorem dX9_leaves_112 : decode cX9_leaves 112 = .ok (.iload_n 2, 1) := by decide +kernel
theorem dX9_leaves_113 : decode cX9_leaves 113 = .ok (.imul, 1) := by decide +kernel
theorem dX9_leaves_114 : decode cX9_leaves 114 = .ok (.iload_n 3, 1) := by decide +kernel
theorem dX9_leaves_115 : decode cX9_leaves 115 = .ok (.iadd, 1) := by decide +kernel
theorem dX9_leaves_116 : decode cX9_leaves 116 = .ok (.iaload, 1) := by decide +kernel
theorem dX9_leaves_117 : decode cX9_leaves 117 = .ok (.iconst (-1), 1) := by decide +kernel
theorem dX9_leaves_118 : decode cX9_leaves 118 = .ok (.if_icmp .eq 42, 3) := by decide +kernel
theorem dX9_leaves_121 : decode cX9_leaves 121 = .ok (.aload_n 0, 1) := by decide +kernel
theorem dX9_leaves_122 : decode cX9_leaves 122 = .ok (.getfield 35, 3) := by decide +kernel
theorem dX9_leaves_125 : decode cX9_leaves 125 = .ok (.bipush 8, 2) := by decide +kernel
theorem dX9_leaves_127 : decode cX9_leaves 127 = .ok (.iload_n 2, 1) := by decide +kernel
theorem dX9_leaves_128 : decode cX9_leaves 128 = .ok (.imul, 1) := by decide +kernel
theorem dX9_leaves_129 : decode cX9_leaves 129 = .ok (.iload_n 3, 1) := by decide +kernel
theorem dX9_leaves_130 : decode cX9_leaves 130 = .ok (.iadd, 1) := by decide +kernel
theorem dX9_leaves_131 : decode cX9_leaves 131 = .ok (.iaload, 1) := by decide +kernel
theorem dX9_leaves_132 : decode cX9_leaves 132 = .ok (.aload_n 0, 1) := by decide +kernel
theorem dX9_leaves_133 : decode cX9_leaves 133 = .ok (.getfield 32, 3) := by decide +kernel
theorem dX9_leaves_136 : decode cX9_leaves 136 = .ok (.iload_n 1, 1) := by decide +kernel
theorem dX9_leaves_137 : decode cX9_leaves 137 = .ok (.iconst 1, 1) := by decide +kernel
theorem dX9_leaves_138 : decode cX9_leaves 138 = .ok (.iload_n 2, 1) := by decide +kernel
theorem dX9_leaves_139 : decode cX9_leaves 139 = .ok (.ishl, 1) := by decide +kernel
theorem dX9_leaves_140 : decode cX9_leaves 140 = .ok (.iconst (-1), 1) := by decide +kernel
theorem dX9_leaves_141 : decode cX9_leaves 141 = .ok (.ixor, 1) := by decide +kernel
theorem dX9_leaves_142 : decode cX9_leaves 142 = .ok (.iand, 1) := by decide +kernel
theorem dX9_leaves_143 : decode cX9_leaves 143 = .ok (.iconst 1, 1) := by decide +kernel
theorem dX9_leaves_144 : decode cX9_leaves 144 = .ok (.iload_n 3, 1) := by decide +kernel
theorem dX9_leaves_145 : decode cX9_leaves 145 = .ok (.ishl, 1) := by decide +kernel
theorem dX9_leaves_146 : decode cX9_leaves 146 = .ok (.iconst (-1), 1) := by decide +kernel
theorem dX9_leaves_147 : decode cX9_leaves 147 = .ok (.ixor, 1) := by decide +kernel
theorem dX9_leaves_148 : decode cX9_leaves 148 = .ok (.iand, 1) := by decide +kernel
theorem dX9_leaves_149 : decode cX9_leaves 149 = .ok (.iaload, 1) := by decide +kernel
theorem dX9_leaves_150 : decode cX9_leaves 150 = .ok (.iadd, 1) := by decide +kernel
theorem dX9_leaves_151 : decode cX9_leaves 151 = .ok (.aload_n 0, 1) := by decide +kernel
theorem dX9_leaves_152 : decode cX9_leaves 152 = .ok (.getfield 32, 3) := by decide +kernel
theorem dX9_leaves_155 : decode cX9_leaves 155 = .ok (.iload_n 1, 1) := by decide +kernel
theorem dX9_leaves_156 : decode cX9_leaves 156 = .ok (.iaload, 1) := by decide +kernel
theorem dX9_leaves_157 : decode cX9_leaves 157 = .ok (.if_icmp .eq 9, 3) := by decide +kernel
theorem dX9_leaves_160 : decode cX9_leaves 160 = .ok (.iinc 3 1, 3) := by decide +kernel
theorem dX9_leaves_163 : decode cX9_leaves 163 = .ok (.goto (-65), 3) := by decide +kernel
theorem dX9_leaves_166 : decode cX9_leaves 166 = .ok (.aload_n 0, 1) := by decide +kernel
theorem dX9_leaves_167 : decode cX9_leaves 167 = .ok (.iload_n 2, 1) := by decide +kernel
theorem dX9_leaves_168 : decode cX9_leaves 168 = .ok (.iload_n 3, 1) := by decide +kernel
theorem dX9_leaves_169 : decode cX9_leaves 169 = .ok (.invokevirtual 145, 3) := by decide +kernel
theorem dX9_leaves_172 : decode cX9_leaves 172 = .ok (.pop, 1) := by decide +kernel
theorem dX9_leaves_173 : decode cX9_leaves 173 = .ok (.aload_n 0, 1) := by decide +kernel
theorem dX9_leaves_174 : decode cX9_leaves 174 = .ok (.invokevirtual 159, 3) := by decide +kernel
theorem dX9_leaves_177 : decode cX9_leaves 177 = .ok (.iload_n 1, 1) := by decide +kernel
theorem dX9_leaves_178 : decode cX9_leaves 178 = .ok (.iconst 1, 1) := by decide +kernel
theorem dX9_leaves_179 : decode cX9_leaves 179 = .ok (.iload_n 2, 1) := by decide +kernel
theorem dX9_leaves_180 : decode cX9_leaves 180 = .ok (.ishl, 1) := by decide +kernel
theorem dX9_leaves_181 : decode cX9_leaves 181 = .ok (.iconst (-1), 1) := by decide +kernel
theorem dX9_leaves_182 : decode cX9_leaves 182 = .ok (.ixor, 1) := by decide +kernel
theorem dX9_leaves_183 : decode cX9_leaves 183 = .ok (.iconst 1, 1) := by decide +kernel
theorem dX9_leaves_184 : decode cX9_leaves 184 = .ok (.iload_n 3, 1) := by decide +kernel
theorem dX9_leaves_185 : decode cX9_leaves 185 = .ok (.ishl, 1) := by decide +kernel
theorem dX9_leaves_186 : decode cX9_leaves 186 = .ok (.iconst (-1), 1) := by decide +kernel
theorem dX9_leaves_187 : decode cX9_leaves 187 = .ok (.ixor, 1) := by decide +kernel
theorem dX9_leaves_188 : decode cX9_leaves 188 = .ok (.iand, 1) := by decide +kernel
theorem dX9_leaves_189 : decode cX9_leaves 189 = .ok (.iand, 1) := by decide +kernel
theorem dX9_leaves_190 : decode cX9_leaves 190 = .ok (.istore_n 1, 1) := by decide +kernel
theorem dX9_leaves_191 : decode cX9_leaves 191 = .ok (.goto (-104), 3) := by decide +kernel
theorem dX9_leaves_194 : decode cX9_leaves 194 = .ok (.aload_n 0, 1) := by decide +kernel
theorem dX9_leaves_195 : decode cX9_leaves 195 = .ok (.invokevirtual 162, 3) := by decide +kernel
theorem dX9_leaves_198 : decode cX9_leaves 198 = .ok (.return_, 1) := by decide +kernel
theorem dX9_comes_0 : decode cX9_comes 0 = .ok (.aload_n 0, 1) := by decide +kernel
theorem dX9_comes_1 : decode cX9_comes 1 = .ok (.getfield 38, 3) := by decide +kernel
theorem dX9_comes_4 : decode cX9_comes 4 = .ok (.aload_n 0, 1) := by decide +kernel
theorem dX9_comes_5 : decode cX9_comes 5 = .ok (.getfield 81, 3) := by decide +kernel
theorem dX9_comes_8 : decode cX9_comes 8 = .ok (.aload_n 0, 1) := by decide +kernel
theorem dX9_comes_9 : decode cX9_comes 9 = .ok (.getfield 126, 3) := by decide +kernel
theorem dX9_comes_12 : decode cX9_comes 12 = .ok (.iastore, 1) := by decide +kernel
theorem dX9_comes_13 : decode cX9_comes 13 = .ok (.aload_n 0, 1) := by decide +kernel
theorem dX9_comes_14 : decode cX9_comes 14 = .ok (.getfield 41, 3) := by decide +kernel
theorem dX9_comes_17 : decode cX9_comes 17 = .ok (.aload_n 0, 1) := by decide +kernel
theorem dX9_comes_18 : decode cX9_comes 18 = .ok (.getfield 81, 3) := by decide +kernel
theorem dX9_comes_21 : decode cX9_comes 21 = .ok (.aload_n 0, 1) := by decide +kernel
theorem dX9_comes_22 : decode cX9_comes 22 = .ok (.getfield 129, 3) := by decide +kernel
theorem dX9_comes_25 : decode cX9_comes 25 = .ok (.iastore, 1) := by decide +kernel
theorem dX9_comes_26 : decode cX9_comes 26 = .ok (.aload_n 0, 1) := by decide +kernel
theorem dX9_comes_27 : decode cX9_comes 27 = .ok (.getfield 44, 3) := by decide +kernel
theorem dX9_comes_30 : decode cX9_comes 30 = .ok (.aload_n 0, 1) := by decide +kernel
theorem dX9_comes_31 : decode cX9_comes 31 = .ok (.getfield 81, 3) := by decide +kernel
theorem dX9_comes_34 : decode cX9_comes 34 = .ok (.aload_n 0, 1) := by decide +kernel
theorem dX9_comes_35 : decode cX9_comes 35 = .ok (.getfield 123, 3) := by decide +kernel
theorem dX9_comes_38 : decode cX9_comes 38 = .ok (.iastore, 1) := by decide +kernel
theorem dX9_comes_39 : decode cX9_comes 39 = .ok (.aload_n 0, 1) := by decide +kernel
theorem dX9_comes_40 : decode cX9_comes 40 = .ok (.getfield 47, 3) := by decide +kernel
theorem dX9_comes_43 : decode cX9_comes 43 = .ok (.aload_n 0, 1) := by decide +kernel
theorem dX9_comes_44 : decode cX9_comes 44 = .ok (.getfield 81, 3) := by decide +kernel
theorem dX9_comes_47 : decode cX9_comes 47 = .ok (.aload_n 0, 1) := by decide +kernel
theorem dX9_comes_48 : decode cX9_comes 48 = .ok (.getfield 120, 3) := by decide +kernel
theorem dX9_comes_51 : decode cX9_comes 51 = .ok (.iastore, 1) := by decide +kernel
theorem dX9_comes_52 : decode cX9_comes 52 = .ok (.aload_n 0, 1) := by decide +kernel
theorem dX9_comes_53 : decode cX9_comes 53 = .ok (.getfield 50, 3) := by decide +kernel
theorem dX9_comes_56 : decode cX9_comes 56 = .ok (.aload_n 0, 1) := by decide +kernel
theorem dX9_comes_57 : decode cX9_comes 57 = .ok (.getfield 81, 3) := by decide +kernel
theorem dX9_comes_60 : decode cX9_comes 60 = .ok (.iconst 0, 1) := by decide +kernel
theorem dX9_comes_61 : decode cX9_comes 61 = .ok (.iastore, 1) := by decide +kernel
theorem dX9_comes_62 : decode cX9_comes 62 = .ok (.iconst 0, 1) := by decide +kernel
theorem dX9_comes_63 : decode cX9_comes 63 = .ok (.istore_n 1, 1) := by decide +kernel
theorem dX9_comes_64 : decode cX9_comes 64 = .ok (.iload_n 1, 1) := by decide +kernel
theorem dX9_comes_65 : decode cX9_comes 65 = .ok (.aload_n 0, 1) := by decide +kernel
theorem dX9_comes_66 : decode cX9_comes 66 = .ok (.invokevirtual 106, 3) := by decide +kernel
theorem dX9_comes_69 : decode cX9_comes 69 = .ok (.if_icmp .ge 46, 3) := by decide +kernel
theorem dX9_comes_72 : decode cX9_comes 72 = .ok (.aload_n 0, 1) := by decide +kernel
theorem dX9_comes_73 : decode cX9_comes 73 = .ok (.getfield 50, 3) := by decide +kernel
theorem dX9_comes_76 : decode cX9_comes 76 = .ok (.aload_n 0, 1) := by decide +kernel
theorem dX9_comes_77 : decode cX9_comes 77 = .ok (.getfield 81, 3) := by decide +kernel
theorem dX9_comes_80 : decode cX9_comes 80 = .ok (.dup2, 1) := by decide +kernel
theorem dX9_comes_81 : decode cX9_comes 81 = .ok (.iaload, 1) := by decide +kernel
theorem dX9_comes_82 : decode cX9_comes 82 = .ok (.aload_n 0, 1) := by decide +kernel
theorem dX9_comes_83 : decode cX9_comes 83 = .ok (.aload_n 0, 1) := by decide +kernel
theorem dX9_comes_84 : decode cX9_comes 84 = .ok (.getfield 126, 3) := by decide +kernel
theorem dX9_comes_87 : decode cX9_comes 87 = .ok (.aload_n 0, 1) := by decide +kernel
theorem dX9_comes_88 : decode cX9_comes 88 = .ok (.getfield 129, 3) := by decide +kernel
theorem dX9_comes_91 : decode cX9_comes 91 = .ok (.iload_n 1, 1) := by decide +kernel
theorem dX9_comes_92 : decode cX9_comes 92 = .ok (.invokevirtual 117, 3) := by decide +kernel
theorem dX9_comes_95 : decode cX9_comes 95 = .ok (.aload_n 0, 1) := by decide +kernel
theorem dX9_comes_96 : decode cX9_comes 96 = .ok (.getfield 120, 3) := by decide +kernel
theorem dX9_comes_99 : decode cX9_comes 99 = .ok (.if_icmp .gt 7, 3) := by decide +kernel
theorem dX9_comes_102 : decode cX9_comes 102 = .ok (.iconst 1, 1) := by decide +kernel
theorem dX9_comes_103 : decode cX9_comes 103 = .ok (.goto 4, 3) := by decide +kernel
theorem dX9_comes_106 : decode cX9_comes 106 = .ok (.iconst 0, 1) := by decide +kernel
theorem dX9_comes_107 : decode cX9_comes 107 = .ok (.iadd, 1) := by decide +kernel
theorem dX9_comes_108 : decode cX9_comes 108 = .ok (.iastore, 1) := by decide +kernel
theorem dX9_comes_109 : decode cX9_comes 109 = .ok (.iinc 1 1, 3) := by decide +kernel
theorem dX9_comes_112 : decode cX9_comes 112 = .ok (.goto (-48), 3) := by decide +kernel
theorem dX9_comes_115 : decode cX9_comes 115 = .ok (.iconst 0, 1) := by decide +kernel
theorem dX9_comes_116 : decode cX9_comes 116 = .ok (.istore_n 1, 1) := by decide +kernel
theorem dX9_comes_117 : decode cX9_comes 117 = .ok (.iload_n 1, 1) := by decide +kernel
theorem dX9_comes_118 : decode cX9_comes 118 = .ok (.bipush 16, 2) := by decide +kernel
theorem dX9_comes_120 : decode cX9_comes 120 = .ok (.if_icmp .ge 73, 3) := by decide +kernel
theorem dX9_comes_123 : decode cX9_comes 123 = .ok (.aload_n 0, 1) := by decide +kernel
theorem dX9_comes_124 : decode cX9_comes 124 = .ok (.getfield 126, 3) := by decide +kernel
theorem dX9_comes_127 : decode cX9_comes 127 = .ok (.iconst (-1), 1) := by decide +kernel
theorem dX9_comes_128 : decode cX9_comes 128 = .ok (.if_icmp .eq 27, 3) := by decide +kernel
theorem dX9_comes_131 : decode cX9_comes 131 = .ok (.aload_n 0, 1) := by decide +kernel
theorem dX9_comes_132 : decode cX9_comes 132 = .ok (.getfield 56, 3) := by decide +kernel
theorem dX9_comes_135 : decode cX9_comes 135 = .ok (.bipush 16, 2) := by decide +kernel
theorem dX9_comes_137 : decode cX9_comes 137 = .ok (.aload_n 0, 1) := by decide +kernel
theorem dX9_comes_138 : decode cX9_comes 138 = .ok (.getfield 126, 3) := by decide +kernel
theorem dX9_comes_141 : decode cX9_comes 141 = .ok (.imul, 1) := by decide +kernel
theorem dX9_comes_142 : decode cX9_comes 142 = .ok (.iload_n 1, 1) := by decide +kernel
theorem dX9_comes_143 : decode cX9_comes 143 = .ok (.iadd, 1) := by decide +kernel
theorem dX9_comes_144 : decode cX9_comes 144 = .ok (.aload_n 0, 1) := by decide +kernel
theorem dX9_comes_145 : decode cX9_comes 145 = .ok (.iconst 0, 1) := by decide +kernel
theorem dX9_comes_146 : decode cX9_comes 146 = .ok (.aload_n 0, 1) := by decide +kernel
theorem dX9_comes_147 : decode cX9_comes 147 = .ok (.getfield 123, 3) := by decide +kernel
theorem dX9_comes_150 : decode cX9_comes 150 = .ok (.iload_n 1, 1) := by decide +kernel
