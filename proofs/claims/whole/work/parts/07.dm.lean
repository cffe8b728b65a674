theorem dX1_thrown_0 : decode cX1_thrown 0 = .ok (.aload_n 0, 1) := by decide +kernel
theorem dX1_thrown_1 : decode cX1_thrown 1 = .ok (.getfield 38, 3) := by decide +kernel
theorem dX1_thrown_4 : decode cX1_thrown 4 = .ok (.ireturn, 1) := by decide +kernel
theorem dX1_topNow_0 : decode cX1_topNow 0 = .ok (.iconst 0, 1) := by decide +kernel
theorem dX1_topNow_1 : decode cX1_topNow 1 = .ok (.istore_n 1, 1) := by decide +kernel
theorem dX1_topNow_2 : decode cX1_topNow 2 = .ok (.iconst 0, 1) := by decide +kernel
theorem dX1_topNow_3 : decode cX1_topNow 3 = .ok (.istore_n 2, 1) := by decide +kernel
theorem dX1_topNow_4 : decode cX1_topNow 4 = .ok (.iload_n 2, 1) := by decide +kernel
theorem dX1_topNow_5 : decode cX1_topNow 5 = .ok (.aload_n 0, 1) := by decide +kernel
theorem dX1_topNow_6 : decode cX1_topNow 6 = .ok (.getfield 42, 3) := by decide +kernel
theorem dX1_topNow_9 : decode cX1_topNow 9 = .ok (.if_icmp .ge 25, 3) := by decide +kernel
theorem dX1_topNow_12 : decode cX1_topNow 12 = .ok (.iload_n 1, 1) := by decide +kernel
theorem dX1_topNow_13 : decode cX1_topNow 13 = .ok (.aload_n 0, 1) := by decide +kernel
theorem dX1_topNow_14 : decode cX1_topNow 14 = .ok (.getfield 13, 3) := by decide +kernel
theorem dX1_topNow_17 : decode cX1_topNow 17 = .ok (.aload_n 0, 1) := by decide +kernel
theorem dX1_topNow_18 : decode cX1_topNow 18 = .ok (.getfield 29, 3) := by decide +kernel
theorem dX1_topNow_21 : decode cX1_topNow 21 = .ok (.iload_n 2, 1) := by decide +kernel
theorem dX1_topNow_22 : decode cX1_topNow 22 = .ok (.iaload, 1) := by decide +kernel
theorem dX1_topNow_23 : decode cX1_topNow 23 = .ok (.iaload, 1) := by decide +kernel
theorem dX1_topNow_24 : decode cX1_topNow 24 = .ok (.iadd, 1) := by decide +kernel
theorem dX1_topNow_25 : decode cX1_topNow 25 = .ok (.iconst 2, 1) := by decide +kernel
theorem dX1_topNow_26 : decode cX1_topNow 26 = .ok (.iadd, 1) := by decide +kernel
theorem dX1_topNow_27 : decode cX1_topNow 27 = .ok (.istore_n 1, 1) := by decide +kernel
theorem dX1_topNow_28 : decode cX1_topNow 28 = .ok (.iinc 2 1, 3) := by decide +kernel
theorem dX1_topNow_31 : decode cX1_topNow 31 = .ok (.goto (-27), 3) := by decide +kernel
theorem dX1_topNow_34 : decode cX1_topNow 34 = .ok (.iload_n 1, 1) := by decide +kernel
theorem dX1_topNow_35 : decode cX1_topNow 35 = .ok (.ireturn, 1) := by decide +kernel
theorem dX1_addressOf_0 : decode cX1_addressOf 0 = .ok (.iconst 0, 1) := by decide +kernel
theorem dX1_addressOf_1 : decode cX1_addressOf 1 = .ok (.istore_n 2, 1) := by decide +kernel
theorem dX1_addressOf_2 : decode cX1_addressOf 2 = .ok (.iconst 0, 1) := by decide +kernel
theorem dX1_addressOf_3 : decode cX1_addressOf 3 = .ok (.istore_n 3, 1) := by decide +kernel
theorem dX1_addressOf_4 : decode cX1_addressOf 4 = .ok (.iload_n 3, 1) := by decide +kernel
theorem dX1_addressOf_5 : decode cX1_addressOf 5 = .ok (.aload_n 0, 1) := by decide +kernel
theorem dX1_addressOf_6 : decode cX1_addressOf 6 = .ok (.getfield 42, 3) := by decide +kernel
theorem dX1_addressOf_9 : decode cX1_addressOf 9 = .ok (.if_icmp .ge 37, 3) := by decide +kernel
theorem dX1_addressOf_12 : decode cX1_addressOf 12 = .ok (.aload_n 0, 1) := by decide +kernel
theorem dX1_addressOf_13 : decode cX1_addressOf 13 = .ok (.getfield 29, 3) := by decide +kernel
theorem dX1_addressOf_16 : decode cX1_addressOf 16 = .ok (.iload_n 3, 1) := by decide +kernel
theorem dX1_addressOf_17 : decode cX1_addressOf 17 = .ok (.iaload, 1) := by decide +kernel
theorem dX1_addressOf_18 : decode cX1_addressOf 18 = .ok (.iload_n 1, 1) := by decide +kernel
theorem dX1_addressOf_19 : decode cX1_addressOf 19 = .ok (.if_icmp .ne 5, 3) := by decide +kernel
theorem dX1_addressOf_22 : decode cX1_addressOf 22 = .ok (.iload_n 2, 1) := by decide +kernel
theorem dX1_addressOf_23 : decode cX1_addressOf 23 = .ok (.ireturn, 1) := by decide +kernel
theorem dX1_addressOf_24 : decode cX1_addressOf 24 = .ok (.iload_n 2, 1) := by decide +kernel
theorem dX1_addressOf_25 : decode cX1_addressOf 25 = .ok (.aload_n 0, 1) := by decide +kernel
theorem dX1_addressOf_26 : decode cX1_addressOf 26 = .ok (.getfield 13, 3) := by decide +kernel
theorem dX1_addressOf_29 : decode cX1_addressOf 29 = .ok (.aload_n 0, 1) := by decide +kernel
theorem dX1_addressOf_30 : decode cX1_addressOf 30 = .ok (.getfield 29, 3) := by decide +kernel
theorem dX1_addressOf_33 : decode cX1_addressOf 33 = .ok (.iload_n 3, 1) := by decide +kernel
theorem dX1_addressOf_34 : decode cX1_addressOf 34 = .ok (.iaload, 1) := by decide +kernel
theorem dX1_addressOf_35 : decode cX1_addressOf 35 = .ok (.iaload, 1) := by decide +kernel
theorem dX1_addressOf_36 : decode cX1_addressOf 36 = .ok (.iadd, 1) := by decide +kernel
theorem dX1_addressOf_37 : decode cX1_addressOf 37 = .ok (.iconst 2, 1) := by decide +kernel
theorem dX1_addressOf_38 : decode cX1_addressOf 38 = .ok (.iadd, 1) := by decide +kernel
theorem dX1_addressOf_39 : decode cX1_addressOf 39 = .ok (.istore_n 2, 1) := by decide +kernel
theorem dX1_addressOf_40 : decode cX1_addressOf 40 = .ok (.iinc 3 1, 3) := by decide +kernel
theorem dX1_addressOf_43 : decode cX1_addressOf 43 = .ok (.goto (-39), 3) := by decide +kernel
theorem dX1_addressOf_46 : decode cX1_addressOf 46 = .ok (.iconst (-1), 1) := by decide +kernel
theorem dX1_addressOf_47 : decode cX1_addressOf 47 = .ok (.ireturn, 1) := by decide +kernel
theorem dX1_enliven_0 : decode cX1_enliven 0 = .ok (.iload_n 1, 1) := by decide +kernel
theorem dX1_enliven_1 : decode cX1_enliven 1 = .ok (.ifCond .lt 16, 3) := by decide +kernel
theorem dX1_enliven_4 : decode cX1_enliven 4 = .ok (.aload_n 0, 1) := by decide +kernel
theorem dX1_enliven_5 : decode cX1_enliven 5 = .ok (.getfield 26, 3) := by decide +kernel
theorem dX1_enliven_8 : decode cX1_enliven 8 = .ok (.iload_n 1, 1) := by decide +kernel
theorem dX1_enliven_9 : decode cX1_enliven 9 = .ok (.baload, 1) := by decide +kernel
theorem dX1_enliven_10 : decode cX1_enliven 10 = .ok (.ifCond .ne 7, 3) := by decide +kernel
theorem dX1_enliven_13 : decode cX1_enliven 13 = .ok (.iconst 1, 1) := by decide +kernel
theorem dX1_enliven_14 : decode cX1_enliven 14 = .ok (.goto 4, 3) := by decide +kernel
theorem dX1_enliven_17 : decode cX1_enliven 17 = .ok (.iconst 0, 1) := by decide +kernel
theorem dX1_enliven_18 : decode cX1_enliven 18 = .ok (.istore_n 2, 1) := by decide +kernel
theorem dX1_enliven_19 : decode cX1_enliven 19 = .ok (.iload_n 2, 1) := by decide +kernel
theorem dX1_enliven_20 : decode cX1_enliven 20 = .ok (.ifCond .eq 10, 3) := by decide +kernel
theorem dX1_enliven_23 : decode cX1_enliven 23 = .ok (.aload_n 0, 1) := by decide +kernel
theorem dX1_enliven_24 : decode cX1_enliven 24 = .ok (.getfield 26, 3) := by decide +kernel
theorem dX1_enliven_27 : decode cX1_enliven 27 = .ok (.iload_n 1, 1) := by decide +kernel
theorem dX1_enliven_28 : decode cX1_enliven 28 = .ok (.iconst 1, 1) := by decide +kernel
theorem dX1_enliven_29 : decode cX1_enliven 29 = .ok (.bastore, 1) := by decide +kernel
theorem dX1_enliven_30 : decode cX1_enliven 30 = .ok (.iload_n 2, 1) := by decide +kernel
theorem dX1_enliven_31 : decode cX1_enliven 31 = .ok (.ireturn, 1) := by decide +kernel
theorem dX1_findAlive_0 : decode cX1_findAlive 0 = .ok (.iconst 0, 1) := by decide +kernel
theorem dX1_findAlive_1 : decode cX1_findAlive 1 = .ok (.istore_n 1, 1) := by decide +kernel
theorem dX1_findAlive_2 : decode cX1_findAlive 2 = .ok (.iload_n 1, 1) := by decide +kernel
theorem dX1_findAlive_3 : decode cX1_findAlive 3 = .ok (.sipush 128, 3) := by decide +kernel
theorem dX1_findAlive_6 : decode cX1_findAlive 6 = .ok (.if_icmp .ge 16, 3) := by decide +kernel
theorem dX1_findAlive_9 : decode cX1_findAlive 9 = .ok (.aload_n 0, 1) := by decide +kernel
theorem dX1_findAlive_10 : decode cX1_findAlive 10 = .ok (.getfield 26, 3) := by decide +kernel
theorem dX1_findAlive_13 : decode cX1_findAlive 13 = .ok (.iload_n 1, 1) := by decide +kernel
theorem dX1_findAlive_14 : decode cX1_findAlive 14 = .ok (.iconst 0, 1) := by decide +kernel
theorem dX1_findAlive_15 : decode cX1_findAlive 15 = .ok (.bastore, 1) := by decide +kernel
theorem dX1_findAlive_16 : decode cX1_findAlive 16 = .ok (.iinc 1 1, 3) := by decide +kernel
theorem dX1_findAlive_19 : decode cX1_findAlive 19 = .ok (.goto (-17), 3) := by decide +kernel
theorem dX1_findAlive_22 : decode cX1_findAlive 22 = .ok (.iconst 0, 1) := by decide +kernel
theorem dX1_findAlive_23 : decode cX1_findAlive 23 = .ok (.istore_n 1, 1) := by decide +kernel
theorem dX1_findAlive_24 : decode cX1_findAlive 24 = .ok (.iconst 0, 1) := by decide +kernel
theorem dX1_findAlive_25 : decode cX1_findAlive 25 = .ok (.istore_n 2, 1) := by decide +kernel
theorem dX1_findAlive_26 : decode cX1_findAlive 26 = .ok (.iload_n 2, 1) := by decide +kernel
theorem dX1_findAlive_27 : decode cX1_findAlive 27 = .ok (.bipush 8, 2) := by decide +kernel
theorem dX1_findAlive_29 : decode cX1_findAlive 29 = .ok (.if_icmp .ge 34, 3) := by decide +kernel
theorem dX1_findAlive_32 : decode cX1_findAlive 32 = .ok (.aload_n 0, 1) := by decide +kernel
theorem dX1_findAlive_33 : decode cX1_findAlive 33 = .ok (.aload_n 0, 1) := by decide +kernel
theorem dX1_findAlive_34 : decode cX1_findAlive 34 = .ok (.getfield 35, 3) := by decide +kernel
theorem dX1_findAlive_37 : decode cX1_findAlive 37 = .ok (.iload_n 2, 1) := by decide +kernel
theorem dX1_findAlive_38 : decode cX1_findAlive 38 = .ok (.iaload, 1) := by decide +kernel
theorem dX1_findAlive_39 : decode cX1_findAlive 39 = .ok (.invokevirtual 45, 3) := by decide +kernel
theorem dX1_findAlive_42 : decode cX1_findAlive 42 = .ok (.istore_n 3, 1) := by decide +kernel
theorem dX1_findAlive_43 : decode cX1_findAlive 43 = .ok (.iload_n 1, 1) := by decide +kernel
theorem dX1_findAlive_44 : decode cX1_findAlive 44 = .ok (.ifCond .ne 7, 3) := by decide +kernel
theorem dX1_findAlive_47 : decode cX1_findAlive 47 = .ok (.iload_n 3, 1) := by decide +kernel
theorem dX1_findAlive_48 : decode cX1_findAlive 48 = .ok (.ifCond .eq 7, 3) := by decide +kernel
theorem dX1_findAlive_51 : decode cX1_findAlive 51 = .ok (.iconst 1, 1) := by decide +kernel
theorem dX1_findAlive_52 : decode cX1_findAlive 52 = .ok (.goto 4, 3) := by decide +kernel
theorem dX1_findAlive_55 : decode cX1_findAlive 55 = .ok (.iconst 0, 1) := by decide +kernel
theorem dX1_findAlive_56 : decode cX1_findAlive 56 = .ok (.istore_n 1, 1) := by decide +kernel
theorem dX1_findAlive_57 : decode cX1_findAlive 57 = .ok (.iinc 2 1, 3) := by decide +kernel
theorem dX1_findAlive_60 : decode cX1_findAlive 60 = .ok (.goto (-34), 3) := by decide +kernel
theorem dX1_findAlive_63 : decode cX1_findAlive 63 = .ok (.iload_n 1, 1) := by decide +kernel
theorem dX1_findAlive_64 : decode cX1_findAlive 64 = .ok (.ifCond .eq 105, 3) := by decide +kernel
theorem dX1_findAlive_67 : decode cX1_findAlive 67 = .ok (.iconst 0, 1) := by decide +kernel
theorem dX1_findAlive_68 : decode cX1_findAlive 68 = .ok (.istore_n 1, 1) := by decide +kernel
theorem dX1_findAlive_69 : decode cX1_findAlive 69 = .ok (.iconst 0, 1) := by decide +kernel
theorem dX1_findAlive_70 : decode cX1_findAlive 70 = .ok (.istore_n 2, 1) := by decide +kernel
theorem dX1_findAlive_71 : decode cX1_findAlive 71 = .ok (.iload_n 2, 1) := by decide +kernel
theorem dX1_findAlive_72 : decode cX1_findAlive 72 = .ok (.sipush 128, 3) := by decide +kernel
theorem dX1_findAlive_75 : decode cX1_findAlive 75 = .ok (.if_icmp .ge 91, 3) := by decide +kernel
theorem dX1_findAlive_78 : decode cX1_findAlive 78 = .ok (.iconst 0, 1) := by decide +kernel
theorem dX1_findAlive_79 : decode cX1_findAlive 79 = .ok (.istore_n 3, 1) := by decide +kernel
theorem dX1_findAlive_80 : decode cX1_findAlive 80 = .ok (.iload_n 3, 1) := by decide +kernel
theorem dX1_findAlive_81 : decode cX1_findAlive 81 = .ok (.aload_n 0, 1) := by decide +kernel
theorem dX1_findAlive_82 : decode cX1_findAlive 82 = .ok (.getfield 13, 3) := by decide +kernel
theorem dX1_findAlive_85 : decode cX1_findAlive 85 = .ok (.iload_n 2, 1) := by decide +kernel
theorem dX1_findAlive_86 : decode cX1_findAlive 86 = .ok (.iaload, 1) := by decide +kernel
theorem dX1_findAlive_87 : decode cX1_findAlive 87 = .ok (.if_icmp .ge 73, 3) := by decide +kernel
theorem dX1_findAlive_90 : decode cX1_findAlive 90 = .ok (.aload_n 0, 1) := by decide +kernel
theorem dX1_findAlive_91 : decode cX1_findAlive 91 = .ok (.getfield 26, 3) := by decide +kernel
theorem dX1_findAlive_94 : decode cX1_findAlive 94 = .ok (.iload_n 2, 1) := by decide +kernel
theorem dX1_findAlive_95 : decode cX1_findAlive 95 = .ok (.baload, 1) := by decide +kernel
theorem dX1_findAlive_96 : decode cX1_findAlive 96 = .ok (.ifCond .eq 64, 3) := by decide +kernel
theorem dX1_findAlive_99 : decode cX1_findAlive 99 = .ok (.aload_n 0, 1) := by decide +kernel
theorem dX1_findAlive_100 : decode cX1_findAlive 100 = .ok (.getfield 20, 3) := by decide +kernel
theorem dX1_findAlive_103 : decode cX1_findAlive 103 = .ok (.bipush 6, 2) := by decide +kernel
theorem dX1_findAlive_105 : decode cX1_findAlive 105 = .ok (.iload_n 2, 1) := by decide +kernel
theorem dX1_findAlive_106 : decode cX1_findAlive 106 = .ok (.imul, 1) := by decide +kernel
theorem dX1_findAlive_107 : decode cX1_findAlive 107 = .ok (.iload_n 3, 1) := by decide +kernel
theorem dX1_findAlive_108 : decode cX1_findAlive 108 = .ok (.iadd, 1) := by decide +kernel
theorem dX1_findAlive_109 : decode cX1_findAlive 109 = .ok (.iaload, 1) := by decide +kernel
theorem dX1_findAlive_110 : decode cX1_findAlive 110 = .ok (.iconst 1, 1) := by decide +kernel
theorem dX1_findAlive_111 : decode cX1_findAlive 111 = .ok (.if_icmp .ne 25, 3) := by decide +kernel
theorem dX1_findAlive_114 : decode cX1_findAlive 114 = .ok (.aload_n 0, 1) := by decide +kernel
theorem dX1_findAlive_115 : decode cX1_findAlive 115 = .ok (.aload_n 0, 1) := by decide +kernel
theorem dX1_findAlive_116 : decode cX1_findAlive 116 = .ok (.getfield 23, 3) := by decide +kernel
theorem dX1_findAlive_119 : decode cX1_findAlive 119 = .ok (.bipush 6, 2) := by decide +kernel
theorem dX1_findAlive_121 : decode cX1_findAlive 121 = .ok (.iload_n 2, 1) := by decide +kernel
theorem dX1_findAlive_122 : decode cX1_findAlive 122 = .ok (.imul, 1) := by decide +kernel
theorem dX1_findAlive_123 : decode cX1_findAlive 123 = .ok (.iload_n 3, 1) := by decide +kernel
theorem dX1_findAlive_124 : decode cX1_findAlive 124 = .ok (.iadd, 1) := by decide +kernel
theorem dX1_findAlive_125 : decode cX1_findAlive 125 = .ok (.iaload, 1) := by decide +kernel
theorem dX1_findAlive_126 : decode cX1_findAlive 126 = .ok (.invokevirtual 45, 3) := by decide +kernel
theorem dX1_findAlive_129 : decode cX1_findAlive 129 = .ok (.ifCond .eq 7, 3) := by decide +kernel
theorem dX1_findAlive_132 : decode cX1_findAlive 132 = .ok (.iconst 1, 1) := by decide +kernel
theorem dX1_findAlive_133 : decode cX1_findAlive 133 = .ok (.goto 4, 3) := by decide +kernel
theorem dX1_findAlive_136 : decode cX1_findAlive 136 = .ok (.iconst 0, 1) := by decide +kernel
theorem dX1_findAlive_137 : decode cX1_findAlive 137 = .ok (.istore 4, 2) := by decide +kernel
theorem dX1_findAlive_139 : decode cX1_findAlive 139 = .ok (.iload_n 1, 1) := by decide +kernel
theorem dX1_findAlive_140 : decode cX1_findAlive 140 = .ok (.ifCond .ne 8, 3) := by decide +kernel
theorem dX1_findAlive_143 : decode cX1_findAlive 143 = .ok (.iload 4, 2) := by decide +kernel
theorem dX1_findAlive_145 : decode cX1_findAlive 145 = .ok (.ifCond .eq 7, 3) := by decide +kernel
theorem dX1_findAlive_148 : decode cX1_findAlive 148 = .ok (.iconst 1, 1) := by decide +kernel
theorem dX1_findAlive_149 : decode cX1_findAlive 149 = .ok (.goto 4, 3) := by decide +kernel
theorem dX1_findAlive_152 : decode cX1_findAlive 152 = .ok (.iconst 0, 1) := by decide +kernel
theorem dX1_findAlive_153 : decode cX1_findAlive 153 = .ok (.istore_n 1, 1) := by decide +kernel
theorem dX1_findAlive_154 : decode cX1_findAlive 154 = .ok (.iinc 3 1, 3) := by decide +kernel
theorem dX1_findAlive_157 : decode cX1_findAlive 157 = .ok (.goto (-77), 3) := by decide +kernel
theorem dX1_findAlive_160 : decode cX1_findAlive 160 = .ok (.iinc 2 1, 3) := by decide +kernel
theorem dX1_findAlive_163 : decode cX1_findAlive 163 = .ok (.goto (-92), 3) := by decide +kernel
theorem dX1_findAlive_166 : decode cX1_findAlive 166 = .ok (.goto (-103), 3) := by decide +kernel
theorem dX1_findAlive_169 : decode cX1_findAlive 169 = .ok (.return_, 1) := by decide +kernel
theorem dX1_countAlive_0 : decode cX1_countAlive 0 = .ok (.iconst 0, 1) := by decide +kernel
theorem dX1_countAlive_1 : decode cX1_countAlive 1 = .ok (.istore_n 1, 1) := by decide +kernel
theorem dX1_countAlive_2 : decode cX1_countAlive 2 = .ok (.iconst 0, 1) := by decide +kernel
theorem dX1_countAlive_3 : decode cX1_countAlive 3 = .ok (.istore_n 2, 1) := by decide +kernel
theorem dX1_countAlive_4 : decode cX1_countAlive 4 = .ok (.iload_n 2, 1) := by decide +kernel
theorem dX1_countAlive_5 : decode cX1_countAlive 5 = .ok (.aload_n 0, 1) := by decide +kernel
theorem dX1_countAlive_6 : decode cX1_countAlive 6 = .ok (.getfield 42, 3) := by decide +kernel
theorem dX1_countAlive_9 : decode cX1_countAlive 9 = .ok (.if_icmp .ge 31, 3) := by decide +kernel
theorem dX1_countAlive_12 : decode cX1_countAlive 12 = .ok (.aload_n 0, 1) := by decide +kernel
theorem dX1_countAlive_13 : decode cX1_countAlive 13 = .ok (.getfield 26, 3) := by decide +kernel
theorem dX1_countAlive_16 : decode cX1_countAlive 16 = .ok (.aload_n 0, 1) := by decide +kernel
theorem dX1_countAlive_17 : decode cX1_countAlive 17 = .ok (.getfield 29, 3) := by decide +kernel
theorem dX1_countAlive_20 : decode cX1_countAlive 20 = .ok (.iload_n 2, 1) := by decide +kernel
theorem dX1_countAlive_21 : decode cX1_countAlive 21 = .ok (.iaload, 1) := by decide +kernel
theorem dX1_countAlive_22 : decode cX1_countAlive 22 = .ok (.baload, 1) := by decide +kernel
theorem dX1_countAlive_23 : decode cX1_countAlive 23 = .ok (.ifCond .eq 9, 3) := by decide +kernel
theorem dX1_countAlive_26 : decode cX1_countAlive 26 = .ok (.iload_n 1, 1) := by decide +kernel
theorem dX1_countAlive_27 : decode cX1_countAlive 27 = .ok (.iconst 1, 1) := by decide +kernel
theorem dX1_countAlive_28 : decode cX1_countAlive 28 = .ok (.iadd, 1) := by decide +kernel
theorem dX1_countAlive_29 : decode cX1_countAlive 29 = .ok (.goto 4, 3) := by decide +kernel
theorem dX1_countAlive_32 : decode cX1_countAlive 32 = .ok (.iload_n 1, 1) := by decide +kernel
theorem dX1_countAlive_33 : decode cX1_countAlive 33 = .ok (.istore_n 1, 1) := by decide +kernel
theorem dX1_countAlive_34 : decode cX1_countAlive 34 = .ok (.iinc 2 1, 3) := by decide +kernel
theorem dX1_countAlive_37 : decode cX1_countAlive 37 = .ok (.goto (-33), 3) := by decide +kernel
theorem dX1_countAlive_40 : decode cX1_countAlive 40 = .ok (.iload_n 1, 1) := by decide +kernel
theorem dX1_countAlive_41 : decode cX1_countAlive 41 = .ok (.ireturn, 1) := by decide +kernel
theorem dX1_oneSize_0 : decode cX1_oneSize 0 = .ok (.iconst 1, 1) := by decide +kernel
theorem dX1_oneSize_1 : decode cX1_oneSize 1 = .ok (.istore_n 1, 1) := by decide +kernel
theorem dX1_oneSize_2 : decode cX1_oneSize 2 = .ok (.iconst 1, 1) := by decide +kernel
theorem dX1_oneSize_3 : decode cX1_oneSize 3 = .ok (.istore_n 2, 1) := by decide +kernel
theorem dX1_oneSize_4 : decode cX1_oneSize 4 = .ok (.iload_n 2, 1) := by decide +kernel
theorem dX1_oneSize_5 : decode cX1_oneSize 5 = .ok (.aload_n 0, 1) := by decide +kernel
theorem dX1_oneSize_6 : decode cX1_oneSize 6 = .ok (.getfield 42, 3) := by decide +kernel
theorem dX1_oneSize_9 : decode cX1_oneSize 9 = .ok (.if_icmp .ge 44, 3) := by decide +kernel
theorem dX1_oneSize_12 : decode cX1_oneSize 12 = .ok (.iload_n 1, 1) := by decide +kernel
theorem dX1_oneSize_13 : decode cX1_oneSize 13 = .ok (.ifCond .eq 32, 3) := by decide +kernel
theorem dX1_oneSize_16 : decode cX1_oneSize 16 = .ok (.aload_n 0, 1) := by decide +kernel
theorem dX1_oneSize_17 : decode cX1_oneSize 17 = .ok (.getfield 13, 3) := by decide +kernel
theorem dX1_oneSize_20 : decode cX1_oneSize 20 = .ok (.aload_n 0, 1) := by decide +kernel
theorem dX1_oneSize_21 : decode cX1_oneSize 21 = .ok (.getfield 29, 3) := by decide +kernel
theorem dX1_oneSize_24 : decode cX1_oneSize 24 = .ok (.iload_n 2, 1) := by decide +kernel
theorem dX1_oneSize_25 : decode cX1_oneSize 25 = .ok (.iaload, 1) := by decide +kernel
theorem dX1_oneSize_26 : decode cX1_oneSize 26 = .ok (.iaload, 1) := by decide +kernel
theorem dX1_oneSize_27 : decode cX1_oneSize 27 = .ok (.aload_n 0, 1) := by decide +kernel
theorem dX1_oneSize_28 : decode cX1_oneSize 28 = .ok (.getfield 13, 3) := by decide +kernel
theorem dX1_oneSize_31 : decode cX1_oneSize 31 = .ok (.aload_n 0, 1) := by decide +kernel
theorem dX1_oneSize_32 : decode cX1_oneSize 32 = .ok (.getfield 29, 3) := by decide +kernel
theorem dX1_oneSize_35 : decode cX1_oneSize 35 = .ok (.iconst 0, 1) := by decide +kernel
theorem dX1_oneSize_36 : decode cX1_oneSize 36 = .ok (.iaload, 1) := by decide +kernel
theorem dX1_oneSize_37 : decode cX1_oneSize 37 = .ok (.iaload, 1) := by decide +kernel
theorem dX1_oneSize_38 : decode cX1_oneSize 38 = .ok (.if_icmp .ne 7, 3) := by decide +kernel
theorem dX1_oneSize_41 : decode cX1_oneSize 41 = .ok (.iconst 1, 1) := by decide +kernel
theorem dX1_oneSize_42 : decode cX1_oneSize 42 = .ok (.goto 4, 3) := by decide +kernel
theorem dX1_oneSize_45 : decode cX1_oneSize 45 = .ok (.iconst 0, 1) := by decide +kernel
theorem dX1_oneSize_46 : decode cX1_oneSize 46 = .ok (.istore_n 1, 1) := by decide +kernel
theorem dX1_oneSize_47 : decode cX1_oneSize 47 = .ok (.iinc 2 1, 3) := by decide +kernel
theorem dX1_oneSize_50 : decode cX1_oneSize 50 = .ok (.goto (-46), 3) := by decide +kernel
theorem dX1_oneSize_53 : decode cX1_oneSize 53 = .ok (.iload_n 1, 1) := by decide +kernel
theorem dX1_oneSize_54 : decode cX1_oneSize 54 = .ok (.ireturn, 1) := by decide +kernel
theorem dX1_keepOrder_0 : decode cX1_keepOrder 0 = .ok (.iconst 0, 1) := by decide +kernel
theorem dX1_keepOrder_1 : decode cX1_keepOrder 1 = .ok (.istore_n 1, 1) := by decide +kernel
theorem dX1_keepOrder_2 : decode cX1_keepOrder 2 = .ok (.iconst 0, 1) := by decide +kernel
theorem dX1_keepOrder_3 : decode cX1_keepOrder 3 = .ok (.istore_n 2, 1) := by decide +kernel
theorem dX1_keepOrder_4 : decode cX1_keepOrder 4 = .ok (.iload_n 2, 1) := by decide +kernel
theorem dX1_keepOrder_5 : decode cX1_keepOrder 5 = .ok (.aload_n 0, 1) := by decide +kernel
theorem dX1_keepOrder_6 : decode cX1_keepOrder 6 = .ok (.getfield 42, 3) := by decide +kernel
theorem dX1_keepOrder_9 : decode cX1_keepOrder 9 = .ok (.if_icmp .ge 38, 3) := by decide +kernel
theorem dX1_keepOrder_12 : decode cX1_keepOrder 12 = .ok (.aload_n 0, 1) := by decide +kernel
theorem dX1_keepOrder_13 : decode cX1_keepOrder 13 = .ok (.getfield 26, 3) := by decide +kernel
theorem dX1_keepOrder_16 : decode cX1_keepOrder 16 = .ok (.aload_n 0, 1) := by decide +kernel
theorem dX1_keepOrder_17 : decode cX1_keepOrder 17 = .ok (.getfield 29, 3) := by decide +kernel
theorem dX1_keepOrder_20 : decode cX1_keepOrder 20 = .ok (.iload_n 2, 1) := by decide +kernel
theorem dX1_keepOrder_21 : decode cX1_keepOrder 21 = .ok (.iaload, 1) := by decide +kernel
theorem dX1_keepOrder_22 : decode cX1_keepOrder 22 = .ok (.baload, 1) := by decide +kernel
theorem dX1_keepOrder_23 : decode cX1_keepOrder 23 = .ok (.ifCond .eq 18, 3) := by decide +kernel
theorem dX1_keepOrder_26 : decode cX1_keepOrder 26 = .ok (.aload_n 0, 1) := by decide +kernel
theorem dX1_keepOrder_27 : decode cX1_keepOrder 27 = .ok (.getfield 32, 3) := by decide +kernel
theorem dX1_keepOrder_30 : decode cX1_keepOrder 30 = .ok (.iload_n 1, 1) := by decide +kernel
theorem dX1_keepOrder_31 : decode cX1_keepOrder 31 = .ok (.aload_n 0, 1) := by decide +kernel
theorem dX1_keepOrder_32 : decode cX1_keepOrder 32 = .ok (.getfield 29, 3) := by decide +kernel
theorem dX1_keepOrder_35 : decode cX1_keepOrder 35 = .ok (.iload_n 2, 1) := by decide +kernel
theorem dX1_keepOrder_36 : decode cX1_keepOrder 36 = .ok (.iaload, 1) := by decide +kernel
theorem dX1_keepOrder_37 : decode cX1_keepOrder 37 = .ok (.iastore, 1) := by decide +kernel
theorem dX1_keepOrder_38 : decode cX1_keepOrder 38 = .ok (.iinc 1 1, 3) := by decide +kernel
theorem dX1_keepOrder_41 : decode cX1_keepOrder 41 = .ok (.iinc 2 1, 3) := by decide +kernel
theorem dX1_keepOrder_44 : decode cX1_keepOrder 44 = .ok (.goto (-40), 3) := by decide +kernel
theorem dX1_keepOrder_47 : decode cX1_keepOrder 47 = .ok (.return_, 1) := by decide +kernel
theorem dX1_fillGaps_0 : decode cX1_fillGaps 0 = .ok (.aload_n 0, 1) := by decide +kernel
theorem dX1_fillGaps_1 : decode cX1_fillGaps 1 = .ok (.invokevirtual 49, 3) := by decide +kernel
theorem dX1_fillGaps_4 : decode cX1_fillGaps 4 = .ok (.istore_n 1, 1) := by decide +kernel
theorem dX1_fillGaps_5 : decode cX1_fillGaps 5 = .ok (.aload_n 0, 1) := by decide +kernel
theorem dX1_fillGaps_6 : decode cX1_fillGaps 6 = .ok (.getfield 42, 3) := by decide +kernel
theorem dX1_fillGaps_9 : decode cX1_fillGaps 9 = .ok (.iconst 1, 1) := by decide +kernel
theorem dX1_fillGaps_10 : decode cX1_fillGaps 10 = .ok (.isub, 1) := by decide +kernel
theorem dX1_fillGaps_11 : decode cX1_fillGaps 11 = .ok (.istore_n 2, 1) := by decide +kernel
theorem dX1_fillGaps_12 : decode cX1_fillGaps 12 = .ok (.iconst 0, 1) := by decide +kernel
theorem dX1_fillGaps_13 : decode cX1_fillGaps 13 = .ok (.istore_n 3, 1) := by decide +kernel
theorem dX1_fillGaps_14 : decode cX1_fillGaps 14 = .ok (.iload_n 3, 1) := by decide +kernel
theorem dX1_fillGaps_15 : decode cX1_fillGaps 15 = .ok (.iload_n 1, 1) := by decide +kernel
theorem dX1_fillGaps_16 : decode cX1_fillGaps 16 = .ok (.if_icmp .ge 73, 3) := by decide +kernel
theorem dX1_fillGaps_19 : decode cX1_fillGaps 19 = .ok (.aload_n 0, 1) := by decide +kernel
theorem dX1_fillGaps_20 : decode cX1_fillGaps 20 = .ok (.getfield 26, 3) := by decide +kernel
theorem dX1_fillGaps_23 : decode cX1_fillGaps 23 = .ok (.aload_n 0, 1) := by decide +kernel
theorem dX1_fillGaps_24 : decode cX1_fillGaps 24 = .ok (.getfield 29, 3) := by decide +kernel
theorem dX1_fillGaps_27 : decode cX1_fillGaps 27 = .ok (.iload_n 3, 1) := by decide +kernel
theorem dX1_fillGaps_28 : decode cX1_fillGaps 28 = .ok (.iaload, 1) := by decide +kernel
theorem dX1_fillGaps_29 : decode cX1_fillGaps 29 = .ok (.baload, 1) := by decide +kernel
theorem dX1_fillGaps_30 : decode cX1_fillGaps 30 = .ok (.ifCond .eq 18, 3) := by decide +kernel
theorem dX1_fillGaps_33 : decode cX1_fillGaps 33 = .ok (.aload_n 0, 1) := by decide +kernel
theorem dX1_fillGaps_34 : decode cX1_fillGaps 34 = .ok (.getfield 32, 3) := by decide +kernel
theorem dX1_fillGaps_37 : decode cX1_fillGaps 37 = .ok (.iload_n 3, 1) := by decide +kernel
theorem dX1_fillGaps_38 : decode cX1_fillGaps 38 = .ok (.aload_n 0, 1) := by decide +kernel
theorem dX1_fillGaps_39 : decode cX1_fillGaps 39 = .ok (.getfield 29, 3) := by decide +kernel
theorem dX1_fillGaps_42 : decode cX1_fillGaps 42 = .ok (.iload_n 3, 1) := by decide +kernel
theorem dX1_fillGaps_43 : decode cX1_fillGaps 43 = .ok (.iaload, 1) := by decide +kernel
theorem dX1_fillGaps_44 : decode cX1_fillGaps 44 = .ok (.iastore, 1) := by decide +kernel
theorem dX1_fillGaps_45 : decode cX1_fillGaps 45 = .ok (.goto 38, 3) := by decide +kernel
theorem dX1_fillGaps_48 : decode cX1_fillGaps 48 = .ok (.aload_n 0, 1) := by decide +kernel
theorem dX1_fillGaps_49 : decode cX1_fillGaps 49 = .ok (.getfield 26, 3) := by decide +kernel
theorem dX1_fillGaps_52 : decode cX1_fillGaps 52 = .ok (.aload_n 0, 1) := by decide +kernel
theorem dX1_fillGaps_53 : decode cX1_fillGaps 53 = .ok (.getfield 29, 3) := by decide +kernel
theorem dX1_fillGaps_56 : decode cX1_fillGaps 56 = .ok (.iload_n 2, 1) := by decide +kernel
theorem dX1_fillGaps_57 : decode cX1_fillGaps 57 = .ok (.iaload, 1) := by decide +kernel
theorem dX1_fillGaps_58 : decode cX1_fillGaps 58 = .ok (.baload, 1) := by decide +kernel
theorem dX1_fillGaps_59 : decode cX1_fillGaps 59 = .ok (.ifCond .ne 9, 3) := by decide +kernel
theorem dX1_fillGaps_62 : decode cX1_fillGaps 62 = .ok (.iinc 2 (-1), 3) := by decide +kernel
theorem dX1_fillGaps_65 : decode cX1_fillGaps 65 = .ok (.goto (-17), 3) := by decide +kernel
theorem dX1_fillGaps_68 : decode cX1_fillGaps 68 = .ok (.aload_n 0, 1) := by decide +kernel
theorem dX1_fillGaps_69 : decode cX1_fillGaps 69 = .ok (.getfield 32, 3) := by decide +kernel
theorem dX1_fillGaps_72 : decode cX1_fillGaps 72 = .ok (.iload_n 3, 1) := by decide +kernel
theorem dX1_fillGaps_73 : decode cX1_fillGaps 73 = .ok (.aload_n 0, 1) := by decide +kernel
theorem dX1_fillGaps_74 : decode cX1_fillGaps 74 = .ok (.getfield 29, 3) := by decide +kernel
theorem dX1_fillGaps_77 : decode cX1_fillGaps 77 = .ok (.iload_n 2, 1) := by decide +kernel
theorem dX1_fillGaps_78 : decode cX1_fillGaps 78 = .ok (.iaload, 1) := by decide +kernel
theorem dX1_fillGaps_79 : decode cX1_fillGaps 79 = .ok (.iastore, 1) := by decide +kernel
theorem dX1_fillGaps_80 : decode cX1_fillGaps 80 = .ok (.iinc 2 (-1), 3) := by decide +kernel
theorem dX1_fillGaps_83 : decode cX1_fillGaps 83 = .ok (.iinc 3 1, 3) := by decide +kernel
theorem dX1_fillGaps_86 : decode cX1_fillGaps 86 = .ok (.goto (-72), 3) := by decide +kernel
theorem dX1_fillGaps_89 : decode cX1_fillGaps 89 = .ok (.return_, 1) := by decide +kernel
theorem dX1_press_0 : decode cX1_press 0 = .ok (.aload_n 0, 1) := by decide +kernel
theorem dX1_press_1 : decode cX1_press 1 = .ok (.invokevirtual 53, 3) := by decide +kernel
theorem dX1_press_4 : decode cX1_press 4 = .ok (.aload_n 0, 1) := by decide +kernel
theorem dX1_press_5 : decode cX1_press 5 = .ok (.invokevirtual 49, 3) := by decide +kernel
theorem dX1_press_8 : decode cX1_press 8 = .ok (.istore_n 2, 1) := by decide +kernel
theorem dX1_press_9 : decode cX1_press 9 = .ok (.iconst 0, 1) := by decide +kernel
theorem dX1_press_10 : decode cX1_press 10 = .ok (.istore_n 3, 1) := by decide +kernel
theorem dX1_press_11 : decode cX1_press 11 = .ok (.iload_n 3, 1) := by decide +kernel
theorem dX1_press_12 : decode cX1_press 12 = .ok (.sipush 128, 3) := by decide +kernel
theorem dX1_press_15 : decode cX1_press 15 = .ok (.if_icmp .ge 91, 3) := by decide +kernel
theorem dX1_press_18 : decode cX1_press 18 = .ok (.iconst 0, 1) := by decide +kernel
theorem dX1_press_19 : decode cX1_press 19 = .ok (.istore 4, 2) := by decide +kernel
theorem dX1_press_21 : decode cX1_press 21 = .ok (.iload 4, 2) := by decide +kernel
theorem dX1_press_23 : decode cX1_press 23 = .ok (.aload_n 0, 1) := by decide +kernel
theorem dX1_press_24 : decode cX1_press 24 = .ok (.getfield 13, 3) := by decide +kernel
theorem dX1_press_27 : decode cX1_press 27 = .ok (.iload_n 3, 1) := by decide +kernel
theorem dX1_press_28 : decode cX1_press 28 = .ok (.iaload, 1) := by decide +kernel
theorem dX1_press_29 : decode cX1_press 29 = .ok (.if_icmp .ge 71, 3) := by decide +kernel
theorem dX1_press_32 : decode cX1_press 32 = .ok (.aload_n 0, 1) := by decide +kernel
theorem dX1_press_33 : decode cX1_press 33 = .ok (.getfield 7, 3) := by decide +kernel
theorem dX1_press_36 : decode cX1_press 36 = .ok (.iload_n 3, 1) := by decide +kernel
theorem dX1_press_37 : decode cX1_press 37 = .ok (.baload, 1) := by decide +kernel
theorem dX1_press_38 : decode cX1_press 38 = .ok (.ifCond .eq 62, 3) := by decide +kernel
theorem dX1_press_41 : decode cX1_press 41 = .ok (.bipush 6, 2) := by decide +kernel
theorem dX1_press_43 : decode cX1_press 43 = .ok (.iload_n 3, 1) := by decide +kernel
theorem dX1_press_44 : decode cX1_press 44 = .ok (.imul, 1) := by decide +kernel
theorem dX1_press_45 : decode cX1_press 45 = .ok (.iload 4, 2) := by decide +kernel
theorem dX1_press_47 : decode cX1_press 47 = .ok (.iadd, 1) := by decide +kernel
theorem dX1_press_48 : decode cX1_press 48 = .ok (.istore 5, 2) := by decide +kernel
theorem dX1_press_50 : decode cX1_press 50 = .ok (.aload_n 0, 1) := by decide +kernel
theorem dX1_press_51 : decode cX1_press 51 = .ok (.getfield 20, 3) := by decide +kernel
theorem dX1_press_54 : decode cX1_press 54 = .ok (.iload 5, 2) := by decide +kernel
theorem dX1_press_56 : decode cX1_press 56 = .ok (.iaload, 1) := by decide +kernel
theorem dX1_press_57 : decode cX1_press 57 = .ok (.iconst 2, 1) := by decide +kernel
theorem dX1_press_58 : decode cX1_press 58 = .ok (.if_icmp .ne 36, 3) := by decide +kernel
theorem dX1_press_61 : decode cX1_press 61 = .ok (.aload_n 0, 1) := by decide +kernel
theorem dX1_press_62 : decode cX1_press 62 = .ok (.getfield 23, 3) := by decide +kernel
theorem dX1_press_65 : decode cX1_press 65 = .ok (.iload 5, 2) := by decide +kernel
theorem dX1_press_67 : decode cX1_press 67 = .ok (.iaload, 1) := by decide +kernel
theorem dX1_press_68 : decode cX1_press 68 = .ok (.ifCond .lt 26, 3) := by decide +kernel
theorem dX1_press_71 : decode cX1_press 71 = .ok (.aload_n 0, 1) := by decide +kernel
theorem dX1_press_72 : decode cX1_press 72 = .ok (.getfield 26, 3) := by decide +kernel
theorem dX1_press_75 : decode cX1_press 75 = .ok (.aload_n 0, 1) := by decide +kernel
theorem dX1_press_76 : decode cX1_press 76 = .ok (.getfield 23, 3) := by decide +kernel
theorem dX1_press_79 : decode cX1_press 79 = .ok (.iload 5, 2) := by decide +kernel
theorem dX1_press_81 : decode cX1_press 81 = .ok (.iaload, 1) := by decide +kernel
theorem dX1_press_82 : decode cX1_press 82 = .ok (.baload, 1) := by decide +kernel
theorem dX1_press_83 : decode cX1_press 83 = .ok (.ifCond .ne 11, 3) := by decide +kernel
theorem dX1_press_86 : decode cX1_press 86 = .ok (.aload_n 0, 1) := by decide +kernel
theorem dX1_press_87 : decode cX1_press 87 = .ok (.getfield 23, 3) := by decide +kernel
theorem dX1_press_90 : decode cX1_press 90 = .ok (.iload 5, 2) := by decide +kernel
theorem dX1_press_92 : decode cX1_press 92 = .ok (.iconst (-1), 1) := by decide +kernel
theorem dX1_press_93 : decode cX1_press 93 = .ok (.iastore, 1) := by decide +kernel
theorem dX1_press_94 : decode cX1_press 94 = .ok (.iinc 4 1, 3) := by decide +kernel
theorem dX1_press_97 : decode cX1_press 97 = .ok (.goto (-76), 3) := by decide +kernel
theorem dX1_press_100 : decode cX1_press 100 = .ok (.iinc 3 1, 3) := by decide +kernel
theorem dX1_press_103 : decode cX1_press 103 = .ok (.goto (-92), 3) := by decide +kernel
theorem dX1_press_106 : decode cX1_press 106 = .ok (.iload_n 1, 1) := by decide +kernel
theorem dX1_press_107 : decode cX1_press 107 = .ok (.iconst 1, 1) := by decide +kernel
theorem dX1_press_108 : decode cX1_press 108 = .ok (.if_icmp .ne 10, 3) := by decide +kernel
theorem dX1_press_111 : decode cX1_press 111 = .ok (.aload_n 0, 1) := by decide +kernel
theorem dX1_press_112 : decode cX1_press 112 = .ok (.invokevirtual 56, 3) := by decide +kernel
theorem dX1_press_115 : decode cX1_press 115 = .ok (.goto 7, 3) := by decide +kernel
theorem dX1_press_118 : decode cX1_press 118 = .ok (.aload_n 0, 1) := by decide +kernel
theorem dX1_press_119 : decode cX1_press 119 = .ok (.invokevirtual 59, 3) := by decide +kernel
theorem dX1_press_122 : decode cX1_press 122 = .ok (.iconst 0, 1) := by decide +kernel
theorem dX1_press_123 : decode cX1_press 123 = .ok (.istore_n 3, 1) := by decide +kernel
theorem dX1_press_124 : decode cX1_press 124 = .ok (.iload_n 3, 1) := by decide +kernel
theorem dX1_press_125 : decode cX1_press 125 = .ok (.sipush 128, 3) := by decide +kernel
theorem dX1_press_128 : decode cX1_press 128 = .ok (.if_icmp .ge 38, 3) := by decide +kernel
theorem dX1_press_131 : decode cX1_press 131 = .ok (.aload_n 0, 1) := by decide +kernel
theorem dX1_press_132 : decode cX1_press 132 = .ok (.getfield 7, 3) := by decide +kernel
theorem dX1_press_135 : decode cX1_press 135 = .ok (.iload_n 3, 1) := by decide +kernel
theorem dX1_press_136 : decode cX1_press 136 = .ok (.aload_n 0, 1) := by decide +kernel
theorem dX1_press_137 : decode cX1_press 137 = .ok (.getfield 7, 3) := by decide +kernel
theorem dX1_press_140 : decode cX1_press 140 = .ok (.iload_n 3, 1) := by decide +kernel
theorem dX1_press_141 : decode cX1_press 141 = .ok (.baload, 1) := by decide +kernel
theorem dX1_press_142 : decode cX1_press 142 = .ok (.ifCond .eq 16, 3) := by decide +kernel
theorem dX1_press_145 : decode cX1_press 145 = .ok (.aload_n 0, 1) := by decide +kernel
theorem dX1_press_146 : decode cX1_press 146 = .ok (.getfield 26, 3) := by decide +kernel
theorem dX1_press_149 : decode cX1_press 149 = .ok (.iload_n 3, 1) := by decide +kernel
theorem dX1_press_150 : decode cX1_press 150 = .ok (.baload, 1) := by decide +kernel
theorem dX1_press_151 : decode cX1_press 151 = .ok (.ifCond .eq 7, 3) := by decide +kernel
theorem dX1_press_154 : decode cX1_press 154 = .ok (.iconst 1, 1) := by decide +kernel
theorem dX1_press_155 : decode cX1_press 155 = .ok (.goto 4, 3) := by decide +kernel
theorem dX1_press_158 : decode cX1_press 158 = .ok (.iconst 0, 1) := by decide +kernel
theorem dX1_press_159 : decode cX1_press 159 = .ok (.bastore, 1) := by decide +kernel
theorem dX1_press_160 : decode cX1_press 160 = .ok (.iinc 3 1, 3) := by decide +kernel
theorem dX1_press_163 : decode cX1_press 163 = .ok (.goto (-39), 3) := by decide +kernel
theorem dX1_press_166 : decode cX1_press 166 = .ok (.aload_n 0, 1) := by decide +kernel
theorem dX1_press_167 : decode cX1_press 167 = .ok (.iload_n 2, 1) := by decide +kernel
theorem dX1_press_168 : decode cX1_press 168 = .ok (.putfield 42, 3) := by decide +kernel
theorem dX1_press_171 : decode cX1_press 171 = .ok (.iconst 0, 1) := by decide +kernel
theorem dX1_press_172 : decode cX1_press 172 = .ok (.istore_n 3, 1) := by decide +kernel
theorem dX1_press_173 : decode cX1_press 173 = .ok (.iload_n 3, 1) := by decide +kernel
theorem dX1_press_174 : decode cX1_press 174 = .ok (.iload_n 2, 1) := by decide +kernel
theorem dX1_press_175 : decode cX1_press 175 = .ok (.if_icmp .ge 21, 3) := by decide +kernel
theorem dX1_press_178 : decode cX1_press 178 = .ok (.aload_n 0, 1) := by decide +kernel
theorem dX1_press_179 : decode cX1_press 179 = .ok (.getfield 29, 3) := by decide +kernel
theorem dX1_press_182 : decode cX1_press 182 = .ok (.iload_n 3, 1) := by decide +kernel
theorem dX1_press_183 : decode cX1_press 183 = .ok (.aload_n 0, 1) := by decide +kernel
theorem dX1_press_184 : decode cX1_press 184 = .ok (.getfield 32, 3) := by decide +kernel
theorem dX1_press_187 : decode cX1_press 187 = .ok (.iload_n 3, 1) := by decide +kernel
theorem dX1_press_188 : decode cX1_press 188 = .ok (.iaload, 1) := by decide +kernel
theorem dX1_press_189 : decode cX1_press 189 = .ok (.iastore, 1) := by decide +kernel
theorem dX1_press_190 : decode cX1_press 190 = .ok (.iinc 3 1, 3) := by decide +kernel
theorem dX1_press_193 : decode cX1_press 193 = .ok (.goto (-20), 3) := by decide +kernel
theorem dX1_press_196 : decode cX1_press 196 = .ok (.return_, 1) := by decide +kernel
theorem dX1_make_0 : decode cX1_make 0 = .ok (.iconst 0, 1) := by decide +kernel
theorem dX1_make_1 : decode cX1_make 1 = .ok (.istore_n 3, 1) := by decide +kernel
theorem dX1_make_2 : decode cX1_make 2 = .ok (.aload_n 0, 1) := by decide +kernel
theorem dX1_make_3 : decode cX1_make 3 = .ok (.getfield 7, 3) := by decide +kernel
theorem dX1_make_6 : decode cX1_make 6 = .ok (.iload_n 3, 1) := by decide +kernel
theorem dX1_make_7 : decode cX1_make 7 = .ok (.baload, 1) := by decide +kernel
theorem dX1_make_8 : decode cX1_make 8 = .ok (.ifCond .eq 9, 3) := by decide +kernel
theorem dX1_make_11 : decode cX1_make 11 = .ok (.iinc 3 1, 3) := by decide +kernel
theorem dX1_make_14 : decode cX1_make 14 = .ok (.goto (-12), 3) := by decide +kernel
theorem dX1_make_17 : decode cX1_make 17 = .ok (.aload_n 0, 1) := by decide +kernel
theorem dX1_make_18 : decode cX1_make 18 = .ok (.dup, 1) := by decide +kernel
theorem dX1_make_19 : decode cX1_make 19 = .ok (.getfield 73, 3) := by decide +kernel
theorem dX1_make_22 : decode cX1_make 22 = .ok (.iconst 1, 1) := by decide +kernel
theorem dX1_make_23 : decode cX1_make 23 = .ok (.iadd, 1) := by decide +kernel
theorem dX1_make_24 : decode cX1_make 24 = .ok (.putfield 73, 3) := by decide +kernel
theorem dX1_make_27 : decode cX1_make 27 = .ok (.aload_n 0, 1) := by decide +kernel
theorem dX1_make_28 : decode cX1_make 28 = .ok (.getfield 7, 3) := by decide +kernel
theorem dX1_make_31 : decode cX1_make 31 = .ok (.iload_n 3, 1) := by decide +kernel
theorem dX1_make_32 : decode cX1_make 32 = .ok (.iconst 1, 1) := by decide +kernel
theorem dX1_make_33 : decode cX1_make 33 = .ok (.bastore, 1) := by decide +kernel
theorem dX1_make_34 : decode cX1_make 34 = .ok (.aload_n 0, 1) := by decide +kernel
theorem dX1_make_35 : decode cX1_make 35 = .ok (.getfield 13, 3) := by decide +kernel
theorem dX1_make_38 : decode cX1_make 38 = .ok (.iload_n 3, 1) := by decide +kernel
theorem dX1_make_39 : decode cX1_make 39 = .ok (.iload_n 2, 1) := by decide +kernel
theorem dX1_make_40 : decode cX1_make 40 = .ok (.iastore, 1) := by decide +kernel
theorem dX1_make_41 : decode cX1_make 41 = .ok (.aload_n 0, 1) := by decide +kernel
theorem dX1_make_42 : decode cX1_make 42 = .ok (.getfield 17, 3) := by decide +kernel
theorem dX1_make_45 : decode cX1_make 45 = .ok (.iload_n 3, 1) := by decide +kernel
theorem dX1_make_46 : decode cX1_make 46 = .ok (.aload_n 0, 1) := by decide +kernel
theorem dX1_make_47 : decode cX1_make 47 = .ok (.getfield 73, 3) := by decide +kernel
theorem dX1_make_50 : decode cX1_make 50 = .ok (.iastore, 1) := by decide +kernel
theorem dX1_make_51 : decode cX1_make 51 = .ok (.iconst 0, 1) := by decide +kernel
theorem dX1_make_52 : decode cX1_make 52 = .ok (.istore 4, 2) := by decide +kernel
theorem dX1_make_54 : decode cX1_make 54 = .ok (.iload 4, 2) := by decide +kernel
theorem dX1_make_56 : decode cX1_make 56 = .ok (.bipush 6, 2) := by decide +kernel
theorem dX1_make_58 : decode cX1_make 58 = .ok (.if_icmp .ge 35, 3) := by decide +kernel
theorem dX1_make_61 : decode cX1_make 61 = .ok (.aload_n 0, 1) := by decide +kernel
theorem dX1_make_62 : decode cX1_make 62 = .ok (.getfield 20, 3) := by decide +kernel
theorem dX1_make_65 : decode cX1_make 65 = .ok (.bipush 6, 2) := by decide +kernel
theorem dX1_make_67 : decode cX1_make 67 = .ok (.iload_n 3, 1) := by decide +kernel
theorem dX1_make_68 : decode cX1_make 68 = .ok (.imul, 1) := by decide +kernel
theorem dX1_make_69 : decode cX1_make 69 = .ok (.iload 4, 2) := by decide +kernel
theorem dX1_make_71 : decode cX1_make 71 = .ok (.iadd, 1) := by decide +kernel
theorem dX1_make_72 : decode cX1_make 72 = .ok (.iconst 0, 1) := by decide +kernel
theorem dX1_make_73 : decode cX1_make 73 = .ok (.iastore, 1) := by decide +kernel
theorem dX1_make_74 : decode cX1_make 74 = .ok (.aload_n 0, 1) := by decide +kernel
theorem dX1_make_75 : decode cX1_make 75 = .ok (.getfield 23, 3) := by decide +kernel
theorem dX1_make_78 : decode cX1_make 78 = .ok (.bipush 6, 2) := by decide +kernel
theorem dX1_make_80 : decode cX1_make 80 = .ok (.iload_n 3, 1) := by decide +kernel
theorem dX1_make_81 : decode cX1_make 81 = .ok (.imul, 1) := by decide +kernel
theorem dX1_make_82 : decode cX1_make 82 = .ok (.iload 4, 2) := by decide +kernel
theorem dX1_make_84 : decode cX1_make 84 = .ok (.iadd, 1) := by decide +kernel
theorem dX1_make_85 : decode cX1_make 85 = .ok (.iconst 0, 1) := by decide +kernel
theorem dX1_make_86 : decode cX1_make 86 = .ok (.iastore, 1) := by decide +kernel
theorem dX1_make_87 : decode cX1_make 87 = .ok (.iinc 4 1, 3) := by decide +kernel
theorem dX1_make_90 : decode cX1_make 90 = .ok (.goto (-36), 3) := by decide +kernel
theorem dX1_make_93 : decode cX1_make 93 = .ok (.aload_n 0, 1) := by decide +kernel
theorem dX1_make_94 : decode cX1_make 94 = .ok (.getfield 29, 3) := by decide +kernel
theorem dX1_make_97 : decode cX1_make 97 = .ok (.aload_n 0, 1) := by decide +kernel
theorem dX1_make_98 : decode cX1_make 98 = .ok (.getfield 42, 3) := by decide +kernel
theorem dX1_make_101 : decode cX1_make 101 = .ok (.iload_n 3, 1) := by decide +kernel
theorem dX1_make_102 : decode cX1_make 102 = .ok (.iastore, 1) := by decide +kernel
theorem dX1_make_103 : decode cX1_make 103 = .ok (.aload_n 0, 1) := by decide +kernel
theorem dX1_make_104 : decode cX1_make 104 = .ok (.dup, 1) := by decide +kernel
theorem dX1_make_105 : decode cX1_make 105 = .ok (.getfield 42, 3) := by decide +kernel
theorem dX1_make_108 : decode cX1_make 108 = .ok (.iconst 1, 1) := by decide +kernel
theorem dX1_make_109 : decode cX1_make 109 = .ok (.iadd, 1) := by decide +kernel
theorem dX1_make_110 : decode cX1_make 110 = .ok (.putfield 42, 3) := by decide +kernel
theorem dX1_make_113 : decode cX1_make 113 = .ok (.aload_n 0, 1) := by decide +kernel
theorem dX1_make_114 : decode cX1_make 114 = .ok (.getfield 35, 3) := by decide +kernel
theorem dX1_make_117 : decode cX1_make 117 = .ok (.iload_n 1, 1) := by decide +kernel
theorem dX1_make_118 : decode cX1_make 118 = .ok (.iload_n 3, 1) := by decide +kernel
theorem dX1_make_119 : decode cX1_make 119 = .ok (.iastore, 1) := by decide +kernel
theorem dX1_make_120 : decode cX1_make 120 = .ok (.aload_n 0, 1) := by decide +kernel
theorem dX1_make_121 : decode cX1_make 121 = .ok (.getfield 73, 3) := by decide +kernel
theorem dX1_make_124 : decode cX1_make 124 = .ok (.ireturn, 1) := by decide +kernel
theorem dX1_isRoot_0 : decode cX1_isRoot 0 = .ok (.iload_n 0, 1) := by decide +kernel
theorem dX1_isRoot_1 : decode cX1_isRoot 1 = .ok (.ifCond .lt 13, 3) := by decide +kernel
theorem dX1_isRoot_4 : decode cX1_isRoot 4 = .ok (.iload_n 0, 1) := by decide +kernel
theorem dX1_isRoot_5 : decode cX1_isRoot 5 = .ok (.bipush 7, 2) := by decide +kernel
theorem dX1_isRoot_7 : decode cX1_isRoot 7 = .ok (.if_icmp .gt 7, 3) := by decide +kernel
theorem dX1_isRoot_10 : decode cX1_isRoot 10 = .ok (.iconst 1, 1) := by decide +kernel
theorem dX1_isRoot_11 : decode cX1_isRoot 11 = .ok (.goto 4, 3) := by decide +kernel
theorem dX1_isRoot_14 : decode cX1_isRoot 14 = .ok (.iconst 0, 1) := by decide +kernel
theorem dX1_isRoot_15 : decode cX1_isRoot 15 = .ok (.ireturn, 1) := by decide +kernel
theorem dX1_isFields_0 : decode cX1_isFields 0 = .ok (.iload_n 0, 1) := by decide +kernel
theorem dX1_isFields_1 : decode cX1_isFields 1 = .ok (.ifCond .lt 13, 3) := by decide +kernel
theorem dX1_isFields_4 : decode cX1_isFields 4 = .ok (.iload_n 0, 1) := by decide +kernel
theorem dX1_isFields_5 : decode cX1_isFields 5 = .ok (.bipush 6, 2) := by decide +kernel
theorem dX1_isFields_7 : decode cX1_isFields 7 = .ok (.if_icmp .gt 7, 3) := by decide +kernel
theorem dX1_isFields_10 : decode cX1_isFields 10 = .ok (.iconst 1, 1) := by decide +kernel
theorem dX1_isFields_11 : decode cX1_isFields 11 = .ok (.goto 4, 3) := by decide +kernel
theorem dX1_isFields_14 : decode cX1_isFields 14 = .ok (.iconst 0, 1) := by decide +kernel
theorem dX1_isFields_15 : decode cX1_isFields 15 = .ok (.ireturn, 1) := by decide +kernel
theorem dX1_fits_0 : decode cX1_fits 0 = .ok (.aload_n 0, 1) := by decide +kernel
theorem dX1_fits_1 : decode cX1_fits 1 = .ok (.invokevirtual 66, 3) := by decide +kernel
theorem dX1_fits_4 : decode cX1_fits 4 = .ok (.iload_n 1, 1) := by decide +kernel
theorem dX1_fits_5 : decode cX1_fits 5 = .ok (.iadd, 1) := by decide +kernel
theorem dX1_fits_6 : decode cX1_fits 6 = .ok (.iconst 2, 1) := by decide +kernel
theorem dX1_fits_7 : decode cX1_fits 7 = .ok (.iadd, 1) := by decide +kernel
theorem dX1_fits_8 : decode cX1_fits 8 = .ok (.sipush 256, 3) := by decide +kernel
theorem dX1_fits_11 : decode cX1_fits 11 = .ok (.if_icmp .gt 7, 3) := by decide +kernel
theorem dX1_fits_14 : decode cX1_fits 14 = .ok (.iconst 1, 1) := by decide +kernel
theorem dX1_fits_15 : decode cX1_fits 15 = .ok (.goto 4, 3) := by decide +kernel
theorem dX1_fits_18 : decode cX1_fits 18 = .ok (.iconst 0, 1) := by decide +kernel
theorem dX1_fits_19 : decode cX1_fits 19 = .ok (.ireturn, 1) := by decide +kernel
theorem dX1_compact_0 : decode cX1_compact 0 = .ok (.aload_n 0, 1) := by decide +kernel
theorem dX1_compact_1 : decode cX1_compact 1 = .ok (.iload_n 1, 1) := by decide +kernel
theorem dX1_compact_2 : decode cX1_compact 2 = .ok (.ifCond .lt 8, 3) := by decide +kernel
theorem dX1_compact_5 : decode cX1_compact 5 = .ok (.iload_n 1, 1) := by decide +kernel
theorem dX1_compact_6 : decode cX1_compact 6 = .ok (.iconst 2, 1) := by decide +kernel
theorem dX1_compact_7 : decode cX1_compact 7 = .ok (.if_icmp .le 7, 3) := by decide +kernel
theorem dX1_compact_10 : decode cX1_compact 10 = .ok (.iconst 1, 1) := by decide +kernel
theorem dX1_compact_11 : decode cX1_compact 11 = .ok (.goto 20, 3) := by decide +kernel
theorem dX1_compact_14 : decode cX1_compact 14 = .ok (.iload_n 1, 1) := by decide +kernel
theorem dX1_compact_15 : decode cX1_compact 15 = .ok (.iconst 1, 1) := by decide +kernel
theorem dX1_compact_16 : decode cX1_compact 16 = .ok (.if_icmp .ne 14, 3) := by decide +kernel
theorem dX1_compact_19 : decode cX1_compact 19 = .ok (.aload_n 0, 1) := by decide +kernel
theorem dX1_compact_20 : decode cX1_compact 20 = .ok (.invokevirtual 62, 3) := by decide +kernel
theorem dX1_compact_23 : decode cX1_compact 23 = .ok (.ifCond .ne 7, 3) := by decide +kernel
theorem dX1_compact_26 : decode cX1_compact 26 = .ok (.iconst 2, 1) := by decide +kernel
theorem dX1_compact_27 : decode cX1_compact 27 = .ok (.goto 4, 3) := by decide +kernel
theorem dX1_compact_30 : decode cX1_compact 30 = .ok (.iconst 0, 1) := by decide +kernel
theorem dX1_compact_31 : decode cX1_compact 31 = .ok (.putfield 38, 3) := by decide +kernel
theorem dX1_compact_34 : decode cX1_compact 34 = .ok (.aload_n 0, 1) := by decide +kernel
theorem dX1_compact_35 : decode cX1_compact 35 = .ok (.getfield 38, 3) := by decide +kernel
theorem dX1_compact_38 : decode cX1_compact 38 = .ok (.ifCond .le 5, 3) := by decide +kernel
theorem dX1_compact_41 : decode cX1_compact 41 = .ok (.iconst 0, 1) := by decide +kernel
theorem dX1_compact_42 : decode cX1_compact 42 = .ok (.ireturn, 1) := by decide +kernel
theorem dX1_compact_43 : decode cX1_compact 43 = .ok (.aload_n 0, 1) := by decide +kernel
theorem dX1_compact_44 : decode cX1_compact 44 = .ok (.invokevirtual 66, 3) := by decide +kernel
theorem dX1_compact_47 : decode cX1_compact 47 = .ok (.istore_n 2, 1) := by decide +kernel
theorem dX1_compact_48 : decode cX1_compact 48 = .ok (.aload_n 0, 1) := by decide +kernel
theorem dX1_compact_49 : decode cX1_compact 49 = .ok (.iload_n 1, 1) := by decide +kernel
theorem dX1_compact_50 : decode cX1_compact 50 = .ok (.invokevirtual 69, 3) := by decide +kernel
theorem dX1_compact_53 : decode cX1_compact 53 = .ok (.iload_n 2, 1) := by decide +kernel
theorem dX1_compact_54 : decode cX1_compact 54 = .ok (.aload_n 0, 1) := by decide +kernel
theorem dX1_compact_55 : decode cX1_compact 55 = .ok (.invokevirtual 66, 3) := by decide +kernel
theorem dX1_compact_58 : decode cX1_compact 58 = .ok (.isub, 1) := by decide +kernel
theorem dX1_compact_59 : decode cX1_compact 59 = .ok (.ireturn, 1) := by decide +kernel
theorem dX1_allocate_0 : decode cX1_allocate 0 = .ok (.aload_n 0, 1) := by decide +kernel
theorem dX1_allocate_1 : decode cX1_allocate 1 = .ok (.iload_n 1, 1) := by decide +kernel
theorem dX1_allocate_2 : decode cX1_allocate 2 = .ok (.invokestatic 76, 3) := by decide +kernel
theorem dX1_allocate_5 : decode cX1_allocate 5 = .ok (.ifCond .ne 7, 3) := by decide +kernel
theorem dX1_allocate_8 : decode cX1_allocate 8 = .ok (.iconst 1, 1) := by decide +kernel
theorem dX1_allocate_9 : decode cX1_allocate 9 = .ok (.goto 27, 3) := by decide +kernel
theorem dX1_allocate_12 : decode cX1_allocate 12 = .ok (.iload_n 2, 1) := by decide +kernel
theorem dX1_allocate_13 : decode cX1_allocate 13 = .ok (.invokestatic 79, 3) := by decide +kernel
theorem dX1_allocate_16 : decode cX1_allocate 16 = .ok (.ifCond .ne 7, 3) := by decide +kernel
theorem dX1_allocate_19 : decode cX1_allocate 19 = .ok (.iconst 2, 1) := by decide +kernel
theorem dX1_allocate_20 : decode cX1_allocate 20 = .ok (.goto 16, 3) := by decide +kernel
theorem dX1_allocate_23 : decode cX1_allocate 23 = .ok (.aload_n 0, 1) := by decide +kernel
theorem dX1_allocate_24 : decode cX1_allocate 24 = .ok (.iload_n 2, 1) := by decide +kernel
theorem dX1_allocate_25 : decode cX1_allocate 25 = .ok (.invokevirtual 82, 3) := by decide +kernel
theorem dX1_allocate_28 : decode cX1_allocate 28 = .ok (.ifCond .eq 7, 3) := by decide +kernel
theorem dX1_allocate_31 : decode cX1_allocate 31 = .ok (.iconst 0, 1) := by decide +kernel
theorem dX1_allocate_32 : decode cX1_allocate 32 = .ok (.goto 4, 3) := by decide +kernel
theorem dX1_allocate_35 : decode cX1_allocate 35 = .ok (.iconst 3, 1) := by decide +kernel
theorem dX1_allocate_36 : decode cX1_allocate 36 = .ok (.putfield 38, 3) := by decide +kernel
theorem dX1_allocate_39 : decode cX1_allocate 39 = .ok (.aload_n 0, 1) := by decide +kernel
theorem dX1_allocate_40 : decode cX1_allocate 40 = .ok (.getfield 38, 3) := by decide +kernel
theorem dX1_allocate_43 : decode cX1_allocate 43 = .ok (.ifCond .le 7, 3) := by decide +kernel
theorem dX1_allocate_46 : decode cX1_allocate 46 = .ok (.iconst 0, 1) := by decide +kernel
theorem dX1_allocate_47 : decode cX1_allocate 47 = .ok (.goto 9, 3) := by decide +kernel
theorem dX1_allocate_50 : decode cX1_allocate 50 = .ok (.aload_n 0, 1) := by decide +kernel
theorem dX1_allocate_51 : decode cX1_allocate 51 = .ok (.iload_n 1, 1) := by decide +kernel
theorem dX1_allocate_52 : decode cX1_allocate 52 = .ok (.iload_n 2, 1) := by decide +kernel
theorem dX1_allocate_53 : decode cX1_allocate 53 = .ok (.invokevirtual 85, 3) := by decide +kernel
theorem dX1_allocate_56 : decode cX1_allocate 56 = .ok (.ireturn, 1) := by decide +kernel
theorem dX1_claim_0 : decode cX1_claim 0 = .ok (.aload_n 0, 1) := by decide +kernel
theorem dX1_claim_1 : decode cX1_claim 1 = .ok (.iload_n 1, 1) := by decide +kernel
theorem dX1_claim_2 : decode cX1_claim 2 = .ok (.invokestatic 76, 3) := by decide +kernel
theorem dX1_claim_5 : decode cX1_claim 5 = .ok (.ifCond .ne 7, 3) := by decide +kernel
theorem dX1_claim_8 : decode cX1_claim 8 = .ok (.iconst 1, 1) := by decide +kernel
theorem dX1_claim_9 : decode cX1_claim 9 = .ok (.goto 24, 3) := by decide +kernel
theorem dX1_claim_12 : decode cX1_claim 12 = .ok (.iload_n 2, 1) := by decide +kernel
theorem dX1_claim_13 : decode cX1_claim 13 = .ok (.invokestatic 79, 3) := by decide +kernel
theorem dX1_claim_16 : decode cX1_claim 16 = .ok (.ifCond .eq 12, 3) := by decide +kernel
theorem dX1_claim_19 : decode cX1_claim 19 = .ok (.iload_n 3, 1) := by decide +kernel
theorem dX1_claim_20 : decode cX1_claim 20 = .ok (.ifCond .lt 8, 3) := by decide +kernel
theorem dX1_claim_23 : decode cX1_claim 23 = .ok (.iload_n 3, 1) := by decide +kernel
theorem dX1_claim_24 : decode cX1_claim 24 = .ok (.iconst 2, 1) := by decide +kernel
theorem dX1_claim_25 : decode cX1_claim 25 = .ok (.if_icmp .le 7, 3) := by decide +kernel
theorem dX1_claim_28 : decode cX1_claim 28 = .ok (.iconst 2, 1) := by decide +kernel
theorem dX1_claim_29 : decode cX1_claim 29 = .ok (.goto 4, 3) := by decide +kernel
theorem dX1_claim_32 : decode cX1_claim 32 = .ok (.iconst 0, 1) := by decide +kernel
theorem dX1_claim_33 : decode cX1_claim 33 = .ok (.putfield 38, 3) := by decide +kernel
theorem dX1_claim_36 : decode cX1_claim 36 = .ok (.aload_n 0, 1) := by decide +kernel
theorem dX1_claim_37 : decode cX1_claim 37 = .ok (.getfield 38, 3) := by decide +kernel
theorem dX1_claim_40 : decode cX1_claim 40 = .ok (.ifCond .ne 61, 3) := by decide +kernel
theorem dX1_claim_43 : decode cX1_claim 43 = .ok (.aload_n 0, 1) := by decide +kernel
theorem dX1_claim_44 : decode cX1_claim 44 = .ok (.iload_n 2, 1) := by decide +kernel
theorem dX1_claim_45 : decode cX1_claim 45 = .ok (.invokevirtual 82, 3) := by decide +kernel
theorem dX1_claim_48 : decode cX1_claim 48 = .ok (.ifCond .ne 53, 3) := by decide +kernel
theorem dX1_claim_51 : decode cX1_claim 51 = .ok (.aload_n 0, 1) := by decide +kernel
theorem dX1_claim_52 : decode cX1_claim 52 = .ok (.iload_n 3, 1) := by decide +kernel
theorem dX1_claim_53 : decode cX1_claim 53 = .ok (.iconst 1, 1) := by decide +kernel
theorem dX1_claim_54 : decode cX1_claim 54 = .ok (.if_icmp .ne 14, 3) := by decide +kernel
theorem dX1_claim_57 : decode cX1_claim 57 = .ok (.aload_n 0, 1) := by decide +kernel
theorem dX1_claim_58 : decode cX1_claim 58 = .ok (.invokevirtual 62, 3) := by decide +kernel
theorem dX1_claim_61 : decode cX1_claim 61 = .ok (.ifCond .ne 7, 3) := by decide +kernel
theorem dX1_claim_64 : decode cX1_claim 64 = .ok (.iconst 3, 1) := by decide +kernel
theorem dX1_claim_65 : decode cX1_claim 65 = .ok (.goto 4, 3) := by decide +kernel
theorem dX1_claim_68 : decode cX1_claim 68 = .ok (.iconst 0, 1) := by decide +kernel
theorem dX1_claim_69 : decode cX1_claim 69 = .ok (.putfield 38, 3) := by decide +kernel
theorem dX1_claim_72 : decode cX1_claim 72 = .ok (.aload_n 0, 1) := by decide +kernel
theorem dX1_claim_73 : decode cX1_claim 73 = .ok (.getfield 38, 3) := by decide +kernel
theorem dX1_claim_76 : decode cX1_claim 76 = .ok (.ifCond .ne 25, 3) := by decide +kernel
theorem dX1_claim_79 : decode cX1_claim 79 = .ok (.aload_n 0, 1) := by decide +kernel
theorem dX1_claim_80 : decode cX1_claim 80 = .ok (.iload_n 3, 1) := by decide +kernel
theorem dX1_claim_81 : decode cX1_claim 81 = .ok (.invokevirtual 69, 3) := by decide +kernel
theorem dX1_claim_84 : decode cX1_claim 84 = .ok (.aload_n 0, 1) := by decide +kernel
theorem dX1_claim_85 : decode cX1_claim 85 = .ok (.aload_n 0, 1) := by decide +kernel
theorem dX1_claim_86 : decode cX1_claim 86 = .ok (.iload_n 2, 1) := by decide +kernel
theorem dX1_claim_87 : decode cX1_claim 87 = .ok (.invokevirtual 82, 3) := by decide +kernel
theorem dX1_claim_90 : decode cX1_claim 90 = .ok (.ifCond .eq 7, 3) := by decide +kernel
theorem dX1_claim_93 : decode cX1_claim 93 = .ok (.iconst 0, 1) := by decide +kernel
theorem dX1_claim_94 : decode cX1_claim 94 = .ok (.goto 4, 3) := by decide +kernel
theorem dX1_claim_97 : decode cX1_claim 97 = .ok (.iconst 4, 1) := by decide +kernel
theorem dX1_claim_98 : decode cX1_claim 98 = .ok (.putfield 38, 3) := by decide +kernel
theorem dX1_claim_101 : decode cX1_claim 101 = .ok (.aload_n 0, 1) := by decide +kernel
theorem dX1_claim_102 : decode cX1_claim 102 = .ok (.getfield 38, 3) := by decide +kernel
theorem dX1_claim_105 : decode cX1_claim 105 = .ok (.ifCond .le 7, 3) := by decide +kernel
theorem dX1_claim_108 : decode cX1_claim 108 = .ok (.iconst 0, 1) := by decide +kernel
theorem dX1_claim_109 : decode cX1_claim 109 = .ok (.goto 9, 3) := by decide +kernel
theorem dX1_claim_112 : decode cX1_claim 112 = .ok (.aload_n 0, 1) := by decide +kernel
theorem dX1_claim_113 : decode cX1_claim 113 = .ok (.iload_n 1, 1) := by decide +kernel
theorem dX1_claim_114 : decode cX1_claim 114 = .ok (.iload_n 2, 1) := by decide +kernel
theorem dX1_claim_115 : decode cX1_claim 115 = .ok (.invokevirtual 85, 3) := by decide +kernel
theorem dX1_claim_118 : decode cX1_claim 118 = .ok (.ireturn, 1) := by decide +kernel
theorem dX1_copy_0 : decode cX1_copy 0 = .ok (.aload_n 0, 1) := by decide +kernel
theorem dX1_copy_1 : decode cX1_copy 1 = .ok (.iload_n 1, 1) := by decide +kernel
theorem dX1_copy_2 : decode cX1_copy 2 = .ok (.invokestatic 76, 3) := by decide +kernel
theorem dX1_copy_5 : decode cX1_copy 5 = .ok (.ifCond .eq 14, 3) := by decide +kernel
theorem dX1_copy_8 : decode cX1_copy 8 = .ok (.iload_n 2, 1) := by decide +kernel
theorem dX1_copy_9 : decode cX1_copy 9 = .ok (.invokestatic 76, 3) := by decide +kernel
theorem dX1_copy_12 : decode cX1_copy 12 = .ok (.ifCond .eq 7, 3) := by decide +kernel
theorem dX1_copy_15 : decode cX1_copy 15 = .ok (.iconst 0, 1) := by decide +kernel
theorem dX1_copy_16 : decode cX1_copy 16 = .ok (.goto 4, 3) := by decide +kernel
theorem dX1_copy_19 : decode cX1_copy 19 = .ok (.iconst 1, 1) := by decide +kernel
theorem dX1_copy_20 : decode cX1_copy 20 = .ok (.putfield 38, 3) := by decide +kernel
theorem dX1_copy_23 : decode cX1_copy 23 = .ok (.aload_n 0, 1) := by decide +kernel
theorem dX1_copy_24 : decode cX1_copy 24 = .ok (.getfield 38, 3) := by decide +kernel
theorem dX1_copy_27 : decode cX1_copy 27 = .ok (.ifCond .ne 15, 3) := by decide +kernel
theorem dX1_copy_30 : decode cX1_copy 30 = .ok (.aload_n 0, 1) := by decide +kernel
theorem dX1_copy_31 : decode cX1_copy 31 = .ok (.getfield 35, 3) := by decide +kernel
theorem dX1_copy_34 : decode cX1_copy 34 = .ok (.iload_n 1, 1) := by decide +kernel
theorem dX1_copy_35 : decode cX1_copy 35 = .ok (.aload_n 0, 1) := by decide +kernel
theorem dX1_copy_36 : decode cX1_copy 36 = .ok (.getfield 35, 3) := by decide +kernel
theorem dX1_copy_39 : decode cX1_copy 39 = .ok (.iload_n 2, 1) := by decide +kernel
theorem dX1_copy_40 : decode cX1_copy 40 = .ok (.iaload, 1) := by decide +kernel
theorem dX1_copy_41 : decode cX1_copy 41 = .ok (.iastore, 1) := by decide +kernel
theorem dX1_copy_42 : decode cX1_copy 42 = .ok (.return_, 1) := by decide +kernel
theorem dX1_clear_0 : decode cX1_clear 0 = .ok (.aload_n 0, 1) := by decide +kernel
theorem dX1_clear_1 : decode cX1_clear 1 = .ok (.iload_n 1, 1) := by decide +kernel
theorem dX1_clear_2 : decode cX1_clear 2 = .ok (.invokestatic 76, 3) := by decide +kernel
theorem dX1_clear_5 : decode cX1_clear 5 = .ok (.ifCond .eq 7, 3) := by decide +kernel
theorem dX1_clear_8 : decode cX1_clear 8 = .ok (.iconst 0, 1) := by decide +kernel
theorem dX1_clear_9 : decode cX1_clear 9 = .ok (.goto 4, 3) := by decide +kernel
theorem dX1_clear_12 : decode cX1_clear 12 = .ok (.iconst 1, 1) := by decide +kernel
theorem dX1_clear_13 : decode cX1_clear 13 = .ok (.putfield 38, 3) := by decide +kernel
theorem dX1_clear_16 : decode cX1_clear 16 = .ok (.aload_n 0, 1) := by decide +kernel
theorem dX1_clear_17 : decode cX1_clear 17 = .ok (.getfield 38, 3) := by decide +kernel
theorem dX1_clear_20 : decode cX1_clear 20 = .ok (.ifCond .ne 10, 3) := by decide +kernel
theorem dX1_clear_23 : decode cX1_clear 23 = .ok (.aload_n 0, 1) := by decide +kernel
theorem dX1_clear_24 : decode cX1_clear 24 = .ok (.getfield 35, 3) := by decide +kernel
theorem dX1_clear_27 : decode cX1_clear 27 = .ok (.iload_n 1, 1) := by decide +kernel
theorem dX1_clear_28 : decode cX1_clear 28 = .ok (.iconst (-1), 1) := by decide +kernel
theorem dX1_clear_29 : decode cX1_clear 29 = .ok (.iastore, 1) := by decide +kernel
theorem dX1_clear_30 : decode cX1_clear 30 = .ok (.return_, 1) := by decide +kernel
theorem dX1_bar_0 : decode cX1_bar 0 = .ok (.iload_n 1, 1) := by decide +kernel
theorem dX1_bar_1 : decode cX1_bar 1 = .ok (.invokestatic 76, 3) := by decide +kernel
theorem dX1_bar_4 : decode cX1_bar 4 = .ok (.ifCond .ne 7, 3) := by decide +kernel
theorem dX1_bar_7 : decode cX1_bar 7 = .ok (.iconst 1, 1) := by decide +kernel
theorem dX1_bar_8 : decode cX1_bar 8 = .ok (.goto 40, 3) := by decide +kernel
theorem dX1_bar_11 : decode cX1_bar 11 = .ok (.aload_n 0, 1) := by decide +kernel
theorem dX1_bar_12 : decode cX1_bar 12 = .ok (.getfield 35, 3) := by decide +kernel
theorem dX1_bar_15 : decode cX1_bar 15 = .ok (.iload_n 1, 1) := by decide +kernel
theorem dX1_bar_16 : decode cX1_bar 16 = .ok (.iaload, 1) := by decide +kernel
theorem dX1_bar_17 : decode cX1_bar 17 = .ok (.ifCond .ge 7, 3) := by decide +kernel
theorem dX1_bar_20 : decode cX1_bar 20 = .ok (.iconst 2, 1) := by decide +kernel
theorem dX1_bar_21 : decode cX1_bar 21 = .ok (.goto 27, 3) := by decide +kernel
theorem dX1_bar_24 : decode cX1_bar 24 = .ok (.iload_n 2, 1) := by decide +kernel
theorem dX1_bar_25 : decode cX1_bar 25 = .ok (.ifCond .lt 18, 3) := by decide +kernel
theorem dX1_bar_28 : decode cX1_bar 28 = .ok (.iload_n 2, 1) := by decide +kernel
theorem dX1_bar_29 : decode cX1_bar 29 = .ok (.aload_n 0, 1) := by decide +kernel
theorem dX1_bar_30 : decode cX1_bar 30 = .ok (.getfield 13, 3) := by decide +kernel
theorem dX1_bar_33 : decode cX1_bar 33 = .ok (.aload_n 0, 1) := by decide +kernel
theorem dX1_bar_34 : decode cX1_bar 34 = .ok (.getfield 35, 3) := by decide +kernel
theorem dX1_bar_37 : decode cX1_bar 37 = .ok (.iload_n 1, 1) := by decide +kernel
theorem dX1_bar_38 : decode cX1_bar 38 = .ok (.iaload, 1) := by decide +kernel
theorem dX1_bar_39 : decode cX1_bar 39 = .ok (.iaload, 1) := by decide +kernel
theorem dX1_bar_40 : decode cX1_bar 40 = .ok (.if_icmp .lt 7, 3) := by decide +kernel
theorem dX1_bar_43 : decode cX1_bar 43 = .ok (.iconst 1, 1) := by decide +kernel
theorem dX1_bar_44 : decode cX1_bar 44 = .ok (.goto 4, 3) := by decide +kernel
theorem dX1_bar_47 : decode cX1_bar 47 = .ok (.iconst 0, 1) := by decide +kernel
theorem dX1_bar_48 : decode cX1_bar 48 = .ok (.ireturn, 1) := by decide +kernel
theorem dX1_set_0 : decode cX1_set 0 = .ok (.aload_n 0, 1) := by decide +kernel
theorem dX1_set_1 : decode cX1_set 1 = .ok (.getfield 20, 3) := by decide +kernel
theorem dX1_set_4 : decode cX1_set 4 = .ok (.bipush 6, 2) := by decide +kernel
theorem dX1_set_6 : decode cX1_set 6 = .ok (.aload_n 0, 1) := by decide +kernel
theorem dX1_set_7 : decode cX1_set 7 = .ok (.getfield 35, 3) := by decide +kernel
theorem dX1_set_10 : decode cX1_set 10 = .ok (.iload_n 1, 1) := by decide +kernel
theorem dX1_set_11 : decode cX1_set 11 = .ok (.iaload, 1) := by decide +kernel
theorem dX1_set_12 : decode cX1_set 12 = .ok (.imul, 1) := by decide +kernel
theorem dX1_set_13 : decode cX1_set 13 = .ok (.iload_n 2, 1) := by decide +kernel
theorem dX1_set_14 : decode cX1_set 14 = .ok (.iadd, 1) := by decide +kernel
theorem dX1_set_15 : decode cX1_set 15 = .ok (.iload_n 3, 1) := by decide +kernel
theorem dX1_set_16 : decode cX1_set 16 = .ok (.iastore, 1) := by decide +kernel
theorem dX1_set_17 : decode cX1_set 17 = .ok (.aload_n 0, 1) := by decide +kernel
theorem dX1_set_18 : decode cX1_set 18 = .ok (.getfield 23, 3) := by decide +kernel
theorem dX1_set_21 : decode cX1_set 21 = .ok (.bipush 6, 2) := by decide +kernel
theorem dX1_set_23 : decode cX1_set 23 = .ok (.aload_n 0, 1) := by decide +kernel
theorem dX1_set_24 : decode cX1_set 24 = .ok (.getfield 35, 3) := by decide +kernel
theorem dX1_set_27 : decode cX1_set 27 = .ok (.iload_n 1, 1) := by decide +kernel
theorem dX1_set_28 : decode cX1_set 28 = .ok (.iaload, 1) := by decide +kernel
theorem dX1_set_29 : decode cX1_set 29 = .ok (.imul, 1) := by decide +kernel
theorem dX1_set_30 : decode cX1_set 30 = .ok (.iload_n 2, 1) := by decide +kernel
theorem dX1_set_31 : decode cX1_set 31 = .ok (.iadd, 1) := by decide +kernel
theorem dX1_set_32 : decode cX1_set 32 = .ok (.iload 4, 2) := by decide +kernel
theorem dX1_set_34 : decode cX1_set 34 = .ok (.iastore, 1) := by decide +kernel
theorem dX1_set_35 : decode cX1_set 35 = .ok (.return_, 1) := by decide +kernel
theorem dX1_put_0 : decode cX1_put 0 = .ok (.aload_n 0, 1) := by decide +kernel
theorem dX1_put_1 : decode cX1_put 1 = .ok (.aload_n 0, 1) := by decide +kernel
theorem dX1_put_2 : decode cX1_put 2 = .ok (.iload_n 1, 1) := by decide +kernel
theorem dX1_put_3 : decode cX1_put 3 = .ok (.iload_n 2, 1) := by decide +kernel
theorem dX1_put_4 : decode cX1_put 4 = .ok (.invokevirtual 89, 3) := by decide +kernel
theorem dX1_put_7 : decode cX1_put 7 = .ok (.putfield 38, 3) := by decide +kernel
theorem dX1_put_10 : decode cX1_put 10 = .ok (.aload_n 0, 1) := by decide +kernel
theorem dX1_put_11 : decode cX1_put 11 = .ok (.getfield 38, 3) := by decide +kernel
theorem dX1_put_14 : decode cX1_put 14 = .ok (.ifCond .ne 11, 3) := by decide +kernel
theorem dX1_put_17 : decode cX1_put 17 = .ok (.aload_n 0, 1) := by decide +kernel
theorem dX1_put_18 : decode cX1_put 18 = .ok (.iload_n 1, 1) := by decide +kernel
theorem dX1_put_19 : decode cX1_put 19 = .ok (.iload_n 2, 1) := by decide +kernel
theorem dX1_put_20 : decode cX1_put 20 = .ok (.iconst 0, 1) := by decide +kernel
theorem dX1_put_21 : decode cX1_put 21 = .ok (.iload_n 3, 1) := by decide +kernel
theorem dX1_put_22 : decode cX1_put 22 = .ok (.invokevirtual 92, 3) := by decide +kernel
theorem dX1_put_25 : decode cX1_put 25 = .ok (.return_, 1) := by decide +kernel
theorem dX1_refer_0 : decode cX1_refer 0 = .ok (.aload_n 0, 1) := by decide +kernel
theorem dX1_refer_1 : decode cX1_refer 1 = .ok (.iload_n 3, 1) := by decide +kernel
theorem dX1_refer_2 : decode cX1_refer 2 = .ok (.invokestatic 76, 3) := by decide +kernel
theorem dX1_refer_5 : decode cX1_refer 5 = .ok (.ifCond .eq 12, 3) := by decide +kernel
theorem dX1_refer_8 : decode cX1_refer 8 = .ok (.aload_n 0, 1) := by decide +kernel
theorem dX1_refer_9 : decode cX1_refer 9 = .ok (.iload_n 1, 1) := by decide +kernel
theorem dX1_refer_10 : decode cX1_refer 10 = .ok (.iload_n 2, 1) := by decide +kernel
theorem dX1_refer_11 : decode cX1_refer 11 = .ok (.invokevirtual 89, 3) := by decide +kernel
theorem dX1_refer_14 : decode cX1_refer 14 = .ok (.goto 4, 3) := by decide +kernel
theorem dX1_refer_17 : decode cX1_refer 17 = .ok (.iconst 1, 1) := by decide +kernel
theorem dX1_refer_18 : decode cX1_refer 18 = .ok (.putfield 38, 3) := by decide +kernel
theorem dX1_refer_21 : decode cX1_refer 21 = .ok (.aload_n 0, 1) := by decide +kernel
theorem dX1_refer_22 : decode cX1_refer 22 = .ok (.getfield 38, 3) := by decide +kernel
theorem dX1_refer_25 : decode cX1_refer 25 = .ok (.ifCond .ne 25, 3) := by decide +kernel
theorem dX1_refer_28 : decode cX1_refer 28 = .ok (.aload_n 0, 1) := by decide +kernel
theorem dX1_refer_29 : decode cX1_refer 29 = .ok (.iload_n 1, 1) := by decide +kernel
theorem dX1_refer_30 : decode cX1_refer 30 = .ok (.iload_n 2, 1) := by decide +kernel
theorem dX1_refer_31 : decode cX1_refer 31 = .ok (.iload 4, 2) := by decide +kernel
theorem dX1_refer_33 : decode cX1_refer 33 = .ok (.ifCond .eq 7, 3) := by decide +kernel
theorem dX1_refer_36 : decode cX1_refer 36 = .ok (.iconst 2, 1) := by decide +kernel
theorem dX1_refer_37 : decode cX1_refer 37 = .ok (.goto 4, 3) := by decide +kernel
theorem dX1_refer_40 : decode cX1_refer 40 = .ok (.iconst 1, 1) := by decide +kernel
theorem dX1_refer_41 : decode cX1_refer 41 = .ok (.aload_n 0, 1) := by decide +kernel
theorem dX1_refer_42 : decode cX1_refer 42 = .ok (.getfield 35, 3) := by decide +kernel
theorem dX1_refer_45 : decode cX1_refer 45 = .ok (.iload_n 3, 1) := by decide +kernel
theorem dX1_refer_46 : decode cX1_refer 46 = .ok (.iaload, 1) := by decide +kernel
theorem dX1_refer_47 : decode cX1_refer 47 = .ok (.invokevirtual 92, 3) := by decide +kernel
theorem dX1_refer_50 : decode cX1_refer 50 = .ok (.return_, 1) := by decide +kernel
theorem dX1_follow_0 : decode cX1_follow 0 = .ok (.aload_n 0, 1) := by decide +kernel
theorem dX1_follow_1 : decode cX1_follow 1 = .ok (.iload_n 3, 1) := by decide +kernel
theorem dX1_follow_2 : decode cX1_follow 2 = .ok (.invokestatic 76, 3) := by decide +kernel
theorem dX1_follow_5 : decode cX1_follow 5 = .ok (.ifCond .eq 12, 3) := by decide +kernel
theorem dX1_follow_8 : decode cX1_follow 8 = .ok (.aload_n 0, 1) := by decide +kernel
theorem dX1_follow_9 : decode cX1_follow 9 = .ok (.iload_n 1, 1) := by decide +kernel
theorem dX1_follow_10 : decode cX1_follow 10 = .ok (.iload_n 2, 1) := by decide +kernel
theorem dX1_follow_11 : decode cX1_follow 11 = .ok (.invokevirtual 89, 3) := by decide +kernel
theorem dX1_follow_14 : decode cX1_follow 14 = .ok (.goto 4, 3) := by decide +kernel
theorem dX1_follow_17 : decode cX1_follow 17 = .ok (.iconst 1, 1) := by decide +kernel
theorem dX1_follow_18 : decode cX1_follow 18 = .ok (.putfield 38, 3) := by decide +kernel
theorem dX1_follow_21 : decode cX1_follow 21 = .ok (.aload_n 0, 1) := by decide +kernel
theorem dX1_follow_22 : decode cX1_follow 22 = .ok (.getfield 38, 3) := by decide +kernel
theorem dX1_follow_25 : decode cX1_follow 25 = .ok (.ifCond .ne 27, 3) := by decide +kernel
theorem dX1_follow_28 : decode cX1_follow 28 = .ok (.aload_n 0, 1) := by decide +kernel
theorem dX1_follow_29 : decode cX1_follow 29 = .ok (.getfield 20, 3) := by decide +kernel
theorem dX1_follow_32 : decode cX1_follow 32 = .ok (.bipush 6, 2) := by decide +kernel
theorem dX1_follow_34 : decode cX1_follow 34 = .ok (.aload_n 0, 1) := by decide +kernel
theorem dX1_follow_35 : decode cX1_follow 35 = .ok (.getfield 35, 3) := by decide +kernel
theorem dX1_follow_38 : decode cX1_follow 38 = .ok (.iload_n 1, 1) := by decide +kernel
theorem dX1_follow_39 : decode cX1_follow 39 = .ok (.iaload, 1) := by decide +kernel
theorem dX1_follow_40 : decode cX1_follow 40 = .ok (.imul, 1) := by decide +kernel
theorem dX1_follow_41 : decode cX1_follow 41 = .ok (.iload_n 2, 1) := by decide +kernel
theorem dX1_follow_42 : decode cX1_follow 42 = .ok (.iadd, 1) := by decide +kernel
theorem dX1_follow_43 : decode cX1_follow 43 = .ok (.iaload, 1) := by decide +kernel
theorem dX1_follow_44 : decode cX1_follow 44 = .ok (.ifCond .ne 8, 3) := by decide +kernel
theorem dX1_follow_47 : decode cX1_follow 47 = .ok (.aload_n 0, 1) := by decide +kernel
theorem dX1_follow_48 : decode cX1_follow 48 = .ok (.iconst 3, 1) := by decide +kernel
theorem dX1_follow_49 : decode cX1_follow 49 = .ok (.putfield 38, 3) := by decide +kernel
theorem dX1_follow_52 : decode cX1_follow 52 = .ok (.aload_n 0, 1) := by decide +kernel
theorem dX1_follow_53 : decode cX1_follow 53 = .ok (.getfield 38, 3) := by decide +kernel
theorem dX1_follow_56 : decode cX1_follow 56 = .ok (.ifCond .le 5, 3) := by decide +kernel
theorem dX1_follow_59 : decode cX1_follow 59 = .ok (.iconst 0, 1) := by decide +kernel
theorem dX1_follow_60 : decode cX1_follow 60 = .ok (.ireturn, 1) := by decide +kernel
theorem dX1_follow_61 : decode cX1_follow 61 = .ok (.aload_n 0, 1) := by decide +kernel
theorem dX1_follow_62 : decode cX1_follow 62 = .ok (.getfield 35, 3) := by decide +kernel
theorem dX1_follow_65 : decode cX1_follow 65 = .ok (.iload_n 3, 1) := by decide +kernel
theorem dX1_follow_66 : decode cX1_follow 66 = .ok (.aload_n 0, 1) := by decide +kernel
theorem dX1_follow_67 : decode cX1_follow 67 = .ok (.getfield 23, 3) := by decide +kernel
theorem dX1_follow_70 : decode cX1_follow 70 = .ok (.bipush 6, 2) := by decide +kernel
theorem dX1_follow_72 : decode cX1_follow 72 = .ok (.aload_n 0, 1) := by decide +kernel
theorem dX1_follow_73 : decode cX1_follow 73 = .ok (.getfield 35, 3) := by decide +kernel
theorem dX1_follow_76 : decode cX1_follow 76 = .ok (.iload_n 1, 1) := by decide +kernel
theorem dX1_follow_77 : decode cX1_follow 77 = .ok (.iaload, 1) := by decide +kernel
theorem dX1_follow_78 : decode cX1_follow 78 = .ok (.imul, 1) := by decide +kernel
theorem dX1_follow_79 : decode cX1_follow 79 = .ok (.iload_n 2, 1) := by decide +kernel
theorem dX1_follow_80 : decode cX1_follow 80 = .ok (.iadd, 1) := by decide +kernel
theorem dX1_follow_81 : decode cX1_follow 81 = .ok (.iaload, 1) := by decide +kernel
theorem dX1_follow_82 : decode cX1_follow 82 = .ok (.iastore, 1) := by decide +kernel
theorem dX1_follow_83 : decode cX1_follow 83 = .ok (.aload_n 0, 1) := by decide +kernel
theorem dX1_follow_84 : decode cX1_follow 84 = .ok (.getfield 35, 3) := by decide +kernel
theorem dX1_follow_87 : decode cX1_follow 87 = .ok (.iload_n 3, 1) := by decide +kernel
theorem dX1_follow_88 : decode cX1_follow 88 = .ok (.iaload, 1) := by decide +kernel
theorem dX1_follow_89 : decode cX1_follow 89 = .ok (.ifCond .lt 7, 3) := by decide +kernel
theorem dX1_follow_92 : decode cX1_follow 92 = .ok (.iconst 1, 1) := by decide +kernel
theorem dX1_follow_93 : decode cX1_follow 93 = .ok (.goto 4, 3) := by decide +kernel
theorem dX1_follow_96 : decode cX1_follow 96 = .ok (.iconst 0, 1) := by decide +kernel
theorem dX1_follow_97 : decode cX1_follow 97 = .ok (.ireturn, 1) := by decide +kernel
theorem dX1_kind_0 : decode cX1_kind 0 = .ok (.aload_n 0, 1) := by decide +kernel
theorem dX1_kind_1 : decode cX1_kind 1 = .ok (.aload_n 0, 1) := by decide +kernel
theorem dX1_kind_2 : decode cX1_kind 2 = .ok (.iload_n 1, 1) := by decide +kernel
theorem dX1_kind_3 : decode cX1_kind 3 = .ok (.iload_n 2, 1) := by decide +kernel
theorem dX1_kind_4 : decode cX1_kind 4 = .ok (.invokevirtual 89, 3) := by decide +kernel
theorem dX1_kind_7 : decode cX1_kind 7 = .ok (.putfield 38, 3) := by decide +kernel
theorem dX1_kind_10 : decode cX1_kind 10 = .ok (.aload_n 0, 1) := by decide +kernel
theorem dX1_kind_11 : decode cX1_kind 11 = .ok (.getfield 38, 3) := by decide +kernel
theorem dX1_kind_14 : decode cX1_kind 14 = .ok (.ifCond .le 7, 3) := by decide +kernel
theorem dX1_kind_17 : decode cX1_kind 17 = .ok (.iconst 0, 1) := by decide +kernel
theorem dX1_kind_18 : decode cX1_kind 18 = .ok (.goto 19, 3) := by decide +kernel
theorem dX1_kind_21 : decode cX1_kind 21 = .ok (.aload_n 0, 1) := by decide +kernel
theorem dX1_kind_22 : decode cX1_kind 22 = .ok (.getfield 20, 3) := by decide +kernel
theorem dX1_kind_25 : decode cX1_kind 25 = .ok (.bipush 6, 2) := by decide +kernel
theorem dX1_kind_27 : decode cX1_kind 27 = .ok (.aload_n 0, 1) := by decide +kernel
theorem dX1_kind_28 : decode cX1_kind 28 = .ok (.getfield 35, 3) := by decide +kernel
theorem dX1_kind_31 : decode cX1_kind 31 = .ok (.iload_n 1, 1) := by decide +kernel
theorem dX1_kind_32 : decode cX1_kind 32 = .ok (.iaload, 1) := by decide +kernel
theorem dX1_kind_33 : decode cX1_kind 33 = .ok (.imul, 1) := by decide +kernel
theorem dX1_kind_34 : decode cX1_kind 34 = .ok (.iload_n 2, 1) := by decide +kernel
theorem dX1_kind_35 : decode cX1_kind 35 = .ok (.iadd, 1) := by decide +kernel
theorem dX1_kind_36 : decode cX1_kind 36 = .ok (.iaload, 1) := by decide +kernel
theorem dX1_kind_37 : decode cX1_kind 37 = .ok (.ireturn, 1) := by decide +kernel
theorem dX1_serial_0 : decode cX1_serial 0 = .ok (.aload_n 0, 1) := by decide +kernel
theorem dX1_serial_1 : decode cX1_serial 1 = .ok (.iload_n 1, 1) := by decide +kernel
theorem dX1_serial_2 : decode cX1_serial 2 = .ok (.invokestatic 76, 3) := by decide +kernel
theorem dX1_serial_5 : decode cX1_serial 5 = .ok (.ifCond .eq 7, 3) := by decide +kernel
theorem dX1_serial_8 : decode cX1_serial 8 = .ok (.iconst 0, 1) := by decide +kernel
theorem dX1_serial_9 : decode cX1_serial 9 = .ok (.goto 4, 3) := by decide +kernel
theorem dX1_serial_12 : decode cX1_serial 12 = .ok (.iconst 1, 1) := by decide +kernel
theorem dX1_serial_13 : decode cX1_serial 13 = .ok (.putfield 38, 3) := by decide +kernel
theorem dX1_serial_16 : decode cX1_serial 16 = .ok (.aload_n 0, 1) := by decide +kernel
theorem dX1_serial_17 : decode cX1_serial 17 = .ok (.getfield 38, 3) := by decide +kernel
theorem dX1_serial_20 : decode cX1_serial 20 = .ok (.ifCond .le 7, 3) := by decide +kernel
theorem dX1_serial_23 : decode cX1_serial 23 = .ok (.iconst 0, 1) := by decide +kernel
theorem dX1_serial_24 : decode cX1_serial 24 = .ok (.goto 27, 3) := by decide +kernel
theorem dX1_serial_27 : decode cX1_serial 27 = .ok (.aload_n 0, 1) := by decide +kernel
theorem dX1_serial_28 : decode cX1_serial 28 = .ok (.getfield 35, 3) := by decide +kernel
theorem dX1_serial_31 : decode cX1_serial 31 = .ok (.iload_n 1, 1) := by decide +kernel
theorem dX1_serial_32 : decode cX1_serial 32 = .ok (.iaload, 1) := by decide +kernel
theorem dX1_serial_33 : decode cX1_serial 33 = .ok (.ifCond .ge 7, 3) := by decide +kernel
theorem dX1_serial_36 : decode cX1_serial 36 = .ok (.iconst (-1), 1) := by decide +kernel
theorem dX1_serial_37 : decode cX1_serial 37 = .ok (.goto 14, 3) := by decide +kernel
theorem dX1_serial_40 : decode cX1_serial 40 = .ok (.aload_n 0, 1) := by decide +kernel
theorem dX1_serial_41 : decode cX1_serial 41 = .ok (.getfield 17, 3) := by decide +kernel
theorem dX1_serial_44 : decode cX1_serial 44 = .ok (.aload_n 0, 1) := by decide +kernel
theorem dX1_serial_45 : decode cX1_serial 45 = .ok (.getfield 35, 3) := by decide +kernel
theorem dX1_serial_48 : decode cX1_serial 48 = .ok (.iload_n 1, 1) := by decide +kernel
theorem dX1_serial_49 : decode cX1_serial 49 = .ok (.iaload, 1) := by decide +kernel
theorem dX1_serial_50 : decode cX1_serial 50 = .ok (.iaload, 1) := by decide +kernel
theorem dX1_serial_51 : decode cX1_serial 51 = .ok (.ireturn, 1) := by decide +kernel
theorem dX1_address_0 : decode cX1_address 0 = .ok (.aload_n 0, 1) := by decide +kernel
theorem dX1_address_1 : decode cX1_address 1 = .ok (.iload_n 1, 1) := by decide +kernel
theorem dX1_address_2 : decode cX1_address 2 = .ok (.invokestatic 76, 3) := by decide +kernel
theorem dX1_address_5 : decode cX1_address 5 = .ok (.ifCond .eq 7, 3) := by decide +kernel
theorem dX1_address_8 : decode cX1_address 8 = .ok (.iconst 0, 1) := by decide +kernel
theorem dX1_address_9 : decode cX1_address 9 = .ok (.goto 4, 3) := by decide +kernel
theorem dX1_address_12 : decode cX1_address 12 = .ok (.iconst 1, 1) := by decide +kernel
theorem dX1_address_13 : decode cX1_address 13 = .ok (.putfield 38, 3) := by decide +kernel
theorem dX1_address_16 : decode cX1_address 16 = .ok (.aload_n 0, 1) := by decide +kernel
theorem dX1_address_17 : decode cX1_address 17 = .ok (.getfield 38, 3) := by decide +kernel
theorem dX1_address_20 : decode cX1_address 20 = .ok (.ifCond .le 7, 3) := by decide +kernel
theorem dX1_address_23 : decode cX1_address 23 = .ok (.iconst 0, 1) := by decide +kernel
theorem dX1_address_24 : decode cX1_address 24 = .ok (.goto 13, 3) := by decide +kernel
theorem dX1_address_27 : decode cX1_address 27 = .ok (.aload_n 0, 1) := by decide +kernel
theorem dX1_address_28 : decode cX1_address 28 = .ok (.aload_n 0, 1) := by decide +kernel
theorem dX1_address_29 : decode cX1_address 29 = .ok (.getfield 35, 3) := by decide +kernel
theorem dX1_address_32 : decode cX1_address 32 = .ok (.iload_n 1, 1) := by decide +kernel
theorem dX1_address_33 : decode cX1_address 33 = .ok (.iaload, 1) := by decide +kernel
theorem dX1_address_34 : decode cX1_address 34 = .ok (.invokevirtual 96, 3) := by decide +kernel
theorem dX1_address_37 : decode cX1_address 37 = .ok (.ireturn, 1) := by decide +kernel
theorem dX1_wordOf_0 : decode cX1_wordOf 0 = .ok (.iload_n 2, 1) := by decide +kernel
theorem dX1_wordOf_1 : decode cX1_wordOf 1 = .ok (.iconst 1, 1) := by decide +kernel
theorem dX1_wordOf_2 : decode cX1_wordOf 2 = .ok (.if_icmp .ne 10, 3) := by decide +kernel
theorem dX1_wordOf_5 : decode cX1_wordOf 5 = .ok (.aload_n 0, 1) := by decide +kernel
theorem dX1_wordOf_6 : decode cX1_wordOf 6 = .ok (.getfield 17, 3) := by decide +kernel
theorem dX1_wordOf_9 : decode cX1_wordOf 9 = .ok (.iload_n 1, 1) := by decide +kernel
theorem dX1_wordOf_10 : decode cX1_wordOf 10 = .ok (.iaload, 1) := by decide +kernel
theorem dX1_wordOf_11 : decode cX1_wordOf 11 = .ok (.ireturn, 1) := by decide +kernel
theorem dX1_wordOf_12 : decode cX1_wordOf 12 = .ok (.iload_n 2, 1) := by decide +kernel
theorem dX1_wordOf_13 : decode cX1_wordOf 13 = .ok (.iconst 1, 1) := by decide +kernel
theorem dX1_wordOf_14 : decode cX1_wordOf 14 = .ok (.if_icmp .le 41, 3) := by decide +kernel
theorem dX1_wordOf_17 : decode cX1_wordOf 17 = .ok (.bipush 6, 2) := by decide +kernel
theorem dX1_wordOf_19 : decode cX1_wordOf 19 = .ok (.iload_n 1, 1) := by decide +kernel
theorem dX1_wordOf_20 : decode cX1_wordOf 20 = .ok (.imul, 1) := by decide +kernel
theorem dX1_wordOf_21 : decode cX1_wordOf 21 = .ok (.iload_n 2, 1) := by decide +kernel
theorem dX1_wordOf_22 : decode cX1_wordOf 22 = .ok (.iadd, 1) := by decide +kernel
theorem dX1_wordOf_23 : decode cX1_wordOf 23 = .ok (.iconst 2, 1) := by decide +kernel
theorem dX1_wordOf_24 : decode cX1_wordOf 24 = .ok (.isub, 1) := by decide +kernel
theorem dX1_wordOf_25 : decode cX1_wordOf 25 = .ok (.istore_n 3, 1) := by decide +kernel
theorem dX1_wordOf_26 : decode cX1_wordOf 26 = .ok (.aload_n 0, 1) := by decide +kernel
theorem dX1_wordOf_27 : decode cX1_wordOf 27 = .ok (.getfield 20, 3) := by decide +kernel
theorem dX1_wordOf_30 : decode cX1_wordOf 30 = .ok (.iload_n 3, 1) := by decide +kernel
theorem dX1_wordOf_31 : decode cX1_wordOf 31 = .ok (.iaload, 1) := by decide +kernel
theorem dX1_wordOf_32 : decode cX1_wordOf 32 = .ok (.ifCond .ne 12, 3) := by decide +kernel
theorem dX1_wordOf_35 : decode cX1_wordOf 35 = .ok (.aload_n 0, 1) := by decide +kernel
theorem dX1_wordOf_36 : decode cX1_wordOf 36 = .ok (.getfield 23, 3) := by decide +kernel
theorem dX1_wordOf_39 : decode cX1_wordOf 39 = .ok (.iload_n 3, 1) := by decide +kernel
theorem dX1_wordOf_40 : decode cX1_wordOf 40 = .ok (.iaload, 1) := by decide +kernel
theorem dX1_wordOf_41 : decode cX1_wordOf 41 = .ok (.goto 13, 3) := by decide +kernel
theorem dX1_wordOf_44 : decode cX1_wordOf 44 = .ok (.aload_n 0, 1) := by decide +kernel
theorem dX1_wordOf_45 : decode cX1_wordOf 45 = .ok (.aload_n 0, 1) := by decide +kernel
theorem dX1_wordOf_46 : decode cX1_wordOf 46 = .ok (.getfield 23, 3) := by decide +kernel
theorem dX1_wordOf_49 : decode cX1_wordOf 49 = .ok (.iload_n 3, 1) := by decide +kernel
theorem dX1_wordOf_50 : decode cX1_wordOf 50 = .ok (.iaload, 1) := by decide +kernel
theorem dX1_wordOf_51 : decode cX1_wordOf 51 = .ok (.invokevirtual 96, 3) := by decide +kernel
theorem dX1_wordOf_54 : decode cX1_wordOf 54 = .ok (.ireturn, 1) := by decide +kernel
theorem dX1_wordOf_55 : decode cX1_wordOf 55 = .ok (.aload_n 0, 1) := by decide +kernel
theorem dX1_wordOf_56 : decode cX1_wordOf 56 = .ok (.getfield 13, 3) := by decide +kernel
theorem dX1_wordOf_59 : decode cX1_wordOf 59 = .ok (.iload_n 1, 1) := by decide +kernel
theorem dX1_wordOf_60 : decode cX1_wordOf 60 = .ok (.iaload, 1) := by decide +kernel
theorem dX1_wordOf_61 : decode cX1_wordOf 61 = .ok (.istore_n 3, 1) := by decide +kernel
theorem dX1_wordOf_62 : decode cX1_wordOf 62 = .ok (.iconst 0, 1) := by decide +kernel
theorem dX1_wordOf_63 : decode cX1_wordOf 63 = .ok (.istore 4, 2) := by decide +kernel
theorem dX1_wordOf_65 : decode cX1_wordOf 65 = .ok (.iload 4, 2) := by decide +kernel
theorem dX1_wordOf_67 : decode cX1_wordOf 67 = .ok (.aload_n 0, 1) := by decide +kernel
theorem dX1_wordOf_68 : decode cX1_wordOf 68 = .ok (.getfield 13, 3) := by decide +kernel
theorem dX1_wordOf_71 : decode cX1_wordOf 71 = .ok (.iload_n 1, 1) := by decide +kernel
theorem dX1_wordOf_72 : decode cX1_wordOf 72 = .ok (.iaload, 1) := by decide +kernel
theorem dX1_wordOf_73 : decode cX1_wordOf 73 = .ok (.if_icmp .ge 70, 3) := by decide +kernel
theorem dX1_wordOf_76 : decode cX1_wordOf 76 = .ok (.iconst 1, 1) := by decide +kernel
theorem dX1_wordOf_77 : decode cX1_wordOf 77 = .ok (.iload 4, 2) := by decide +kernel
theorem dX1_wordOf_79 : decode cX1_wordOf 79 = .ok (.ishl, 1) := by decide +kernel
theorem dX1_wordOf_80 : decode cX1_wordOf 80 = .ok (.istore 5, 2) := by decide +kernel
theorem dX1_wordOf_82 : decode cX1_wordOf 82 = .ok (.aload_n 0, 1) := by decide +kernel
theorem dX1_wordOf_83 : decode cX1_wordOf 83 = .ok (.getfield 20, 3) := by decide +kernel
theorem dX1_wordOf_86 : decode cX1_wordOf 86 = .ok (.bipush 6, 2) := by decide +kernel
theorem dX1_wordOf_88 : decode cX1_wordOf 88 = .ok (.iload_n 1, 1) := by decide +kernel
theorem dX1_wordOf_89 : decode cX1_wordOf 89 = .ok (.imul, 1) := by decide +kernel
theorem dX1_wordOf_90 : decode cX1_wordOf 90 = .ok (.iload 4, 2) := by decide +kernel
theorem dX1_wordOf_92 : decode cX1_wordOf 92 = .ok (.iadd, 1) := by decide +kernel
theorem dX1_wordOf_93 : decode cX1_wordOf 93 = .ok (.iaload, 1) := by decide +kernel
theorem dX1_wordOf_94 : decode cX1_wordOf 94 = .ok (.iconst 1, 1) := by decide +kernel
theorem dX1_wordOf_95 : decode cX1_wordOf 95 = .ok (.if_icmp .ne 13, 3) := by decide +kernel
theorem dX1_wordOf_98 : decode cX1_wordOf 98 = .ok (.iload_n 3, 1) := by decide +kernel
theorem dX1_wordOf_99 : decode cX1_wordOf 99 = .ok (.bipush 16, 2) := by decide +kernel
theorem dX1_wordOf_101 : decode cX1_wordOf 101 = .ok (.iload 5, 2) := by decide +kernel
theorem dX1_wordOf_103 : decode cX1_wordOf 103 = .ok (.imul, 1) := by decide +kernel
theorem dX1_wordOf_104 : decode cX1_wordOf 104 = .ok (.iadd, 1) := by decide +kernel
theorem dX1_wordOf_105 : decode cX1_wordOf 105 = .ok (.goto 31, 3) := by decide +kernel
theorem dX1_wordOf_108 : decode cX1_wordOf 108 = .ok (.aload_n 0, 1) := by decide +kernel
theorem dX1_wordOf_109 : decode cX1_wordOf 109 = .ok (.getfield 20, 3) := by decide +kernel
theorem dX1_wordOf_112 : decode cX1_wordOf 112 = .ok (.bipush 6, 2) := by decide +kernel
theorem dX1_wordOf_114 : decode cX1_wordOf 114 = .ok (.iload_n 1, 1) := by decide +kernel
theorem dX1_wordOf_115 : decode cX1_wordOf 115 = .ok (.imul, 1) := by decide +kernel
theorem dX1_wordOf_116 : decode cX1_wordOf 116 = .ok (.iload 4, 2) := by decide +kernel
theorem dX1_wordOf_118 : decode cX1_wordOf 118 = .ok (.iadd, 1) := by decide +kernel
theorem dX1_wordOf_119 : decode cX1_wordOf 119 = .ok (.iaload, 1) := by decide +kernel
theorem dX1_wordOf_120 : decode cX1_wordOf 120 = .ok (.iconst 2, 1) := by decide +kernel
theorem dX1_wordOf_121 : decode cX1_wordOf 121 = .ok (.if_icmp .ne 14, 3) := by decide +kernel
theorem dX1_wordOf_124 : decode cX1_wordOf 124 = .ok (.iload_n 3, 1) := by decide +kernel
theorem dX1_wordOf_125 : decode cX1_wordOf 125 = .ok (.sipush 1024, 3) := by decide +kernel
theorem dX1_wordOf_128 : decode cX1_wordOf 128 = .ok (.iload 5, 2) := by decide +kernel
theorem dX1_wordOf_130 : decode cX1_wordOf 130 = .ok (.imul, 1) := by decide +kernel
theorem dX1_wordOf_131 : decode cX1_wordOf 131 = .ok (.iadd, 1) := by decide +kernel
theorem dX1_wordOf_132 : decode cX1_wordOf 132 = .ok (.goto 4, 3) := by decide +kernel
theorem dX1_wordOf_135 : decode cX1_wordOf 135 = .ok (.iload_n 3, 1) := by decide +kernel
theorem dX1_wordOf_136 : decode cX1_wordOf 136 = .ok (.istore_n 3, 1) := by decide +kernel
theorem dX1_wordOf_137 : decode cX1_wordOf 137 = .ok (.iinc 4 1, 3) := by decide +kernel
theorem dX1_wordOf_140 : decode cX1_wordOf 140 = .ok (.goto (-75), 3) := by decide +kernel
theorem dX1_wordOf_143 : decode cX1_wordOf 143 = .ok (.iload_n 3, 1) := by decide +kernel
theorem dX1_wordOf_144 : decode cX1_wordOf 144 = .ok (.ireturn, 1) := by decide +kernel
theorem dX1_word_0 : decode cX1_word 0 = .ok (.aload_n 0, 1) := by decide +kernel
theorem dX1_word_1 : decode cX1_word 1 = .ok (.iload_n 1, 1) := by decide +kernel
theorem dX1_word_2 : decode cX1_word 2 = .ok (.ifCond .lt 14, 3) := by decide +kernel
theorem dX1_word_5 : decode cX1_word 5 = .ok (.iload_n 1, 1) := by decide +kernel
theorem dX1_word_6 : decode cX1_word 6 = .ok (.sipush 256, 3) := by decide +kernel
theorem dX1_word_9 : decode cX1_word 9 = .ok (.if_icmp .ge 7, 3) := by decide +kernel
theorem dX1_word_12 : decode cX1_word 12 = .ok (.iconst 0, 1) := by decide +kernel
theorem dX1_word_13 : decode cX1_word 13 = .ok (.goto 4, 3) := by decide +kernel
theorem dX1_word_16 : decode cX1_word 16 = .ok (.iconst 1, 1) := by decide +kernel
theorem dX1_word_17 : decode cX1_word 17 = .ok (.putfield 38, 3) := by decide +kernel
theorem dX1_word_20 : decode cX1_word 20 = .ok (.aload_n 0, 1) := by decide +kernel
theorem dX1_word_21 : decode cX1_word 21 = .ok (.getfield 38, 3) := by decide +kernel
theorem dX1_word_24 : decode cX1_word 24 = .ok (.ifCond .le 5, 3) := by decide +kernel
theorem dX1_word_27 : decode cX1_word 27 = .ok (.iconst 0, 1) := by decide +kernel
theorem dX1_word_28 : decode cX1_word 28 = .ok (.ireturn, 1) := by decide +kernel
theorem dX1_word_29 : decode cX1_word 29 = .ok (.iconst 0, 1) := by decide +kernel
theorem dX1_word_30 : decode cX1_word 30 = .ok (.istore_n 2, 1) := by decide +kernel
theorem dX1_word_31 : decode cX1_word 31 = .ok (.iconst 0, 1) := by decide +kernel
theorem dX1_word_32 : decode cX1_word 32 = .ok (.istore_n 3, 1) := by decide +kernel
theorem dX1_word_33 : decode cX1_word 33 = .ok (.iload_n 3, 1) := by decide +kernel
theorem dX1_word_34 : decode cX1_word 34 = .ok (.aload_n 0, 1) := by decide +kernel
theorem dX1_word_35 : decode cX1_word 35 = .ok (.getfield 42, 3) := by decide +kernel
theorem dX1_word_38 : decode cX1_word 38 = .ok (.if_icmp .ge 51, 3) := by decide +kernel
theorem dX1_word_41 : decode cX1_word 41 = .ok (.aload_n 0, 1) := by decide +kernel
theorem dX1_word_42 : decode cX1_word 42 = .ok (.getfield 13, 3) := by decide +kernel
theorem dX1_word_45 : decode cX1_word 45 = .ok (.aload_n 0, 1) := by decide +kernel
theorem dX1_word_46 : decode cX1_word 46 = .ok (.getfield 29, 3) := by decide +kernel
theorem dX1_word_49 : decode cX1_word 49 = .ok (.iload_n 3, 1) := by decide +kernel
theorem dX1_word_50 : decode cX1_word 50 = .ok (.iaload, 1) := by decide +kernel
theorem dX1_word_51 : decode cX1_word 51 = .ok (.iaload, 1) := by decide +kernel
theorem dX1_word_52 : decode cX1_word 52 = .ok (.iconst 2, 1) := by decide +kernel
theorem dX1_word_53 : decode cX1_word 53 = .ok (.iadd, 1) := by decide +kernel
theorem dX1_word_54 : decode cX1_word 54 = .ok (.istore 4, 2) := by decide +kernel
theorem dX1_word_56 : decode cX1_word 56 = .ok (.iload_n 1, 1) := by decide +kernel
theorem dX1_word_57 : decode cX1_word 57 = .ok (.iload_n 2, 1) := by decide +kernel
theorem dX1_word_58 : decode cX1_word 58 = .ok (.iload 4, 2) := by decide +kernel
theorem dX1_word_60 : decode cX1_word 60 = .ok (.iadd, 1) := by decide +kernel
theorem dX1_word_61 : decode cX1_word 61 = .ok (.if_icmp .ge 17, 3) := by decide +kernel
theorem dX1_word_64 : decode cX1_word 64 = .ok (.aload_n 0, 1) := by decide +kernel
theorem dX1_word_65 : decode cX1_word 65 = .ok (.aload_n 0, 1) := by decide +kernel
theorem dX1_word_66 : decode cX1_word 66 = .ok (.getfield 29, 3) := by decide +kernel
theorem dX1_word_69 : decode cX1_word 69 = .ok (.iload_n 3, 1) := by decide +kernel
theorem dX1_word_70 : decode cX1_word 70 = .ok (.iaload, 1) := by decide +kernel
theorem dX1_word_71 : decode cX1_word 71 = .ok (.iload_n 1, 1) := by decide +kernel
theorem dX1_word_72 : decode cX1_word 72 = .ok (.iload_n 2, 1) := by decide +kernel
theorem dX1_word_73 : decode cX1_word 73 = .ok (.isub, 1) := by decide +kernel
theorem dX1_word_74 : decode cX1_word 74 = .ok (.invokevirtual 100, 3) := by decide +kernel
theorem dX1_word_77 : decode cX1_word 77 = .ok (.ireturn, 1) := by decide +kernel
theorem dX1_word_78 : decode cX1_word 78 = .ok (.iload_n 2, 1) := by decide +kernel
theorem dX1_word_79 : decode cX1_word 79 = .ok (.iload 4, 2) := by decide +kernel
theorem dX1_word_81 : decode cX1_word 81 = .ok (.iadd, 1) := by decide +kernel
theorem dX1_word_82 : decode cX1_word 82 = .ok (.istore_n 2, 1) := by decide +kernel
theorem dX1_word_83 : decode cX1_word 83 = .ok (.iinc 3 1, 3) := by decide +kernel
theorem dX1_word_86 : decode cX1_word 86 = .ok (.goto (-53), 3) := by decide +kernel
theorem dX1_word_89 : decode cX1_word 89 = .ok (.iconst 0, 1) := by decide +kernel
theorem dX1_word_90 : decode cX1_word 90 = .ok (.ireturn, 1) := by decide +kernel
theorem dX1_top_0 : decode cX1_top 0 = .ok (.aload_n 0, 1) := by decide +kernel
theorem dX1_top_1 : decode cX1_top 1 = .ok (.iconst 0, 1) := by decide +kernel
theorem dX1_top_2 : decode cX1_top 2 = .ok (.putfield 38, 3) := by decide +kernel
theorem dX1_top_5 : decode cX1_top 5 = .ok (.aload_n 0, 1) := by decide +kernel
theorem dX1_top_6 : decode cX1_top 6 = .ok (.invokevirtual 66, 3) := by decide +kernel
theorem dX1_top_9 : decode cX1_top 9 = .ok (.ireturn, 1) := by decide +kernel
theorem dX1_objects_0 : decode cX1_objects 0 = .ok (.aload_n 0, 1) := by decide +kernel
theorem dX1_objects_1 : decode cX1_objects 1 = .ok (.iconst 0, 1) := by decide +kernel
theorem dX1_objects_2 : decode cX1_objects 2 = .ok (.putfield 38, 3) := by decide +kernel
theorem dX1_objects_5 : decode cX1_objects 5 = .ok (.aload_n 0, 1) := by decide +kernel
theorem dX1_objects_6 : decode cX1_objects 6 = .ok (.getfield 42, 3) := by decide +kernel
theorem dX1_objects_9 : decode cX1_objects 9 = .ok (.ireturn, 1) := by decide +kernel
theorem dX1_alive_0 : decode cX1_alive 0 = .ok (.aload_n 0, 1) := by decide +kernel
theorem dX1_alive_1 : decode cX1_alive 1 = .ok (.iconst 0, 1) := by decide +kernel
theorem dX1_alive_2 : decode cX1_alive 2 = .ok (.putfield 38, 3) := by decide +kernel
theorem dX1_alive_5 : decode cX1_alive 5 = .ok (.aload_n 0, 1) := by decide +kernel
theorem dX1_alive_6 : decode cX1_alive 6 = .ok (.invokevirtual 53, 3) := by decide +kernel
theorem dX1_alive_9 : decode cX1_alive 9 = .ok (.aload_n 0, 1) := by decide +kernel
theorem dX1_alive_10 : decode cX1_alive 10 = .ok (.invokevirtual 49, 3) := by decide +kernel
theorem dX1_alive_13 : decode cX1_alive 13 = .ok (.ireturn, 1) := by decide +kernel
