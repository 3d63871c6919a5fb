theorem dX6_greatestCost_67 : decode cX6_greatestCost 67 = .ok (.iadd, 1) := by decide +kernel
theorem dX6_greatestCost_68 : decode cX6_greatestCost 68 = .ok (.iaload, 1) := by decide +kernel
theorem dX6_greatestCost_69 : decode cX6_greatestCost 69 = .ok (.isub, 1) := by decide +kernel
theorem dX6_greatestCost_70 : decode cX6_greatestCost 70 = .ok (.istore_n 3, 1) := by decide +kernel
theorem dX6_greatestCost_71 : decode cX6_greatestCost 71 = .ok (.aload_n 0, 1) := by decide +kernel
theorem dX6_greatestCost_72 : decode cX6_greatestCost 72 = .ok (.iload_n 1, 1) := by decide +kernel
theorem dX6_greatestCost_73 : decode cX6_greatestCost 73 = .ok (.iconst 1, 1) := by decide +kernel
theorem dX6_greatestCost_74 : decode cX6_greatestCost 74 = .ok (.iload_n 2, 1) := by decide +kernel
theorem dX6_greatestCost_75 : decode cX6_greatestCost 75 = .ok (.ishl, 1) := by decide +kernel
theorem dX6_greatestCost_76 : decode cX6_greatestCost 76 = .ok (.iconst (-1), 1) := by decide +kernel
theorem dX6_greatestCost_77 : decode cX6_greatestCost 77 = .ok (.ixor, 1) := by decide +kernel
theorem dX6_greatestCost_78 : decode cX6_greatestCost 78 = .ok (.invokevirtual 159, 3) := by decide +kernel
theorem dX6_greatestCost_81 : decode cX6_greatestCost 81 = .ok (.aload_n 0, 1) := by decide +kernel
theorem dX6_greatestCost_82 : decode cX6_greatestCost 82 = .ok (.getfield 152, 3) := by decide +kernel
theorem dX6_greatestCost_85 : decode cX6_greatestCost 85 = .ok (.ifCond .eq 18, 3) := by decide +kernel
theorem dX6_greatestCost_88 : decode cX6_greatestCost 88 = .ok (.aload_n 0, 1) := by decide +kernel
theorem dX6_greatestCost_89 : decode cX6_greatestCost 89 = .ok (.getfield 156, 3) := by decide +kernel
theorem dX6_greatestCost_92 : decode cX6_greatestCost 92 = .ok (.iload_n 3, 1) := by decide +kernel
theorem dX6_greatestCost_93 : decode cX6_greatestCost 93 = .ok (.isub, 1) := by decide +kernel
theorem dX6_greatestCost_94 : decode cX6_greatestCost 94 = .ok (.sipush 10000, 3) := by decide +kernel
theorem dX6_greatestCost_97 : decode cX6_greatestCost 97 = .ok (.invokestatic 162, 3) := by decide +kernel
theorem dX6_greatestCost_100 : decode cX6_greatestCost 100 = .ok (.goto 6, 3) := by decide +kernel
theorem dX6_greatestCost_103 : decode cX6_greatestCost 103 = .ok (.sipush 10000, 3) := by decide +kernel
theorem dX6_greatestCost_106 : decode cX6_greatestCost 106 = .ok (.istore 4, 2) := by decide +kernel
theorem dX6_greatestCost_108 : decode cX6_greatestCost 108 = .ok (.iload 4, 2) := by decide +kernel
theorem dX6_greatestCost_110 : decode cX6_greatestCost 110 = .ok (.sipush (-10000), 3) := by decide +kernel
theorem dX6_greatestCost_113 : decode cX6_greatestCost 113 = .ok (.if_icmp .ge 9, 3) := by decide +kernel
theorem dX6_greatestCost_116 : decode cX6_greatestCost 116 = .ok (.sipush (-20000), 3) := by decide +kernel
theorem dX6_greatestCost_119 : decode cX6_greatestCost 119 = .ok (.goto 5, 3) := by decide +kernel
theorem dX6_greatestCost_122 : decode cX6_greatestCost 122 = .ok (.iload 4, 2) := by decide +kernel
theorem dX6_greatestCost_124 : decode cX6_greatestCost 124 = .ok (.ireturn, 1) := by decide +kernel
theorem dX6_addPart_0 : decode cX6_addPart 0 = .ok (.aload_n 0, 1) := by decide +kernel
theorem dX6_addPart_1 : decode cX6_addPart 1 = .ok (.invokevirtual 141, 3) := by decide +kernel
theorem dX6_addPart_4 : decode cX6_addPart 4 = .ok (.iconst 0, 1) := by decide +kernel
theorem dX6_addPart_5 : decode cX6_addPart 5 = .ok (.istore 6, 2) := by decide +kernel
theorem dX6_addPart_7 : decode cX6_addPart 7 = .ok (.iload 6, 2) := by decide +kernel
theorem dX6_addPart_9 : decode cX6_addPart 9 = .ok (.iload_n 3, 1) := by decide +kernel
theorem dX6_addPart_10 : decode cX6_addPart 10 = .ok (.if_icmp .ge 22, 3) := by decide +kernel
theorem dX6_addPart_13 : decode cX6_addPart 13 = .ok (.aload_n 0, 1) := by decide +kernel
theorem dX6_addPart_14 : decode cX6_addPart 14 = .ok (.getfield 50, 3) := by decide +kernel
theorem dX6_addPart_17 : decode cX6_addPart 17 = .ok (.iload 6, 2) := by decide +kernel
theorem dX6_addPart_19 : decode cX6_addPart 19 = .ok (.aload_n 1, 1) := by decide +kernel
theorem dX6_addPart_20 : decode cX6_addPart 20 = .ok (.iload_n 2, 1) := by decide +kernel
theorem dX6_addPart_21 : decode cX6_addPart 21 = .ok (.iload 6, 2) := by decide +kernel
theorem dX6_addPart_23 : decode cX6_addPart 23 = .ok (.iadd, 1) := by decide +kernel
theorem dX6_addPart_24 : decode cX6_addPart 24 = .ok (.iaload, 1) := by decide +kernel
theorem dX6_addPart_25 : decode cX6_addPart 25 = .ok (.iastore, 1) := by decide +kernel
theorem dX6_addPart_26 : decode cX6_addPart 26 = .ok (.iinc 6 1, 3) := by decide +kernel
theorem dX6_addPart_29 : decode cX6_addPart 29 = .ok (.goto (-22), 3) := by decide +kernel
theorem dX6_addPart_32 : decode cX6_addPart 32 = .ok (.iload_n 3, 1) := by decide +kernel
theorem dX6_addPart_33 : decode cX6_addPart 33 = .ok (.aload_n 0, 1) := by decide +kernel
theorem dX6_addPart_34 : decode cX6_addPart 34 = .ok (.getfield 81, 3) := by decide +kernel
theorem dX6_addPart_37 : decode cX6_addPart 37 = .ok (.if_icmp .ge 14, 3) := by decide +kernel
theorem dX6_addPart_40 : decode cX6_addPart 40 = .ok (.aload_n 0, 1) := by decide +kernel
theorem dX6_addPart_41 : decode cX6_addPart 41 = .ok (.getfield 50, 3) := by decide +kernel
theorem dX6_addPart_44 : decode cX6_addPart 44 = .ok (.iload_n 3, 1) := by decide +kernel
theorem dX6_addPart_45 : decode cX6_addPart 45 = .ok (.dup2, 1) := by decide +kernel
theorem dX6_addPart_46 : decode cX6_addPart 46 = .ok (.iaload, 1) := by decide +kernel
theorem dX6_addPart_47 : decode cX6_addPart 47 = .ok (.iload 4, 2) := by decide +kernel
theorem dX6_addPart_49 : decode cX6_addPart 49 = .ok (.iand, 1) := by decide +kernel
theorem dX6_addPart_50 : decode cX6_addPart 50 = .ok (.iastore, 1) := by decide +kernel
theorem dX6_addPart_51 : decode cX6_addPart 51 = .ok (.aload_n 0, 1) := by decide +kernel
theorem dX6_addPart_52 : decode cX6_addPart 52 = .ok (.invokevirtual 144, 3) := by decide +kernel
theorem dX6_addPart_55 : decode cX6_addPart 55 = .ok (.aload_n 0, 1) := by decide +kernel
theorem dX6_addPart_56 : decode cX6_addPart 56 = .ok (.getfield 41, 3) := by decide +kernel
theorem dX6_addPart_59 : decode cX6_addPart 59 = .ok (.iconst 0, 1) := by decide +kernel
theorem dX6_addPart_60 : decode cX6_addPart 60 = .ok (.iaload, 1) := by decide +kernel
theorem dX6_addPart_61 : decode cX6_addPart 61 = .ok (.iload 5, 2) := by decide +kernel
theorem dX6_addPart_63 : decode cX6_addPart 63 = .ok (.if_icmp .eq 4, 3) := by decide +kernel
theorem dX6_addPart_66 : decode cX6_addPart 66 = .ok (.return_, 1) := by decide +kernel
theorem dX6_addPart_67 : decode cX6_addPart 67 = .ok (.aload_n 0, 1) := by decide +kernel
theorem dX6_addPart_68 : decode cX6_addPart 68 = .ok (.invokevirtual 149, 3) := by decide +kernel
theorem dX6_addPart_71 : decode cX6_addPart 71 = .ok (.aload_n 0, 1) := by decide +kernel
theorem dX6_addPart_72 : decode cX6_addPart 72 = .ok (.getfield 62, 3) := by decide +kernel
theorem dX6_addPart_75 : decode cX6_addPart 75 = .ok (.aload_n 0, 1) := by decide +kernel
theorem dX6_addPart_76 : decode cX6_addPart 76 = .ok (.getfield 165, 3) := by decide +kernel
theorem dX6_addPart_79 : decode cX6_addPart 79 = .ok (.aload_n 0, 1) := by decide +kernel
theorem dX6_addPart_80 : decode cX6_addPart 80 = .ok (.getfield 44, 3) := by decide +kernel
theorem dX6_addPart_83 : decode cX6_addPart 83 = .ok (.iconst 0, 1) := by decide +kernel
theorem dX6_addPart_84 : decode cX6_addPart 84 = .ok (.iaload, 1) := by decide +kernel
theorem dX6_addPart_85 : decode cX6_addPart 85 = .ok (.iastore, 1) := by decide +kernel
theorem dX6_addPart_86 : decode cX6_addPart 86 = .ok (.aload_n 0, 1) := by decide +kernel
theorem dX6_addPart_87 : decode cX6_addPart 87 = .ok (.getfield 68, 3) := by decide +kernel
theorem dX6_addPart_90 : decode cX6_addPart 90 = .ok (.aload_n 0, 1) := by decide +kernel
theorem dX6_addPart_91 : decode cX6_addPart 91 = .ok (.getfield 165, 3) := by decide +kernel
theorem dX6_addPart_94 : decode cX6_addPart 94 = .ok (.iload_n 3, 1) := by decide +kernel
theorem dX6_addPart_95 : decode cX6_addPart 95 = .ok (.iastore, 1) := by decide +kernel
theorem dX6_addPart_96 : decode cX6_addPart 96 = .ok (.aload_n 0, 1) := by decide +kernel
theorem dX6_addPart_97 : decode cX6_addPart 97 = .ok (.getfield 71, 3) := by decide +kernel
theorem dX6_addPart_100 : decode cX6_addPart 100 = .ok (.aload_n 0, 1) := by decide +kernel
theorem dX6_addPart_101 : decode cX6_addPart 101 = .ok (.getfield 165, 3) := by decide +kernel
theorem dX6_addPart_104 : decode cX6_addPart 104 = .ok (.iload 4, 2) := by decide +kernel
theorem dX6_addPart_106 : decode cX6_addPart 106 = .ok (.iastore, 1) := by decide +kernel
theorem dX6_addPart_107 : decode cX6_addPart 107 = .ok (.iconst 0, 1) := by decide +kernel
theorem dX6_addPart_108 : decode cX6_addPart 108 = .ok (.istore 6, 2) := by decide +kernel
theorem dX6_addPart_110 : decode cX6_addPart 110 = .ok (.iload 6, 2) := by decide +kernel
theorem dX6_addPart_112 : decode cX6_addPart 112 = .ok (.aload_n 0, 1) := by decide +kernel
theorem dX6_addPart_113 : decode cX6_addPart 113 = .ok (.getfield 81, 3) := by decide +kernel
theorem dX6_addPart_116 : decode cX6_addPart 116 = .ok (.if_icmp .ge 31, 3) := by decide +kernel
theorem dX6_addPart_119 : decode cX6_addPart 119 = .ok (.aload_n 0, 1) := by decide +kernel
theorem dX6_addPart_120 : decode cX6_addPart 120 = .ok (.getfield 65, 3) := by decide +kernel
theorem dX6_addPart_123 : decode cX6_addPart 123 = .ok (.bipush 10, 2) := by decide +kernel
theorem dX6_addPart_125 : decode cX6_addPart 125 = .ok (.aload_n 0, 1) := by decide +kernel
theorem dX6_addPart_126 : decode cX6_addPart 126 = .ok (.getfield 165, 3) := by decide +kernel
theorem dX6_addPart_129 : decode cX6_addPart 129 = .ok (.imul, 1) := by decide +kernel
theorem dX6_addPart_130 : decode cX6_addPart 130 = .ok (.iload 6, 2) := by decide +kernel
theorem dX6_addPart_132 : decode cX6_addPart 132 = .ok (.iadd, 1) := by decide +kernel
theorem dX6_addPart_133 : decode cX6_addPart 133 = .ok (.aload_n 0, 1) := by decide +kernel
theorem dX6_addPart_134 : decode cX6_addPart 134 = .ok (.getfield 53, 3) := by decide +kernel
theorem dX6_addPart_137 : decode cX6_addPart 137 = .ok (.iload 6, 2) := by decide +kernel
theorem dX6_addPart_139 : decode cX6_addPart 139 = .ok (.iaload, 1) := by decide +kernel
theorem dX6_addPart_140 : decode cX6_addPart 140 = .ok (.iastore, 1) := by decide +kernel
theorem dX6_addPart_141 : decode cX6_addPart 141 = .ok (.iinc 6 1, 3) := by decide +kernel
theorem dX6_addPart_144 : decode cX6_addPart 144 = .ok (.goto (-34), 3) := by decide +kernel
theorem dX6_addPart_147 : decode cX6_addPart 147 = .ok (.aload_n 0, 1) := by decide +kernel
theorem dX6_addPart_148 : decode cX6_addPart 148 = .ok (.dup, 1) := by decide +kernel
theorem dX6_addPart_149 : decode cX6_addPart 149 = .ok (.getfield 165, 3) := by decide +kernel
theorem dX6_addPart_152 : decode cX6_addPart 152 = .ok (.iconst 1, 1) := by decide +kernel
theorem dX6_addPart_153 : decode cX6_addPart 153 = .ok (.iadd, 1) := by decide +kernel
theorem dX6_addPart_154 : decode cX6_addPart 154 = .ok (.putfield 165, 3) := by decide +kernel
theorem dX6_addPart_157 : decode cX6_addPart 157 = .ok (.return_, 1) := by decide +kernel
theorem dX6_isAhead_0 : decode cX6_isAhead 0 = .ok (.aload_n 0, 1) := by decide +kernel
theorem dX6_isAhead_1 : decode cX6_isAhead 1 = .ok (.getfield 62, 3) := by decide +kernel
theorem dX6_isAhead_4 : decode cX6_isAhead 4 = .ok (.iload_n 1, 1) := by decide +kernel
theorem dX6_isAhead_5 : decode cX6_isAhead 5 = .ok (.iaload, 1) := by decide +kernel
theorem dX6_isAhead_6 : decode cX6_isAhead 6 = .ok (.aload_n 0, 1) := by decide +kernel
theorem dX6_isAhead_7 : decode cX6_isAhead 7 = .ok (.getfield 62, 3) := by decide +kernel
theorem dX6_isAhead_10 : decode cX6_isAhead 10 = .ok (.iload_n 2, 1) := by decide +kernel
theorem dX6_isAhead_11 : decode cX6_isAhead 11 = .ok (.iaload, 1) := by decide +kernel
theorem dX6_isAhead_12 : decode cX6_isAhead 12 = .ok (.if_icmp .eq 24, 3) := by decide +kernel
theorem dX6_isAhead_15 : decode cX6_isAhead 15 = .ok (.aload_n 0, 1) := by decide +kernel
theorem dX6_isAhead_16 : decode cX6_isAhead 16 = .ok (.getfield 62, 3) := by decide +kernel
theorem dX6_isAhead_19 : decode cX6_isAhead 19 = .ok (.iload_n 1, 1) := by decide +kernel
theorem dX6_isAhead_20 : decode cX6_isAhead 20 = .ok (.iaload, 1) := by decide +kernel
theorem dX6_isAhead_21 : decode cX6_isAhead 21 = .ok (.aload_n 0, 1) := by decide +kernel
theorem dX6_isAhead_22 : decode cX6_isAhead 22 = .ok (.getfield 62, 3) := by decide +kernel
theorem dX6_isAhead_25 : decode cX6_isAhead 25 = .ok (.iload_n 2, 1) := by decide +kernel
theorem dX6_isAhead_26 : decode cX6_isAhead 26 = .ok (.iaload, 1) := by decide +kernel
theorem dX6_isAhead_27 : decode cX6_isAhead 27 = .ok (.if_icmp .ge 7, 3) := by decide +kernel
theorem dX6_isAhead_30 : decode cX6_isAhead 30 = .ok (.iconst 1, 1) := by decide +kernel
theorem dX6_isAhead_31 : decode cX6_isAhead 31 = .ok (.goto 4, 3) := by decide +kernel
theorem dX6_isAhead_34 : decode cX6_isAhead 34 = .ok (.iconst 0, 1) := by decide +kernel
theorem dX6_isAhead_35 : decode cX6_isAhead 35 = .ok (.ireturn, 1) := by decide +kernel
theorem dX6_isAhead_36 : decode cX6_isAhead 36 = .ok (.iconst 0, 1) := by decide +kernel
theorem dX6_isAhead_37 : decode cX6_isAhead 37 = .ok (.istore_n 3, 1) := by decide +kernel
theorem dX6_isAhead_38 : decode cX6_isAhead 38 = .ok (.iload_n 3, 1) := by decide +kernel
theorem dX6_isAhead_39 : decode cX6_isAhead 39 = .ok (.aload_n 0, 1) := by decide +kernel
theorem dX6_isAhead_40 : decode cX6_isAhead 40 = .ok (.getfield 81, 3) := by decide +kernel
theorem dX6_isAhead_43 : decode cX6_isAhead 43 = .ok (.if_icmp .ge 65, 3) := by decide +kernel
theorem dX6_isAhead_46 : decode cX6_isAhead 46 = .ok (.aload_n 0, 1) := by decide +kernel
theorem dX6_isAhead_47 : decode cX6_isAhead 47 = .ok (.getfield 65, 3) := by decide +kernel
theorem dX6_isAhead_50 : decode cX6_isAhead 50 = .ok (.bipush 10, 2) := by decide +kernel
theorem dX6_isAhead_52 : decode cX6_isAhead 52 = .ok (.iload_n 1, 1) := by decide +kernel
theorem dX6_isAhead_53 : decode cX6_isAhead 53 = .ok (.imul, 1) := by decide +kernel
theorem dX6_isAhead_54 : decode cX6_isAhead 54 = .ok (.iload_n 3, 1) := by decide +kernel
theorem dX6_isAhead_55 : decode cX6_isAhead 55 = .ok (.iadd, 1) := by decide +kernel
theorem dX6_isAhead_56 : decode cX6_isAhead 56 = .ok (.iaload, 1) := by decide +kernel
theorem dX6_isAhead_57 : decode cX6_isAhead 57 = .ok (.aload_n 0, 1) := by decide +kernel
theorem dX6_isAhead_58 : decode cX6_isAhead 58 = .ok (.getfield 65, 3) := by decide +kernel
theorem dX6_isAhead_61 : decode cX6_isAhead 61 = .ok (.bipush 10, 2) := by decide +kernel
theorem dX6_isAhead_63 : decode cX6_isAhead 63 = .ok (.iload_n 2, 1) := by decide +kernel
theorem dX6_isAhead_64 : decode cX6_isAhead 64 = .ok (.imul, 1) := by decide +kernel
theorem dX6_isAhead_65 : decode cX6_isAhead 65 = .ok (.iload_n 3, 1) := by decide +kernel
theorem dX6_isAhead_66 : decode cX6_isAhead 66 = .ok (.iadd, 1) := by decide +kernel
theorem dX6_isAhead_67 : decode cX6_isAhead 67 = .ok (.iaload, 1) := by decide +kernel
theorem dX6_isAhead_68 : decode cX6_isAhead 68 = .ok (.if_icmp .eq 34, 3) := by decide +kernel
theorem dX6_isAhead_71 : decode cX6_isAhead 71 = .ok (.aload_n 0, 1) := by decide +kernel
theorem dX6_isAhead_72 : decode cX6_isAhead 72 = .ok (.getfield 65, 3) := by decide +kernel
theorem dX6_isAhead_75 : decode cX6_isAhead 75 = .ok (.bipush 10, 2) := by decide +kernel
theorem dX6_isAhead_77 : decode cX6_isAhead 77 = .ok (.iload_n 1, 1) := by decide +kernel
theorem dX6_isAhead_78 : decode cX6_isAhead 78 = .ok (.imul, 1) := by decide +kernel
theorem dX6_isAhead_79 : decode cX6_isAhead 79 = .ok (.iload_n 3, 1) := by decide +kernel
theorem dX6_isAhead_80 : decode cX6_isAhead 80 = .ok (.iadd, 1) := by decide +kernel
theorem dX6_isAhead_81 : decode cX6_isAhead 81 = .ok (.iaload, 1) := by decide +kernel
theorem dX6_isAhead_82 : decode cX6_isAhead 82 = .ok (.aload_n 0, 1) := by decide +kernel
theorem dX6_isAhead_83 : decode cX6_isAhead 83 = .ok (.getfield 65, 3) := by decide +kernel
theorem dX6_isAhead_86 : decode cX6_isAhead 86 = .ok (.bipush 10, 2) := by decide +kernel
theorem dX6_isAhead_88 : decode cX6_isAhead 88 = .ok (.iload_n 2, 1) := by decide +kernel
theorem dX6_isAhead_89 : decode cX6_isAhead 89 = .ok (.imul, 1) := by decide +kernel
theorem dX6_isAhead_90 : decode cX6_isAhead 90 = .ok (.iload_n 3, 1) := by decide +kernel
theorem dX6_isAhead_91 : decode cX6_isAhead 91 = .ok (.iadd, 1) := by decide +kernel
theorem dX6_isAhead_92 : decode cX6_isAhead 92 = .ok (.iaload, 1) := by decide +kernel
theorem dX6_isAhead_93 : decode cX6_isAhead 93 = .ok (.if_icmp .ge 7, 3) := by decide +kernel
theorem dX6_isAhead_96 : decode cX6_isAhead 96 = .ok (.iconst 1, 1) := by decide +kernel
theorem dX6_isAhead_97 : decode cX6_isAhead 97 = .ok (.goto 4, 3) := by decide +kernel
theorem dX6_isAhead_100 : decode cX6_isAhead 100 = .ok (.iconst 0, 1) := by decide +kernel
theorem dX6_isAhead_101 : decode cX6_isAhead 101 = .ok (.ireturn, 1) := by decide +kernel
theorem dX6_isAhead_102 : decode cX6_isAhead 102 = .ok (.iinc 3 1, 3) := by decide +kernel
theorem dX6_isAhead_105 : decode cX6_isAhead 105 = .ok (.goto (-67), 3) := by decide +kernel
theorem dX6_isAhead_108 : decode cX6_isAhead 108 = .ok (.iconst 0, 1) := by decide +kernel
theorem dX6_isAhead_109 : decode cX6_isAhead 109 = .ok (.ireturn, 1) := by decide +kernel
theorem dX6_remove_0 : decode cX6_remove 0 = .ok (.aload_n 0, 1) := by decide +kernel
theorem dX6_remove_1 : decode cX6_remove 1 = .ok (.dup, 1) := by decide +kernel
theorem dX6_remove_2 : decode cX6_remove 2 = .ok (.getfield 165, 3) := by decide +kernel
theorem dX6_remove_5 : decode cX6_remove 5 = .ok (.iconst 1, 1) := by decide +kernel
theorem dX6_remove_6 : decode cX6_remove 6 = .ok (.isub, 1) := by decide +kernel
theorem dX6_remove_7 : decode cX6_remove 7 = .ok (.putfield 165, 3) := by decide +kernel
theorem dX6_remove_10 : decode cX6_remove 10 = .ok (.aload_n 0, 1) := by decide +kernel
theorem dX6_remove_11 : decode cX6_remove 11 = .ok (.getfield 62, 3) := by decide +kernel
theorem dX6_remove_14 : decode cX6_remove 14 = .ok (.iload_n 1, 1) := by decide +kernel
theorem dX6_remove_15 : decode cX6_remove 15 = .ok (.aload_n 0, 1) := by decide +kernel
theorem dX6_remove_16 : decode cX6_remove 16 = .ok (.getfield 62, 3) := by decide +kernel
theorem dX6_remove_19 : decode cX6_remove 19 = .ok (.aload_n 0, 1) := by decide +kernel
theorem dX6_remove_20 : decode cX6_remove 20 = .ok (.getfield 165, 3) := by decide +kernel
theorem dX6_remove_23 : decode cX6_remove 23 = .ok (.iaload, 1) := by decide +kernel
theorem dX6_remove_24 : decode cX6_remove 24 = .ok (.iastore, 1) := by decide +kernel
theorem dX6_remove_25 : decode cX6_remove 25 = .ok (.aload_n 0, 1) := by decide +kernel
theorem dX6_remove_26 : decode cX6_remove 26 = .ok (.getfield 68, 3) := by decide +kernel
theorem dX6_remove_29 : decode cX6_remove 29 = .ok (.iload_n 1, 1) := by decide +kernel
theorem dX6_remove_30 : decode cX6_remove 30 = .ok (.aload_n 0, 1) := by decide +kernel
theorem dX6_remove_31 : decode cX6_remove 31 = .ok (.getfield 68, 3) := by decide +kernel
theorem dX6_remove_34 : decode cX6_remove 34 = .ok (.aload_n 0, 1) := by decide +kernel
theorem dX6_remove_35 : decode cX6_remove 35 = .ok (.getfield 165, 3) := by decide +kernel
theorem dX6_remove_38 : decode cX6_remove 38 = .ok (.iaload, 1) := by decide +kernel
theorem dX6_remove_39 : decode cX6_remove 39 = .ok (.iastore, 1) := by decide +kernel
theorem dX6_remove_40 : decode cX6_remove 40 = .ok (.aload_n 0, 1) := by decide +kernel
theorem dX6_remove_41 : decode cX6_remove 41 = .ok (.getfield 71, 3) := by decide +kernel
theorem dX6_remove_44 : decode cX6_remove 44 = .ok (.iload_n 1, 1) := by decide +kernel
theorem dX6_remove_45 : decode cX6_remove 45 = .ok (.aload_n 0, 1) := by decide +kernel
theorem dX6_remove_46 : decode cX6_remove 46 = .ok (.getfield 71, 3) := by decide +kernel
theorem dX6_remove_49 : decode cX6_remove 49 = .ok (.aload_n 0, 1) := by decide +kernel
theorem dX6_remove_50 : decode cX6_remove 50 = .ok (.getfield 165, 3) := by decide +kernel
theorem dX6_remove_53 : decode cX6_remove 53 = .ok (.iaload, 1) := by decide +kernel
theorem dX6_remove_54 : decode cX6_remove 54 = .ok (.iastore, 1) := by decide +kernel
theorem dX6_remove_55 : decode cX6_remove 55 = .ok (.iconst 0, 1) := by decide +kernel
theorem dX6_remove_56 : decode cX6_remove 56 = .ok (.istore_n 2, 1) := by decide +kernel
theorem dX6_remove_57 : decode cX6_remove 57 = .ok (.iload_n 2, 1) := by decide +kernel
theorem dX6_remove_58 : decode cX6_remove 58 = .ok (.bipush 10, 2) := by decide +kernel
theorem dX6_remove_60 : decode cX6_remove 60 = .ok (.if_icmp .ge 34, 3) := by decide +kernel
theorem dX6_remove_63 : decode cX6_remove 63 = .ok (.aload_n 0, 1) := by decide +kernel
theorem dX6_remove_64 : decode cX6_remove 64 = .ok (.getfield 65, 3) := by decide +kernel
theorem dX6_remove_67 : decode cX6_remove 67 = .ok (.bipush 10, 2) := by decide +kernel
theorem dX6_remove_69 : decode cX6_remove 69 = .ok (.iload_n 1, 1) := by decide +kernel
theorem dX6_remove_70 : decode cX6_remove 70 = .ok (.imul, 1) := by decide +kernel
theorem dX6_remove_71 : decode cX6_remove 71 = .ok (.iload_n 2, 1) := by decide +kernel
theorem dX6_remove_72 : decode cX6_remove 72 = .ok (.iadd, 1) := by decide +kernel
theorem dX6_remove_73 : decode cX6_remove 73 = .ok (.aload_n 0, 1) := by decide +kernel
theorem dX6_remove_74 : decode cX6_remove 74 = .ok (.getfield 65, 3) := by decide +kernel
theorem dX6_remove_77 : decode cX6_remove 77 = .ok (.bipush 10, 2) := by decide +kernel
theorem dX6_remove_79 : decode cX6_remove 79 = .ok (.aload_n 0, 1) := by decide +kernel
theorem dX6_remove_80 : decode cX6_remove 80 = .ok (.getfield 165, 3) := by decide +kernel
theorem dX6_remove_83 : decode cX6_remove 83 = .ok (.imul, 1) := by decide +kernel
theorem dX6_remove_84 : decode cX6_remove 84 = .ok (.iload_n 2, 1) := by decide +kernel
theorem dX6_remove_85 : decode cX6_remove 85 = .ok (.iadd, 1) := by decide +kernel
theorem dX6_remove_86 : decode cX6_remove 86 = .ok (.iaload, 1) := by decide +kernel
theorem dX6_remove_87 : decode cX6_remove 87 = .ok (.iastore, 1) := by decide +kernel
theorem dX6_remove_88 : decode cX6_remove 88 = .ok (.iinc 2 1, 3) := by decide +kernel
theorem dX6_remove_91 : decode cX6_remove 91 = .ok (.goto (-34), 3) := by decide +kernel
theorem dX6_remove_94 : decode cX6_remove 94 = .ok (.return_, 1) := by decide +kernel
theorem dX6_rank_0 : decode cX6_rank 0 = .ok (.aload_n 0, 1) := by decide +kernel
theorem dX6_rank_1 : decode cX6_rank 1 = .ok (.iconst 0, 1) := by decide +kernel
theorem dX6_rank_2 : decode cX6_rank 2 = .ok (.putfield 77, 3) := by decide +kernel
theorem dX6_rank_5 : decode cX6_rank 5 = .ok (.iload_n 1, 1) := by decide +kernel
theorem dX6_rank_6 : decode cX6_rank 6 = .ok (.iconst 1, 1) := by decide +kernel
theorem dX6_rank_7 : decode cX6_rank 7 = .ok (.if_icmp .lt 9, 3) := by decide +kernel
theorem dX6_rank_10 : decode cX6_rank 10 = .ok (.iload_n 1, 1) := by decide +kernel
theorem dX6_rank_11 : decode cX6_rank 11 = .ok (.bipush 30, 2) := by decide +kernel
theorem dX6_rank_13 : decode cX6_rank 13 = .ok (.if_icmp .le 9, 3) := by decide +kernel
theorem dX6_rank_16 : decode cX6_rank 16 = .ok (.aload_n 0, 1) := by decide +kernel
theorem dX6_rank_17 : decode cX6_rank 17 = .ok (.iconst 1, 1) := by decide +kernel
theorem dX6_rank_18 : decode cX6_rank 18 = .ok (.invokevirtual 98, 3) := by decide +kernel
theorem dX6_rank_21 : decode cX6_rank 21 = .ok (.ireturn, 1) := by decide +kernel
theorem dX6_rank_22 : decode cX6_rank 22 = .ok (.aload_n 0, 1) := by decide +kernel
theorem dX6_rank_23 : decode cX6_rank 23 = .ok (.invokevirtual 146, 3) := by decide +kernel
theorem dX6_rank_26 : decode cX6_rank 26 = .ok (.aload_n 0, 1) := by decide +kernel
theorem dX6_rank_27 : decode cX6_rank 27 = .ok (.getfield 41, 3) := by decide +kernel
theorem dX6_rank_30 : decode cX6_rank 30 = .ok (.iconst 0, 1) := by decide +kernel
theorem dX6_rank_31 : decode cX6_rank 31 = .ok (.iaload, 1) := by decide +kernel
theorem dX6_rank_32 : decode cX6_rank 32 = .ok (.istore_n 2, 1) := by decide +kernel
theorem dX6_rank_33 : decode cX6_rank 33 = .ok (.aload_n 0, 1) := by decide +kernel
theorem dX6_rank_34 : decode cX6_rank 34 = .ok (.iconst 0, 1) := by decide +kernel
theorem dX6_rank_35 : decode cX6_rank 35 = .ok (.putfield 165, 3) := by decide +kernel
theorem dX6_rank_38 : decode cX6_rank 38 = .ok (.aload_n 0, 1) := by decide +kernel
theorem dX6_rank_39 : decode cX6_rank 39 = .ok (.aload_n 0, 1) := by decide +kernel
theorem dX6_rank_40 : decode cX6_rank 40 = .ok (.getfield 74, 3) := by decide +kernel
theorem dX6_rank_43 : decode cX6_rank 43 = .ok (.iconst 0, 1) := by decide +kernel
theorem dX6_rank_44 : decode cX6_rank 44 = .ok (.iconst 0, 1) := by decide +kernel
theorem dX6_rank_45 : decode cX6_rank 45 = .ok (.iconst (-1), 1) := by decide +kernel
theorem dX6_rank_46 : decode cX6_rank 46 = .ok (.iload_n 2, 1) := by decide +kernel
theorem dX6_rank_47 : decode cX6_rank 47 = .ok (.invokevirtual 168, 3) := by decide +kernel
theorem dX6_rank_50 : decode cX6_rank 50 = .ok (.aload_n 0, 1) := by decide +kernel
theorem dX6_rank_51 : decode cX6_rank 51 = .ok (.iconst 0, 1) := by decide +kernel
theorem dX6_rank_52 : decode cX6_rank 52 = .ok (.putfield 172, 3) := by decide +kernel
theorem dX6_rank_55 : decode cX6_rank 55 = .ok (.aload_n 0, 1) := by decide +kernel
theorem dX6_rank_56 : decode cX6_rank 56 = .ok (.getfield 172, 3) := by decide +kernel
theorem dX6_rank_59 : decode cX6_rank 59 = .ok (.iload_n 1, 1) := by decide +kernel
theorem dX6_rank_60 : decode cX6_rank 60 = .ok (.if_icmp .ge 221, 3) := by decide +kernel
theorem dX6_rank_63 : decode cX6_rank 63 = .ok (.aload_n 0, 1) := by decide +kernel
theorem dX6_rank_64 : decode cX6_rank 64 = .ok (.getfield 165, 3) := by decide +kernel
theorem dX6_rank_67 : decode cX6_rank 67 = .ok (.ifCond .le 214, 3) := by decide +kernel
theorem dX6_rank_70 : decode cX6_rank 70 = .ok (.iconst 0, 1) := by decide +kernel
theorem dX6_rank_71 : decode cX6_rank 71 = .ok (.istore_n 3, 1) := by decide +kernel
theorem dX6_rank_72 : decode cX6_rank 72 = .ok (.iconst 1, 1) := by decide +kernel
theorem dX6_rank_73 : decode cX6_rank 73 = .ok (.istore 4, 2) := by decide +kernel
theorem dX6_rank_75 : decode cX6_rank 75 = .ok (.iload 4, 2) := by decide +kernel
theorem dX6_rank_77 : decode cX6_rank 77 = .ok (.aload_n 0, 1) := by decide +kernel
theorem dX6_rank_78 : decode cX6_rank 78 = .ok (.getfield 165, 3) := by decide +kernel
theorem dX6_rank_81 : decode cX6_rank 81 = .ok (.if_icmp .ge 22, 3) := by decide +kernel
theorem dX6_rank_84 : decode cX6_rank 84 = .ok (.aload_n 0, 1) := by decide +kernel
theorem dX6_rank_85 : decode cX6_rank 85 = .ok (.iload 4, 2) := by decide +kernel
theorem dX6_rank_87 : decode cX6_rank 87 = .ok (.iload_n 3, 1) := by decide +kernel
theorem dX6_rank_88 : decode cX6_rank 88 = .ok (.invokevirtual 175, 3) := by decide +kernel
theorem dX6_rank_91 : decode cX6_rank 91 = .ok (.ifCond .eq 6, 3) := by decide +kernel
theorem dX6_rank_94 : decode cX6_rank 94 = .ok (.iload 4, 2) := by decide +kernel
theorem dX6_rank_96 : decode cX6_rank 96 = .ok (.istore_n 3, 1) := by decide +kernel
theorem dX6_rank_97 : decode cX6_rank 97 = .ok (.iinc 4 1, 3) := by decide +kernel
theorem dX6_rank_100 : decode cX6_rank 100 = .ok (.goto (-25), 3) := by decide +kernel
theorem dX6_rank_103 : decode cX6_rank 103 = .ok (.aload_n 0, 1) := by decide +kernel
theorem dX6_rank_104 : decode cX6_rank 104 = .ok (.getfield 56, 3) := by decide +kernel
theorem dX6_rank_107 : decode cX6_rank 107 = .ok (.aload_n 0, 1) := by decide +kernel
theorem dX6_rank_108 : decode cX6_rank 108 = .ok (.getfield 172, 3) := by decide +kernel
theorem dX6_rank_111 : decode cX6_rank 111 = .ok (.aload_n 0, 1) := by decide +kernel
theorem dX6_rank_112 : decode cX6_rank 112 = .ok (.getfield 62, 3) := by decide +kernel
theorem dX6_rank_115 : decode cX6_rank 115 = .ok (.iload_n 3, 1) := by decide +kernel
theorem dX6_rank_116 : decode cX6_rank 116 = .ok (.iaload, 1) := by decide +kernel
theorem dX6_rank_117 : decode cX6_rank 117 = .ok (.iastore, 1) := by decide +kernel
theorem dX6_rank_118 : decode cX6_rank 118 = .ok (.iconst 0, 1) := by decide +kernel
theorem dX6_rank_119 : decode cX6_rank 119 = .ok (.istore 4, 2) := by decide +kernel
theorem dX6_rank_121 : decode cX6_rank 121 = .ok (.iload 4, 2) := by decide +kernel
theorem dX6_rank_123 : decode cX6_rank 123 = .ok (.bipush 10, 2) := by decide +kernel
theorem dX6_rank_125 : decode cX6_rank 125 = .ok (.if_icmp .ge 68, 3) := by decide +kernel
theorem dX6_rank_128 : decode cX6_rank 128 = .ok (.aload_n 0, 1) := by decide +kernel
theorem dX6_rank_129 : decode cX6_rank 129 = .ok (.getfield 74, 3) := by decide +kernel
theorem dX6_rank_132 : decode cX6_rank 132 = .ok (.iload 4, 2) := by decide +kernel
theorem dX6_rank_134 : decode cX6_rank 134 = .ok (.iload 4, 2) := by decide +kernel
theorem dX6_rank_136 : decode cX6_rank 136 = .ok (.aload_n 0, 1) := by decide +kernel
theorem dX6_rank_137 : decode cX6_rank 137 = .ok (.getfield 81, 3) := by decide +kernel
theorem dX6_rank_140 : decode cX6_rank 140 = .ok (.if_icmp .ge 18, 3) := by decide +kernel
theorem dX6_rank_143 : decode cX6_rank 143 = .ok (.aload_n 0, 1) := by decide +kernel
theorem dX6_rank_144 : decode cX6_rank 144 = .ok (.getfield 65, 3) := by decide +kernel
theorem dX6_rank_147 : decode cX6_rank 147 = .ok (.bipush 10, 2) := by decide +kernel
theorem dX6_rank_149 : decode cX6_rank 149 = .ok (.iload_n 3, 1) := by decide +kernel
theorem dX6_rank_150 : decode cX6_rank 150 = .ok (.imul, 1) := by decide +kernel
theorem dX6_rank_151 : decode cX6_rank 151 = .ok (.iload 4, 2) := by decide +kernel
theorem dX6_rank_153 : decode cX6_rank 153 = .ok (.iadd, 1) := by decide +kernel
theorem dX6_rank_154 : decode cX6_rank 154 = .ok (.iaload, 1) := by decide +kernel
theorem dX6_rank_155 : decode cX6_rank 155 = .ok (.goto 6, 3) := by decide +kernel
theorem dX6_rank_158 : decode cX6_rank 158 = .ok (.sipush 1024, 3) := by decide +kernel
theorem dX6_rank_161 : decode cX6_rank 161 = .ok (.iastore, 1) := by decide +kernel
theorem dX6_rank_162 : decode cX6_rank 162 = .ok (.aload_n 0, 1) := by decide +kernel
theorem dX6_rank_163 : decode cX6_rank 163 = .ok (.getfield 59, 3) := by decide +kernel
theorem dX6_rank_166 : decode cX6_rank 166 = .ok (.bipush 10, 2) := by decide +kernel
theorem dX6_rank_168 : decode cX6_rank 168 = .ok (.aload_n 0, 1) := by decide +kernel
theorem dX6_rank_169 : decode cX6_rank 169 = .ok (.getfield 172, 3) := by decide +kernel
theorem dX6_rank_172 : decode cX6_rank 172 = .ok (.imul, 1) := by decide +kernel
theorem dX6_rank_173 : decode cX6_rank 173 = .ok (.iload 4, 2) := by decide +kernel
theorem dX6_rank_175 : decode cX6_rank 175 = .ok (.iadd, 1) := by decide +kernel
theorem dX6_rank_176 : decode cX6_rank 176 = .ok (.aload_n 0, 1) := by decide +kernel
theorem dX6_rank_177 : decode cX6_rank 177 = .ok (.getfield 74, 3) := by decide +kernel
theorem dX6_rank_180 : decode cX6_rank 180 = .ok (.iload 4, 2) := by decide +kernel
theorem dX6_rank_182 : decode cX6_rank 182 = .ok (.iaload, 1) := by decide +kernel
theorem dX6_rank_183 : decode cX6_rank 183 = .ok (.invokestatic 134, 3) := by decide +kernel
theorem dX6_rank_186 : decode cX6_rank 186 = .ok (.iastore, 1) := by decide +kernel
theorem dX6_rank_187 : decode cX6_rank 187 = .ok (.iinc 4 1, 3) := by decide +kernel
theorem dX6_rank_190 : decode cX6_rank 190 = .ok (.goto (-69), 3) := by decide +kernel
theorem dX6_rank_193 : decode cX6_rank 193 = .ok (.aload_n 0, 1) := by decide +kernel
theorem dX6_rank_194 : decode cX6_rank 194 = .ok (.dup, 1) := by decide +kernel
theorem dX6_rank_195 : decode cX6_rank 195 = .ok (.getfield 172, 3) := by decide +kernel
theorem dX6_rank_198 : decode cX6_rank 198 = .ok (.iconst 1, 1) := by decide +kernel
theorem dX6_rank_199 : decode cX6_rank 199 = .ok (.iadd, 1) := by decide +kernel
theorem dX6_rank_200 : decode cX6_rank 200 = .ok (.putfield 172, 3) := by decide +kernel
theorem dX6_rank_203 : decode cX6_rank 203 = .ok (.aload_n 0, 1) := by decide +kernel
theorem dX6_rank_204 : decode cX6_rank 204 = .ok (.getfield 68, 3) := by decide +kernel
theorem dX6_rank_207 : decode cX6_rank 207 = .ok (.iload_n 3, 1) := by decide +kernel
theorem dX6_rank_208 : decode cX6_rank 208 = .ok (.iaload, 1) := by decide +kernel
theorem dX6_rank_209 : decode cX6_rank 209 = .ok (.istore 4, 2) := by decide +kernel
theorem dX6_rank_211 : decode cX6_rank 211 = .ok (.aload_n 0, 1) := by decide +kernel
theorem dX6_rank_212 : decode cX6_rank 212 = .ok (.getfield 71, 3) := by decide +kernel
theorem dX6_rank_215 : decode cX6_rank 215 = .ok (.iload_n 3, 1) := by decide +kernel
theorem dX6_rank_216 : decode cX6_rank 216 = .ok (.iaload, 1) := by decide +kernel
theorem dX6_rank_217 : decode cX6_rank 217 = .ok (.istore 5, 2) := by decide +kernel
theorem dX6_rank_219 : decode cX6_rank 219 = .ok (.aload_n 0, 1) := by decide +kernel
theorem dX6_rank_220 : decode cX6_rank 220 = .ok (.iload_n 3, 1) := by decide +kernel
theorem dX6_rank_221 : decode cX6_rank 221 = .ok (.invokevirtual 178, 3) := by decide +kernel
theorem dX6_rank_224 : decode cX6_rank 224 = .ok (.iload 4, 2) := by decide +kernel
theorem dX6_rank_226 : decode cX6_rank 226 = .ok (.istore 6, 2) := by decide +kernel
theorem dX6_rank_228 : decode cX6_rank 228 = .ok (.iload 6, 2) := by decide +kernel
theorem dX6_rank_230 : decode cX6_rank 230 = .ok (.aload_n 0, 1) := by decide +kernel
theorem dX6_rank_231 : decode cX6_rank 231 = .ok (.getfield 81, 3) := by decide +kernel
theorem dX6_rank_234 : decode cX6_rank 234 = .ok (.if_icmp .ge 44, 3) := by decide +kernel
theorem dX6_rank_237 : decode cX6_rank 237 = .ok (.aload_n 0, 1) := by decide +kernel
theorem dX6_rank_238 : decode cX6_rank 238 = .ok (.aload_n 0, 1) := by decide +kernel
theorem dX6_rank_239 : decode cX6_rank 239 = .ok (.getfield 74, 3) := by decide +kernel
theorem dX6_rank_242 : decode cX6_rank 242 = .ok (.iconst 0, 1) := by decide +kernel
theorem dX6_rank_243 : decode cX6_rank 243 = .ok (.iload 6, 2) := by decide +kernel
theorem dX6_rank_245 : decode cX6_rank 245 = .ok (.iload 6, 2) := by decide +kernel
theorem dX6_rank_247 : decode cX6_rank 247 = .ok (.iload 4, 2) := by decide +kernel
theorem dX6_rank_249 : decode cX6_rank 249 = .ok (.if_icmp .ne 8, 3) := by decide +kernel
theorem dX6_rank_252 : decode cX6_rank 252 = .ok (.iload 5, 2) := by decide +kernel
theorem dX6_rank_254 : decode cX6_rank 254 = .ok (.goto 4, 3) := by decide +kernel
theorem dX6_rank_257 : decode cX6_rank 257 = .ok (.iconst (-1), 1) := by decide +kernel
theorem dX6_rank_258 : decode cX6_rank 258 = .ok (.aload_n 0, 1) := by decide +kernel
theorem dX6_rank_259 : decode cX6_rank 259 = .ok (.getfield 74, 3) := by decide +kernel
theorem dX6_rank_262 : decode cX6_rank 262 = .ok (.iload 6, 2) := by decide +kernel
theorem dX6_rank_264 : decode cX6_rank 264 = .ok (.iaload, 1) := by decide +kernel
theorem dX6_rank_265 : decode cX6_rank 265 = .ok (.iconst (-1), 1) := by decide +kernel
theorem dX6_rank_266 : decode cX6_rank 266 = .ok (.ixor, 1) := by decide +kernel
theorem dX6_rank_267 : decode cX6_rank 267 = .ok (.iand, 1) := by decide +kernel
theorem dX6_rank_268 : decode cX6_rank 268 = .ok (.iload_n 2, 1) := by decide +kernel
theorem dX6_rank_269 : decode cX6_rank 269 = .ok (.invokevirtual 168, 3) := by decide +kernel
theorem dX6_rank_272 : decode cX6_rank 272 = .ok (.iinc 6 1, 3) := by decide +kernel
theorem dX6_rank_275 : decode cX6_rank 275 = .ok (.goto (-47), 3) := by decide +kernel
theorem dX6_rank_278 : decode cX6_rank 278 = .ok (.goto (-223), 3) := by decide +kernel
theorem dX6_rank_281 : decode cX6_rank 281 = .ok (.aload_n 0, 1) := by decide +kernel
theorem dX6_rank_282 : decode cX6_rank 282 = .ok (.getfield 172, 3) := by decide +kernel
theorem dX6_rank_285 : decode cX6_rank 285 = .ok (.ireturn, 1) := by decide +kernel
theorem dX6_rankedCost_0 : decode cX6_rankedCost 0 = .ok (.aload_n 0, 1) := by decide +kernel
theorem dX6_rankedCost_1 : decode cX6_rankedCost 1 = .ok (.iconst 0, 1) := by decide +kernel
theorem dX6_rankedCost_2 : decode cX6_rankedCost 2 = .ok (.putfield 77, 3) := by decide +kernel
theorem dX6_rankedCost_5 : decode cX6_rankedCost 5 = .ok (.iload_n 1, 1) := by decide +kernel
theorem dX6_rankedCost_6 : decode cX6_rankedCost 6 = .ok (.ifCond .lt 20, 3) := by decide +kernel
theorem dX6_rankedCost_9 : decode cX6_rankedCost 9 = .ok (.iload_n 1, 1) := by decide +kernel
theorem dX6_rankedCost_10 : decode cX6_rankedCost 10 = .ok (.aload_n 0, 1) := by decide +kernel
theorem dX6_rankedCost_11 : decode cX6_rankedCost 11 = .ok (.getfield 172, 3) := by decide +kernel
theorem dX6_rankedCost_14 : decode cX6_rankedCost 14 = .ok (.if_icmp .ge 12, 3) := by decide +kernel
theorem dX6_rankedCost_17 : decode cX6_rankedCost 17 = .ok (.aload_n 0, 1) := by decide +kernel
theorem dX6_rankedCost_18 : decode cX6_rankedCost 18 = .ok (.getfield 56, 3) := by decide +kernel
theorem dX6_rankedCost_21 : decode cX6_rankedCost 21 = .ok (.iload_n 1, 1) := by decide +kernel
theorem dX6_rankedCost_22 : decode cX6_rankedCost 22 = .ok (.iaload, 1) := by decide +kernel
theorem dX6_rankedCost_23 : decode cX6_rankedCost 23 = .ok (.goto 8, 3) := by decide +kernel
theorem dX6_rankedCost_26 : decode cX6_rankedCost 26 = .ok (.aload_n 0, 1) := by decide +kernel
theorem dX6_rankedCost_27 : decode cX6_rankedCost 27 = .ok (.iconst 1, 1) := by decide +kernel
theorem dX6_rankedCost_28 : decode cX6_rankedCost 28 = .ok (.invokevirtual 98, 3) := by decide +kernel
theorem dX6_rankedCost_31 : decode cX6_rankedCost 31 = .ok (.ireturn, 1) := by decide +kernel
theorem dX6_rankedColumn_0 : decode cX6_rankedColumn 0 = .ok (.aload_n 0, 1) := by decide +kernel
theorem dX6_rankedColumn_1 : decode cX6_rankedColumn 1 = .ok (.iconst 0, 1) := by decide +kernel
theorem dX6_rankedColumn_2 : decode cX6_rankedColumn 2 = .ok (.putfield 77, 3) := by decide +kernel
theorem dX6_rankedColumn_5 : decode cX6_rankedColumn 5 = .ok (.iload_n 1, 1) := by decide +kernel
theorem dX6_rankedColumn_6 : decode cX6_rankedColumn 6 = .ok (.ifCond .lt 33, 3) := by decide +kernel
theorem dX6_rankedColumn_9 : decode cX6_rankedColumn 9 = .ok (.iload_n 1, 1) := by decide +kernel
theorem dX6_rankedColumn_10 : decode cX6_rankedColumn 10 = .ok (.aload_n 0, 1) := by decide +kernel
theorem dX6_rankedColumn_11 : decode cX6_rankedColumn 11 = .ok (.getfield 172, 3) := by decide +kernel
theorem dX6_rankedColumn_14 : decode cX6_rankedColumn 14 = .ok (.if_icmp .ge 25, 3) := by decide +kernel
theorem dX6_rankedColumn_17 : decode cX6_rankedColumn 17 = .ok (.aload_n 0, 1) := by decide +kernel
theorem dX6_rankedColumn_18 : decode cX6_rankedColumn 18 = .ok (.iload_n 2, 1) := by decide +kernel
theorem dX6_rankedColumn_19 : decode cX6_rankedColumn 19 = .ok (.invokevirtual 87, 3) := by decide +kernel
theorem dX6_rankedColumn_22 : decode cX6_rankedColumn 22 = .ok (.ifCond .eq 17, 3) := by decide +kernel
theorem dX6_rankedColumn_25 : decode cX6_rankedColumn 25 = .ok (.aload_n 0, 1) := by decide +kernel
theorem dX6_rankedColumn_26 : decode cX6_rankedColumn 26 = .ok (.getfield 59, 3) := by decide +kernel
theorem dX6_rankedColumn_29 : decode cX6_rankedColumn 29 = .ok (.bipush 10, 2) := by decide +kernel
theorem dX6_rankedColumn_31 : decode cX6_rankedColumn 31 = .ok (.iload_n 1, 1) := by decide +kernel
theorem dX6_rankedColumn_32 : decode cX6_rankedColumn 32 = .ok (.imul, 1) := by decide +kernel
theorem dX6_rankedColumn_33 : decode cX6_rankedColumn 33 = .ok (.iload_n 2, 1) := by decide +kernel
theorem dX6_rankedColumn_34 : decode cX6_rankedColumn 34 = .ok (.iadd, 1) := by decide +kernel
theorem dX6_rankedColumn_35 : decode cX6_rankedColumn 35 = .ok (.iaload, 1) := by decide +kernel
theorem dX6_rankedColumn_36 : decode cX6_rankedColumn 36 = .ok (.goto 8, 3) := by decide +kernel
theorem dX6_rankedColumn_39 : decode cX6_rankedColumn 39 = .ok (.aload_n 0, 1) := by decide +kernel
theorem dX6_rankedColumn_40 : decode cX6_rankedColumn 40 = .ok (.iconst 1, 1) := by decide +kernel
theorem dX6_rankedColumn_41 : decode cX6_rankedColumn 41 = .ok (.invokevirtual 98, 3) := by decide +kernel
theorem dX6_rankedColumn_44 : decode cX6_rankedColumn 44 = .ok (.ireturn, 1) := by decide +kernel
theorem dX6_push_0 : decode cX6_push 0 = .ok (.aload_n 0, 1) := by decide +kernel
theorem dX6_push_1 : decode cX6_push 1 = .ok (.iconst 0, 1) := by decide +kernel
theorem dX6_push_2 : decode cX6_push 2 = .ok (.putfield 77, 3) := by decide +kernel
theorem dX6_push_5 : decode cX6_push 5 = .ok (.aload_n 0, 1) := by decide +kernel
theorem dX6_push_6 : decode cX6_push 6 = .ok (.getfield 182, 3) := by decide +kernel
theorem dX6_push_9 : decode cX6_push 9 = .ok (.bipush 8, 2) := by decide +kernel
theorem dX6_push_11 : decode cX6_push 11 = .ok (.if_icmp .ne 9, 3) := by decide +kernel
theorem dX6_push_14 : decode cX6_push 14 = .ok (.aload_n 0, 1) := by decide +kernel
theorem dX6_push_15 : decode cX6_push 15 = .ok (.iconst 1, 1) := by decide +kernel
theorem dX6_push_16 : decode cX6_push 16 = .ok (.invokevirtual 98, 3) := by decide +kernel
theorem dX6_push_19 : decode cX6_push 19 = .ok (.ireturn, 1) := by decide +kernel
theorem dX6_push_20 : decode cX6_push 20 = .ok (.aload_n 0, 1) := by decide +kernel
theorem dX6_push_21 : decode cX6_push 21 = .ok (.getfield 23, 3) := by decide +kernel
theorem dX6_push_24 : decode cX6_push 24 = .ok (.aload_n 0, 1) := by decide +kernel
theorem dX6_push_25 : decode cX6_push 25 = .ok (.getfield 182, 3) := by decide +kernel
theorem dX6_push_28 : decode cX6_push 28 = .ok (.aload_n 0, 1) := by decide +kernel
theorem dX6_push_29 : decode cX6_push 29 = .ok (.getfield 81, 3) := by decide +kernel
theorem dX6_push_32 : decode cX6_push 32 = .ok (.iastore, 1) := by decide +kernel
theorem dX6_push_33 : decode cX6_push 33 = .ok (.aload_n 0, 1) := by decide +kernel
theorem dX6_push_34 : decode cX6_push 34 = .ok (.getfield 26, 3) := by decide +kernel
theorem dX6_push_37 : decode cX6_push 37 = .ok (.aload_n 0, 1) := by decide +kernel
theorem dX6_push_38 : decode cX6_push 38 = .ok (.getfield 182, 3) := by decide +kernel
theorem dX6_push_41 : decode cX6_push 41 = .ok (.aload_n 0, 1) := by decide +kernel
theorem dX6_push_42 : decode cX6_push 42 = .ok (.getfield 84, 3) := by decide +kernel
theorem dX6_push_45 : decode cX6_push 45 = .ok (.iastore, 1) := by decide +kernel
theorem dX6_push_46 : decode cX6_push 46 = .ok (.iconst 0, 1) := by decide +kernel
theorem dX6_push_47 : decode cX6_push 47 = .ok (.istore_n 1, 1) := by decide +kernel
theorem dX6_push_48 : decode cX6_push 48 = .ok (.iload_n 1, 1) := by decide +kernel
theorem dX6_push_49 : decode cX6_push 49 = .ok (.bipush 10, 2) := by decide +kernel
theorem dX6_push_51 : decode cX6_push 51 = .ok (.if_icmp .ge 49, 3) := by decide +kernel
theorem dX6_push_54 : decode cX6_push 54 = .ok (.aload_n 0, 1) := by decide +kernel
theorem dX6_push_55 : decode cX6_push 55 = .ok (.getfield 29, 3) := by decide +kernel
theorem dX6_push_58 : decode cX6_push 58 = .ok (.bipush 10, 2) := by decide +kernel
theorem dX6_push_60 : decode cX6_push 60 = .ok (.aload_n 0, 1) := by decide +kernel
theorem dX6_push_61 : decode cX6_push 61 = .ok (.getfield 182, 3) := by decide +kernel
theorem dX6_push_64 : decode cX6_push 64 = .ok (.imul, 1) := by decide +kernel
theorem dX6_push_65 : decode cX6_push 65 = .ok (.iload_n 1, 1) := by decide +kernel
theorem dX6_push_66 : decode cX6_push 66 = .ok (.iadd, 1) := by decide +kernel
theorem dX6_push_67 : decode cX6_push 67 = .ok (.aload_n 0, 1) := by decide +kernel
theorem dX6_push_68 : decode cX6_push 68 = .ok (.getfield 9, 3) := by decide +kernel
theorem dX6_push_71 : decode cX6_push 71 = .ok (.iload_n 1, 1) := by decide +kernel
theorem dX6_push_72 : decode cX6_push 72 = .ok (.baload, 1) := by decide +kernel
theorem dX6_push_73 : decode cX6_push 73 = .ok (.bastore, 1) := by decide +kernel
theorem dX6_push_74 : decode cX6_push 74 = .ok (.aload_n 0, 1) := by decide +kernel
theorem dX6_push_75 : decode cX6_push 75 = .ok (.getfield 32, 3) := by decide +kernel
theorem dX6_push_78 : decode cX6_push 78 = .ok (.bipush 10, 2) := by decide +kernel
theorem dX6_push_80 : decode cX6_push 80 = .ok (.aload_n 0, 1) := by decide +kernel
theorem dX6_push_81 : decode cX6_push 81 = .ok (.getfield 182, 3) := by decide +kernel
theorem dX6_push_84 : decode cX6_push 84 = .ok (.imul, 1) := by decide +kernel
theorem dX6_push_85 : decode cX6_push 85 = .ok (.iload_n 1, 1) := by decide +kernel
theorem dX6_push_86 : decode cX6_push 86 = .ok (.iadd, 1) := by decide +kernel
theorem dX6_push_87 : decode cX6_push 87 = .ok (.aload_n 0, 1) := by decide +kernel
theorem dX6_push_88 : decode cX6_push 88 = .ok (.getfield 13, 3) := by decide +kernel
theorem dX6_push_91 : decode cX6_push 91 = .ok (.iload_n 1, 1) := by decide +kernel
theorem dX6_push_92 : decode cX6_push 92 = .ok (.baload, 1) := by decide +kernel
theorem dX6_push_93 : decode cX6_push 93 = .ok (.bastore, 1) := by decide +kernel
theorem dX6_push_94 : decode cX6_push 94 = .ok (.iinc 1 1, 3) := by decide +kernel
theorem dX6_push_97 : decode cX6_push 97 = .ok (.goto (-49), 3) := by decide +kernel
theorem dX6_push_100 : decode cX6_push 100 = .ok (.iconst 0, 1) := by decide +kernel
theorem dX6_push_101 : decode cX6_push 101 = .ok (.istore_n 1, 1) := by decide +kernel
theorem dX6_push_102 : decode cX6_push 102 = .ok (.iload_n 1, 1) := by decide +kernel
theorem dX6_push_103 : decode cX6_push 103 = .ok (.bipush 100, 2) := by decide +kernel
theorem dX6_push_105 : decode cX6_push 105 = .ok (.if_icmp .ge 49, 3) := by decide +kernel
theorem dX6_push_108 : decode cX6_push 108 = .ok (.aload_n 0, 1) := by decide +kernel
theorem dX6_push_109 : decode cX6_push 109 = .ok (.getfield 35, 3) := by decide +kernel
theorem dX6_push_112 : decode cX6_push 112 = .ok (.bipush 100, 2) := by decide +kernel
theorem dX6_push_114 : decode cX6_push 114 = .ok (.aload_n 0, 1) := by decide +kernel
theorem dX6_push_115 : decode cX6_push 115 = .ok (.getfield 182, 3) := by decide +kernel
theorem dX6_push_118 : decode cX6_push 118 = .ok (.imul, 1) := by decide +kernel
theorem dX6_push_119 : decode cX6_push 119 = .ok (.iload_n 1, 1) := by decide +kernel
theorem dX6_push_120 : decode cX6_push 120 = .ok (.iadd, 1) := by decide +kernel
theorem dX6_push_121 : decode cX6_push 121 = .ok (.aload_n 0, 1) := by decide +kernel
theorem dX6_push_122 : decode cX6_push 122 = .ok (.getfield 16, 3) := by decide +kernel
theorem dX6_push_125 : decode cX6_push 125 = .ok (.iload_n 1, 1) := by decide +kernel
theorem dX6_push_126 : decode cX6_push 126 = .ok (.baload, 1) := by decide +kernel
theorem dX6_push_127 : decode cX6_push 127 = .ok (.bastore, 1) := by decide +kernel
theorem dX6_push_128 : decode cX6_push 128 = .ok (.aload_n 0, 1) := by decide +kernel
theorem dX6_push_129 : decode cX6_push 129 = .ok (.getfield 38, 3) := by decide +kernel
theorem dX6_push_132 : decode cX6_push 132 = .ok (.bipush 100, 2) := by decide +kernel
theorem dX6_push_134 : decode cX6_push 134 = .ok (.aload_n 0, 1) := by decide +kernel
theorem dX6_push_135 : decode cX6_push 135 = .ok (.getfield 182, 3) := by decide +kernel
theorem dX6_push_138 : decode cX6_push 138 = .ok (.imul, 1) := by decide +kernel
theorem dX6_push_139 : decode cX6_push 139 = .ok (.iload_n 1, 1) := by decide +kernel
theorem dX6_push_140 : decode cX6_push 140 = .ok (.iadd, 1) := by decide +kernel
theorem dX6_push_141 : decode cX6_push 141 = .ok (.aload_n 0, 1) := by decide +kernel
theorem dX6_push_142 : decode cX6_push 142 = .ok (.getfield 19, 3) := by decide +kernel
theorem dX6_push_145 : decode cX6_push 145 = .ok (.iload_n 1, 1) := by decide +kernel
theorem dX6_push_146 : decode cX6_push 146 = .ok (.iaload, 1) := by decide +kernel
theorem dX6_push_147 : decode cX6_push 147 = .ok (.iastore, 1) := by decide +kernel
theorem dX6_push_148 : decode cX6_push 148 = .ok (.iinc 1 1, 3) := by decide +kernel
theorem dX6_push_151 : decode cX6_push 151 = .ok (.goto (-49), 3) := by decide +kernel
theorem dX6_push_154 : decode cX6_push 154 = .ok (.aload_n 0, 1) := by decide +kernel
theorem dX6_push_155 : decode cX6_push 155 = .ok (.dup, 1) := by decide +kernel
theorem dX6_push_156 : decode cX6_push 156 = .ok (.getfield 182, 3) := by decide +kernel
theorem dX6_push_159 : decode cX6_push 159 = .ok (.iconst 1, 1) := by decide +kernel
theorem dX6_push_160 : decode cX6_push 160 = .ok (.iadd, 1) := by decide +kernel
theorem dX6_push_161 : decode cX6_push 161 = .ok (.putfield 182, 3) := by decide +kernel
theorem dX6_push_164 : decode cX6_push 164 = .ok (.aload_n 0, 1) := by decide +kernel
theorem dX6_push_165 : decode cX6_push 165 = .ok (.getfield 182, 3) := by decide +kernel
theorem dX6_push_168 : decode cX6_push 168 = .ok (.ireturn, 1) := by decide +kernel
theorem dX6_pop_0 : decode cX6_pop 0 = .ok (.aload_n 0, 1) := by decide +kernel
theorem dX6_pop_1 : decode cX6_pop 1 = .ok (.iconst 0, 1) := by decide +kernel
theorem dX6_pop_2 : decode cX6_pop 2 = .ok (.putfield 77, 3) := by decide +kernel
theorem dX6_pop_5 : decode cX6_pop 5 = .ok (.aload_n 0, 1) := by decide +kernel
theorem dX6_pop_6 : decode cX6_pop 6 = .ok (.getfield 182, 3) := by decide +kernel
theorem dX6_pop_9 : decode cX6_pop 9 = .ok (.ifCond .ne 9, 3) := by decide +kernel
theorem dX6_pop_12 : decode cX6_pop 12 = .ok (.aload_n 0, 1) := by decide +kernel
theorem dX6_pop_13 : decode cX6_pop 13 = .ok (.iconst 1, 1) := by decide +kernel
theorem dX6_pop_14 : decode cX6_pop 14 = .ok (.invokevirtual 98, 3) := by decide +kernel
theorem dX6_pop_17 : decode cX6_pop 17 = .ok (.ireturn, 1) := by decide +kernel
theorem dX6_pop_18 : decode cX6_pop 18 = .ok (.aload_n 0, 1) := by decide +kernel
theorem dX6_pop_19 : decode cX6_pop 19 = .ok (.dup, 1) := by decide +kernel
theorem dX6_pop_20 : decode cX6_pop 20 = .ok (.getfield 182, 3) := by decide +kernel
theorem dX6_pop_23 : decode cX6_pop 23 = .ok (.iconst 1, 1) := by decide +kernel
theorem dX6_pop_24 : decode cX6_pop 24 = .ok (.isub, 1) := by decide +kernel
theorem dX6_pop_25 : decode cX6_pop 25 = .ok (.putfield 182, 3) := by decide +kernel
theorem dX6_pop_28 : decode cX6_pop 28 = .ok (.iconst 0, 1) := by decide +kernel
theorem dX6_pop_29 : decode cX6_pop 29 = .ok (.istore_n 1, 1) := by decide +kernel
theorem dX6_pop_30 : decode cX6_pop 30 = .ok (.iload_n 1, 1) := by decide +kernel
theorem dX6_pop_31 : decode cX6_pop 31 = .ok (.bipush 10, 2) := by decide +kernel
theorem dX6_pop_33 : decode cX6_pop 33 = .ok (.if_icmp .ge 91, 3) := by decide +kernel
theorem dX6_pop_36 : decode cX6_pop 36 = .ok (.aload_n 0, 1) := by decide +kernel
theorem dX6_pop_37 : decode cX6_pop 37 = .ok (.getfield 9, 3) := by decide +kernel
theorem dX6_pop_40 : decode cX6_pop 40 = .ok (.iload_n 1, 1) := by decide +kernel
theorem dX6_pop_41 : decode cX6_pop 41 = .ok (.iload_n 1, 1) := by decide +kernel
theorem dX6_pop_42 : decode cX6_pop 42 = .ok (.aload_n 0, 1) := by decide +kernel
theorem dX6_pop_43 : decode cX6_pop 43 = .ok (.getfield 23, 3) := by decide +kernel
theorem dX6_pop_46 : decode cX6_pop 46 = .ok (.aload_n 0, 1) := by decide +kernel
theorem dX6_pop_47 : decode cX6_pop 47 = .ok (.getfield 182, 3) := by decide +kernel
theorem dX6_pop_50 : decode cX6_pop 50 = .ok (.iaload, 1) := by decide +kernel
theorem dX6_pop_51 : decode cX6_pop 51 = .ok (.if_icmp .ge 24, 3) := by decide +kernel
theorem dX6_pop_54 : decode cX6_pop 54 = .ok (.aload_n 0, 1) := by decide +kernel
theorem dX6_pop_55 : decode cX6_pop 55 = .ok (.getfield 29, 3) := by decide +kernel
theorem dX6_pop_58 : decode cX6_pop 58 = .ok (.bipush 10, 2) := by decide +kernel
theorem dX6_pop_60 : decode cX6_pop 60 = .ok (.aload_n 0, 1) := by decide +kernel
theorem dX6_pop_61 : decode cX6_pop 61 = .ok (.getfield 182, 3) := by decide +kernel
theorem dX6_pop_64 : decode cX6_pop 64 = .ok (.imul, 1) := by decide +kernel
theorem dX6_pop_65 : decode cX6_pop 65 = .ok (.iload_n 1, 1) := by decide +kernel
theorem dX6_pop_66 : decode cX6_pop 66 = .ok (.iadd, 1) := by decide +kernel
theorem dX6_pop_67 : decode cX6_pop 67 = .ok (.baload, 1) := by decide +kernel
theorem dX6_pop_68 : decode cX6_pop 68 = .ok (.ifCond .eq 7, 3) := by decide +kernel
theorem dX6_pop_71 : decode cX6_pop 71 = .ok (.iconst 1, 1) := by decide +kernel
theorem dX6_pop_72 : decode cX6_pop 72 = .ok (.goto 4, 3) := by decide +kernel
theorem dX6_pop_75 : decode cX6_pop 75 = .ok (.iconst 0, 1) := by decide +kernel
theorem dX6_pop_76 : decode cX6_pop 76 = .ok (.bastore, 1) := by decide +kernel
theorem dX6_pop_77 : decode cX6_pop 77 = .ok (.aload_n 0, 1) := by decide +kernel
theorem dX6_pop_78 : decode cX6_pop 78 = .ok (.getfield 13, 3) := by decide +kernel
theorem dX6_pop_81 : decode cX6_pop 81 = .ok (.iload_n 1, 1) := by decide +kernel
theorem dX6_pop_82 : decode cX6_pop 82 = .ok (.iload_n 1, 1) := by decide +kernel
theorem dX6_pop_83 : decode cX6_pop 83 = .ok (.aload_n 0, 1) := by decide +kernel
theorem dX6_pop_84 : decode cX6_pop 84 = .ok (.getfield 26, 3) := by decide +kernel
theorem dX6_pop_87 : decode cX6_pop 87 = .ok (.aload_n 0, 1) := by decide +kernel
theorem dX6_pop_88 : decode cX6_pop 88 = .ok (.getfield 182, 3) := by decide +kernel
theorem dX6_pop_91 : decode cX6_pop 91 = .ok (.iaload, 1) := by decide +kernel
theorem dX6_pop_92 : decode cX6_pop 92 = .ok (.if_icmp .ge 24, 3) := by decide +kernel
theorem dX6_pop_95 : decode cX6_pop 95 = .ok (.aload_n 0, 1) := by decide +kernel
theorem dX6_pop_96 : decode cX6_pop 96 = .ok (.getfield 32, 3) := by decide +kernel
theorem dX6_pop_99 : decode cX6_pop 99 = .ok (.bipush 10, 2) := by decide +kernel
theorem dX6_pop_101 : decode cX6_pop 101 = .ok (.aload_n 0, 1) := by decide +kernel
theorem dX6_pop_102 : decode cX6_pop 102 = .ok (.getfield 182, 3) := by decide +kernel
theorem dX6_pop_105 : decode cX6_pop 105 = .ok (.imul, 1) := by decide +kernel
theorem dX6_pop_106 : decode cX6_pop 106 = .ok (.iload_n 1, 1) := by decide +kernel
theorem dX6_pop_107 : decode cX6_pop 107 = .ok (.iadd, 1) := by decide +kernel
theorem dX6_pop_108 : decode cX6_pop 108 = .ok (.baload, 1) := by decide +kernel
theorem dX6_pop_109 : decode cX6_pop 109 = .ok (.ifCond .eq 7, 3) := by decide +kernel
theorem dX6_pop_112 : decode cX6_pop 112 = .ok (.iconst 1, 1) := by decide +kernel
theorem dX6_pop_113 : decode cX6_pop 113 = .ok (.goto 4, 3) := by decide +kernel
theorem dX6_pop_116 : decode cX6_pop 116 = .ok (.iconst 0, 1) := by decide +kernel
theorem dX6_pop_117 : decode cX6_pop 117 = .ok (.bastore, 1) := by decide +kernel
theorem dX6_pop_118 : decode cX6_pop 118 = .ok (.iinc 1 1, 3) := by decide +kernel
theorem dX6_pop_121 : decode cX6_pop 121 = .ok (.goto (-91), 3) := by decide +kernel
theorem dX6_pop_124 : decode cX6_pop 124 = .ok (.iconst 0, 1) := by decide +kernel
theorem dX6_pop_125 : decode cX6_pop 125 = .ok (.istore_n 1, 1) := by decide +kernel
theorem dX6_pop_126 : decode cX6_pop 126 = .ok (.iload_n 1, 1) := by decide +kernel
theorem dX6_pop_127 : decode cX6_pop 127 = .ok (.bipush 100, 2) := by decide +kernel
theorem dX6_pop_129 : decode cX6_pop 129 = .ok (.if_icmp .ge 49, 3) := by decide +kernel
theorem dX6_pop_132 : decode cX6_pop 132 = .ok (.aload_n 0, 1) := by decide +kernel
theorem dX6_pop_133 : decode cX6_pop 133 = .ok (.getfield 16, 3) := by decide +kernel
theorem dX6_pop_136 : decode cX6_pop 136 = .ok (.iload_n 1, 1) := by decide +kernel
theorem dX6_pop_137 : decode cX6_pop 137 = .ok (.aload_n 0, 1) := by decide +kernel
theorem dX6_pop_138 : decode cX6_pop 138 = .ok (.getfield 35, 3) := by decide +kernel
theorem dX6_pop_141 : decode cX6_pop 141 = .ok (.bipush 100, 2) := by decide +kernel
theorem dX6_pop_143 : decode cX6_pop 143 = .ok (.aload_n 0, 1) := by decide +kernel
theorem dX6_pop_144 : decode cX6_pop 144 = .ok (.getfield 182, 3) := by decide +kernel
theorem dX6_pop_147 : decode cX6_pop 147 = .ok (.imul, 1) := by decide +kernel
theorem dX6_pop_148 : decode cX6_pop 148 = .ok (.iload_n 1, 1) := by decide +kernel
theorem dX6_pop_149 : decode cX6_pop 149 = .ok (.iadd, 1) := by decide +kernel
theorem dX6_pop_150 : decode cX6_pop 150 = .ok (.baload, 1) := by decide +kernel
theorem dX6_pop_151 : decode cX6_pop 151 = .ok (.bastore, 1) := by decide +kernel
theorem dX6_pop_152 : decode cX6_pop 152 = .ok (.aload_n 0, 1) := by decide +kernel
theorem dX6_pop_153 : decode cX6_pop 153 = .ok (.getfield 19, 3) := by decide +kernel
theorem dX6_pop_156 : decode cX6_pop 156 = .ok (.iload_n 1, 1) := by decide +kernel
theorem dX6_pop_157 : decode cX6_pop 157 = .ok (.aload_n 0, 1) := by decide +kernel
theorem dX6_pop_158 : decode cX6_pop 158 = .ok (.getfield 38, 3) := by decide +kernel
theorem dX6_pop_161 : decode cX6_pop 161 = .ok (.bipush 100, 2) := by decide +kernel
theorem dX6_pop_163 : decode cX6_pop 163 = .ok (.aload_n 0, 1) := by decide +kernel
theorem dX6_pop_164 : decode cX6_pop 164 = .ok (.getfield 182, 3) := by decide +kernel
theorem dX6_pop_167 : decode cX6_pop 167 = .ok (.imul, 1) := by decide +kernel
theorem dX6_pop_168 : decode cX6_pop 168 = .ok (.iload_n 1, 1) := by decide +kernel
theorem dX6_pop_169 : decode cX6_pop 169 = .ok (.iadd, 1) := by decide +kernel
theorem dX6_pop_170 : decode cX6_pop 170 = .ok (.iaload, 1) := by decide +kernel
theorem dX6_pop_171 : decode cX6_pop 171 = .ok (.iastore, 1) := by decide +kernel
theorem dX6_pop_172 : decode cX6_pop 172 = .ok (.iinc 1 1, 3) := by decide +kernel
theorem dX6_pop_175 : decode cX6_pop 175 = .ok (.goto (-49), 3) := by decide +kernel
theorem dX6_pop_178 : decode cX6_pop 178 = .ok (.aload_n 0, 1) := by decide +kernel
theorem dX6_pop_179 : decode cX6_pop 179 = .ok (.getfield 182, 3) := by decide +kernel
theorem dX6_pop_182 : decode cX6_pop 182 = .ok (.ireturn, 1) := by decide +kernel
theorem dX6_digest_0 : decode cX6_digest 0 = .ok (.aload_n 0, 1) := by decide +kernel
theorem dX6_digest_1 : decode cX6_digest 1 = .ok (.iconst 0, 1) := by decide +kernel
theorem dX6_digest_2 : decode cX6_digest 2 = .ok (.putfield 77, 3) := by decide +kernel
theorem dX6_digest_5 : decode cX6_digest 5 = .ok (.ldc2_w 185, 3) := by decide +kernel
theorem dX6_digest_8 : decode cX6_digest 8 = .ok (.aload_n 0, 1) := by decide +kernel
theorem dX6_digest_9 : decode cX6_digest 9 = .ok (.getfield 81, 3) := by decide +kernel
theorem dX6_digest_12 : decode cX6_digest 12 = .ok (.i2l, 1) := by decide +kernel
theorem dX6_digest_13 : decode cX6_digest 13 = .ok (.ladd, 1) := by decide +kernel
theorem dX6_digest_14 : decode cX6_digest 14 = .ok (.ldc2_w 187, 3) := by decide +kernel
theorem dX6_digest_17 : decode cX6_digest 17 = .ok (.lmul, 1) := by decide +kernel
theorem dX6_digest_18 : decode cX6_digest 18 = .ok (.aload_n 0, 1) := by decide +kernel
theorem dX6_digest_19 : decode cX6_digest 19 = .ok (.getfield 84, 3) := by decide +kernel
theorem dX6_digest_22 : decode cX6_digest 22 = .ok (.i2l, 1) := by decide +kernel
theorem dX6_digest_23 : decode cX6_digest 23 = .ok (.ladd, 1) := by decide +kernel
theorem dX6_digest_24 : decode cX6_digest 24 = .ok (.ldc2_w 187, 3) := by decide +kernel
theorem dX6_digest_27 : decode cX6_digest 27 = .ok (.lmul, 1) := by decide +kernel
theorem dX6_digest_28 : decode cX6_digest 28 = .ok (.aload_n 0, 1) := by decide +kernel
theorem dX6_digest_29 : decode cX6_digest 29 = .ok (.getfield 182, 3) := by decide +kernel
theorem dX6_digest_32 : decode cX6_digest 32 = .ok (.i2l, 1) := by decide +kernel
theorem dX6_digest_33 : decode cX6_digest 33 = .ok (.ladd, 1) := by decide +kernel
theorem dX6_digest_34 : decode cX6_digest 34 = .ok (.lstore_n 1, 1) := by decide +kernel
theorem dX6_digest_35 : decode cX6_digest 35 = .ok (.iconst 0, 1) := by decide +kernel
theorem dX6_digest_36 : decode cX6_digest 36 = .ok (.istore_n 3, 1) := by decide +kernel
theorem dX6_digest_37 : decode cX6_digest 37 = .ok (.iload_n 3, 1) := by decide +kernel
theorem dX6_digest_38 : decode cX6_digest 38 = .ok (.aload_n 0, 1) := by decide +kernel
theorem dX6_digest_39 : decode cX6_digest 39 = .ok (.getfield 81, 3) := by decide +kernel
theorem dX6_digest_42 : decode cX6_digest 42 = .ok (.if_icmp .ge 30, 3) := by decide +kernel
theorem dX6_digest_45 : decode cX6_digest 45 = .ok (.lload_n 1, 1) := by decide +kernel
theorem dX6_digest_46 : decode cX6_digest 46 = .ok (.ldc2_w 187, 3) := by decide +kernel
theorem dX6_digest_49 : decode cX6_digest 49 = .ok (.lmul, 1) := by decide +kernel
theorem dX6_digest_50 : decode cX6_digest 50 = .ok (.aload_n 0, 1) := by decide +kernel
theorem dX6_digest_51 : decode cX6_digest 51 = .ok (.getfield 9, 3) := by decide +kernel
theorem dX6_digest_54 : decode cX6_digest 54 = .ok (.iload_n 3, 1) := by decide +kernel
theorem dX6_digest_55 : decode cX6_digest 55 = .ok (.baload, 1) := by decide +kernel
theorem dX6_digest_56 : decode cX6_digest 56 = .ok (.ifCond .eq 7, 3) := by decide +kernel
theorem dX6_digest_59 : decode cX6_digest 59 = .ok (.lconst 1, 1) := by decide +kernel
theorem dX6_digest_60 : decode cX6_digest 60 = .ok (.goto 4, 3) := by decide +kernel
theorem dX6_digest_63 : decode cX6_digest 63 = .ok (.lconst 0, 1) := by decide +kernel
theorem dX6_digest_64 : decode cX6_digest 64 = .ok (.ladd, 1) := by decide +kernel
theorem dX6_digest_65 : decode cX6_digest 65 = .ok (.lstore_n 1, 1) := by decide +kernel
theorem dX6_digest_66 : decode cX6_digest 66 = .ok (.iinc 3 1, 3) := by decide +kernel
theorem dX6_digest_69 : decode cX6_digest 69 = .ok (.goto (-32), 3) := by decide +kernel
theorem dX6_digest_72 : decode cX6_digest 72 = .ok (.iconst 0, 1) := by decide +kernel
theorem dX6_digest_73 : decode cX6_digest 73 = .ok (.istore_n 3, 1) := by decide +kernel
theorem dX6_digest_74 : decode cX6_digest 74 = .ok (.iload_n 3, 1) := by decide +kernel
theorem dX6_digest_75 : decode cX6_digest 75 = .ok (.aload_n 0, 1) := by decide +kernel
theorem dX6_digest_76 : decode cX6_digest 76 = .ok (.getfield 84, 3) := by decide +kernel
theorem dX6_digest_79 : decode cX6_digest 79 = .ok (.if_icmp .ge 30, 3) := by decide +kernel
theorem dX6_digest_82 : decode cX6_digest 82 = .ok (.lload_n 1, 1) := by decide +kernel
theorem dX6_digest_83 : decode cX6_digest 83 = .ok (.ldc2_w 187, 3) := by decide +kernel
theorem dX6_digest_86 : decode cX6_digest 86 = .ok (.lmul, 1) := by decide +kernel
theorem dX6_digest_87 : decode cX6_digest 87 = .ok (.aload_n 0, 1) := by decide +kernel
theorem dX6_digest_88 : decode cX6_digest 88 = .ok (.getfield 13, 3) := by decide +kernel
theorem dX6_digest_91 : decode cX6_digest 91 = .ok (.iload_n 3, 1) := by decide +kernel
theorem dX6_digest_92 : decode cX6_digest 92 = .ok (.baload, 1) := by decide +kernel
theorem dX6_digest_93 : decode cX6_digest 93 = .ok (.ifCond .eq 7, 3) := by decide +kernel
theorem dX6_digest_96 : decode cX6_digest 96 = .ok (.lconst 1, 1) := by decide +kernel
theorem dX6_digest_97 : decode cX6_digest 97 = .ok (.goto 4, 3) := by decide +kernel
theorem dX6_digest_100 : decode cX6_digest 100 = .ok (.lconst 0, 1) := by decide +kernel
theorem dX6_digest_101 : decode cX6_digest 101 = .ok (.ladd, 1) := by decide +kernel
theorem dX6_digest_102 : decode cX6_digest 102 = .ok (.lstore_n 1, 1) := by decide +kernel
theorem dX6_digest_103 : decode cX6_digest 103 = .ok (.iinc 3 1, 3) := by decide +kernel
theorem dX6_digest_106 : decode cX6_digest 106 = .ok (.goto (-32), 3) := by decide +kernel
theorem dX6_digest_109 : decode cX6_digest 109 = .ok (.iconst 0, 1) := by decide +kernel
theorem dX6_digest_110 : decode cX6_digest 110 = .ok (.istore_n 3, 1) := by decide +kernel
theorem dX6_digest_111 : decode cX6_digest 111 = .ok (.iload_n 3, 1) := by decide +kernel
theorem dX6_digest_112 : decode cX6_digest 112 = .ok (.aload_n 0, 1) := by decide +kernel
theorem dX6_digest_113 : decode cX6_digest 113 = .ok (.getfield 81, 3) := by decide +kernel
theorem dX6_digest_116 : decode cX6_digest 116 = .ok (.if_icmp .ge 68, 3) := by decide +kernel
theorem dX6_digest_119 : decode cX6_digest 119 = .ok (.iconst 0, 1) := by decide +kernel
theorem dX6_digest_120 : decode cX6_digest 120 = .ok (.istore 4, 2) := by decide +kernel
theorem dX6_digest_122 : decode cX6_digest 122 = .ok (.iload 4, 2) := by decide +kernel
theorem dX6_digest_124 : decode cX6_digest 124 = .ok (.aload_n 0, 1) := by decide +kernel
theorem dX6_digest_125 : decode cX6_digest 125 = .ok (.getfield 84, 3) := by decide +kernel
theorem dX6_digest_128 : decode cX6_digest 128 = .ok (.if_icmp .ge 50, 3) := by decide +kernel
theorem dX6_digest_131 : decode cX6_digest 131 = .ok (.lload_n 1, 1) := by decide +kernel
theorem dX6_digest_132 : decode cX6_digest 132 = .ok (.ldc2_w 187, 3) := by decide +kernel
theorem dX6_digest_135 : decode cX6_digest 135 = .ok (.lmul, 1) := by decide +kernel
theorem dX6_digest_136 : decode cX6_digest 136 = .ok (.aload_n 0, 1) := by decide +kernel
theorem dX6_digest_137 : decode cX6_digest 137 = .ok (.getfield 16, 3) := by decide +kernel
theorem dX6_digest_140 : decode cX6_digest 140 = .ok (.bipush 10, 2) := by decide +kernel
theorem dX6_digest_142 : decode cX6_digest 142 = .ok (.iload_n 3, 1) := by decide +kernel
theorem dX6_digest_143 : decode cX6_digest 143 = .ok (.imul, 1) := by decide +kernel
theorem dX6_digest_144 : decode cX6_digest 144 = .ok (.iload 4, 2) := by decide +kernel
theorem dX6_digest_146 : decode cX6_digest 146 = .ok (.iadd, 1) := by decide +kernel
theorem dX6_digest_147 : decode cX6_digest 147 = .ok (.baload, 1) := by decide +kernel
theorem dX6_digest_148 : decode cX6_digest 148 = .ok (.ifCond .eq 18, 3) := by decide +kernel
theorem dX6_digest_151 : decode cX6_digest 151 = .ok (.aload_n 0, 1) := by decide +kernel
theorem dX6_digest_152 : decode cX6_digest 152 = .ok (.getfield 19, 3) := by decide +kernel
theorem dX6_digest_155 : decode cX6_digest 155 = .ok (.bipush 10, 2) := by decide +kernel
theorem dX6_digest_157 : decode cX6_digest 157 = .ok (.iload_n 3, 1) := by decide +kernel
theorem dX6_digest_158 : decode cX6_digest 158 = .ok (.imul, 1) := by decide +kernel
theorem dX6_digest_159 : decode cX6_digest 159 = .ok (.iload 4, 2) := by decide +kernel
theorem dX6_digest_161 : decode cX6_digest 161 = .ok (.iadd, 1) := by decide +kernel
theorem dX6_digest_162 : decode cX6_digest 162 = .ok (.iaload, 1) := by decide +kernel
theorem dX6_digest_163 : decode cX6_digest 163 = .ok (.goto 6, 3) := by decide +kernel
theorem dX6_digest_166 : decode cX6_digest 166 = .ok (.sipush 20000, 3) := by decide +kernel
theorem dX6_digest_169 : decode cX6_digest 169 = .ok (.i2l, 1) := by decide +kernel
theorem dX6_digest_170 : decode cX6_digest 170 = .ok (.ladd, 1) := by decide +kernel
theorem dX6_digest_171 : decode cX6_digest 171 = .ok (.lstore_n 1, 1) := by decide +kernel
theorem dX6_digest_172 : decode cX6_digest 172 = .ok (.iinc 4 1, 3) := by decide +kernel
theorem dX6_digest_175 : decode cX6_digest 175 = .ok (.goto (-53), 3) := by decide +kernel
theorem dX6_digest_178 : decode cX6_digest 178 = .ok (.iinc 3 1, 3) := by decide +kernel
theorem dX6_digest_181 : decode cX6_digest 181 = .ok (.goto (-70), 3) := by decide +kernel
theorem dX6_digest_184 : decode cX6_digest 184 = .ok (.aload_n 0, 1) := by decide +kernel
theorem dX6_digest_185 : decode cX6_digest 185 = .ok (.invokevirtual 146, 3) := by decide +kernel
theorem dX6_digest_188 : decode cX6_digest 188 = .ok (.aload_n 0, 1) := by decide +kernel
theorem dX6_digest_189 : decode cX6_digest 189 = .ok (.invokevirtual 149, 3) := by decide +kernel
theorem dX6_digest_192 : decode cX6_digest 192 = .ok (.lload_n 1, 1) := by decide +kernel
theorem dX6_digest_193 : decode cX6_digest 193 = .ok (.ldc2_w 187, 3) := by decide +kernel
theorem dX6_digest_196 : decode cX6_digest 196 = .ok (.lmul, 1) := by decide +kernel
theorem dX6_digest_197 : decode cX6_digest 197 = .ok (.aload_n 0, 1) := by decide +kernel
theorem dX6_digest_198 : decode cX6_digest 198 = .ok (.getfield 41, 3) := by decide +kernel
theorem dX6_digest_201 : decode cX6_digest 201 = .ok (.iconst 0, 1) := by decide +kernel
theorem dX6_digest_202 : decode cX6_digest 202 = .ok (.iaload, 1) := by decide +kernel
theorem dX6_digest_203 : decode cX6_digest 203 = .ok (.i2l, 1) := by decide +kernel
theorem dX6_digest_204 : decode cX6_digest 204 = .ok (.ladd, 1) := by decide +kernel
theorem dX6_digest_205 : decode cX6_digest 205 = .ok (.ldc2_w 187, 3) := by decide +kernel
theorem dX6_digest_208 : decode cX6_digest 208 = .ok (.lmul, 1) := by decide +kernel
theorem dX6_digest_209 : decode cX6_digest 209 = .ok (.aload_n 0, 1) := by decide +kernel
theorem dX6_digest_210 : decode cX6_digest 210 = .ok (.getfield 44, 3) := by decide +kernel
theorem dX6_digest_213 : decode cX6_digest 213 = .ok (.iconst 0, 1) := by decide +kernel
theorem dX6_digest_214 : decode cX6_digest 214 = .ok (.iaload, 1) := by decide +kernel
theorem dX6_digest_215 : decode cX6_digest 215 = .ok (.i2l, 1) := by decide +kernel
theorem dX6_digest_216 : decode cX6_digest 216 = .ok (.ladd, 1) := by decide +kernel
theorem dX6_digest_217 : decode cX6_digest 217 = .ok (.lstore_n 1, 1) := by decide +kernel
theorem dX6_digest_218 : decode cX6_digest 218 = .ok (.iconst 0, 1) := by decide +kernel
theorem dX6_digest_219 : decode cX6_digest 219 = .ok (.istore_n 3, 1) := by decide +kernel
theorem dX6_digest_220 : decode cX6_digest 220 = .ok (.iload_n 3, 1) := by decide +kernel
theorem dX6_digest_221 : decode cX6_digest 221 = .ok (.aload_n 0, 1) := by decide +kernel
theorem dX6_digest_222 : decode cX6_digest 222 = .ok (.getfield 81, 3) := by decide +kernel
theorem dX6_digest_225 : decode cX6_digest 225 = .ok (.if_icmp .ge 26, 3) := by decide +kernel
theorem dX6_digest_228 : decode cX6_digest 228 = .ok (.lload_n 1, 1) := by decide +kernel
theorem dX6_digest_229 : decode cX6_digest 229 = .ok (.ldc2_w 187, 3) := by decide +kernel
theorem dX6_digest_232 : decode cX6_digest 232 = .ok (.lmul, 1) := by decide +kernel
theorem dX6_digest_233 : decode cX6_digest 233 = .ok (.aload_n 0, 1) := by decide +kernel
theorem dX6_digest_234 : decode cX6_digest 234 = .ok (.getfield 53, 3) := by decide +kernel
theorem dX6_digest_237 : decode cX6_digest 237 = .ok (.iload_n 3, 1) := by decide +kernel
theorem dX6_digest_238 : decode cX6_digest 238 = .ok (.iaload, 1) := by decide +kernel
theorem dX6_digest_239 : decode cX6_digest 239 = .ok (.invokestatic 134, 3) := by decide +kernel
theorem dX6_digest_242 : decode cX6_digest 242 = .ok (.i2l, 1) := by decide +kernel
theorem dX6_digest_243 : decode cX6_digest 243 = .ok (.ladd, 1) := by decide +kernel
theorem dX6_digest_244 : decode cX6_digest 244 = .ok (.lstore_n 1, 1) := by decide +kernel
theorem dX6_digest_245 : decode cX6_digest 245 = .ok (.iinc 3 1, 3) := by decide +kernel
theorem dX6_digest_248 : decode cX6_digest 248 = .ok (.goto (-28), 3) := by decide +kernel
theorem dX6_digest_251 : decode cX6_digest 251 = .ok (.lload_n 1, 1) := by decide +kernel
theorem dX6_digest_252 : decode cX6_digest 252 = .ok (.lreturn, 1) := by decide +kernel
theorem dJx00060_init_a7421_0 : decode cJx00060_init_a7421 0 = .ok (.aload_n 0, 1) := by decide +kernel
theorem dJx00060_init_a7421_1 : decode cJx00060_init_a7421 1 = .ok (.aload_n 1, 1) := by decide +kernel
theorem dJx00060_init_a7421_2 : decode cJx00060_init_a7421 2 = .ok (.invokespecial 7, 3) := by decide +kernel
theorem dJx00060_init_a7421_5 : decode cJx00060_init_a7421 5 = .ok (.return_, 1) := by decide +kernel
theorem dJ6_bitCount_0f7a4_0 : decode cJ6_bitCount_0f7a4 0 = .ok (.iload_n 0, 1) := by decide +kernel
theorem dJ6_bitCount_0f7a4_1 : decode cJ6_bitCount_0f7a4 1 = .ok (.iload_n 0, 1) := by decide +kernel
theorem dJ6_bitCount_0f7a4_2 : decode cJ6_bitCount_0f7a4 2 = .ok (.iconst 1, 1) := by decide +kernel
theorem dJ6_bitCount_0f7a4_3 : decode cJ6_bitCount_0f7a4 3 = .ok (.iushr, 1) := by decide +kernel
theorem dJ6_bitCount_0f7a4_4 : decode cJ6_bitCount_0f7a4 4 = .ok (.ldc_w 265, 3) := by decide +kernel
theorem dJ6_bitCount_0f7a4_7 : decode cJ6_bitCount_0f7a4 7 = .ok (.iand, 1) := by decide +kernel
theorem dJ6_bitCount_0f7a4_8 : decode cJ6_bitCount_0f7a4 8 = .ok (.isub, 1) := by decide +kernel
theorem dJ6_bitCount_0f7a4_9 : decode cJ6_bitCount_0f7a4 9 = .ok (.istore_n 0, 1) := by decide +kernel
theorem dJ6_bitCount_0f7a4_10 : decode cJ6_bitCount_0f7a4 10 = .ok (.iload_n 0, 1) := by decide +kernel
theorem dJ6_bitCount_0f7a4_11 : decode cJ6_bitCount_0f7a4 11 = .ok (.ldc_w 266, 3) := by decide +kernel
theorem dJ6_bitCount_0f7a4_14 : decode cJ6_bitCount_0f7a4 14 = .ok (.iand, 1) := by decide +kernel
theorem dJ6_bitCount_0f7a4_15 : decode cJ6_bitCount_0f7a4 15 = .ok (.iload_n 0, 1) := by decide +kernel
theorem dJ6_bitCount_0f7a4_16 : decode cJ6_bitCount_0f7a4 16 = .ok (.iconst 2, 1) := by decide +kernel
theorem dJ6_bitCount_0f7a4_17 : decode cJ6_bitCount_0f7a4 17 = .ok (.iushr, 1) := by decide +kernel
theorem dJ6_bitCount_0f7a4_18 : decode cJ6_bitCount_0f7a4 18 = .ok (.ldc_w 266, 3) := by decide +kernel
theorem dJ6_bitCount_0f7a4_21 : decode cJ6_bitCount_0f7a4 21 = .ok (.iand, 1) := by decide +kernel
theorem dJ6_bitCount_0f7a4_22 : decode cJ6_bitCount_0f7a4 22 = .ok (.iadd, 1) := by decide +kernel
theorem dJ6_bitCount_0f7a4_23 : decode cJ6_bitCount_0f7a4 23 = .ok (.istore_n 0, 1) := by decide +kernel
theorem dJ6_bitCount_0f7a4_24 : decode cJ6_bitCount_0f7a4 24 = .ok (.iload_n 0, 1) := by decide +kernel
theorem dJ6_bitCount_0f7a4_25 : decode cJ6_bitCount_0f7a4 25 = .ok (.iload_n 0, 1) := by decide +kernel
theorem dJ6_bitCount_0f7a4_26 : decode cJ6_bitCount_0f7a4 26 = .ok (.iconst 4, 1) := by decide +kernel
theorem dJ6_bitCount_0f7a4_27 : decode cJ6_bitCount_0f7a4 27 = .ok (.iushr, 1) := by decide +kernel
theorem dJ6_bitCount_0f7a4_28 : decode cJ6_bitCount_0f7a4 28 = .ok (.iadd, 1) := by decide +kernel
theorem dJ6_bitCount_0f7a4_29 : decode cJ6_bitCount_0f7a4 29 = .ok (.ldc_w 267, 3) := by decide +kernel
theorem dJ6_bitCount_0f7a4_32 : decode cJ6_bitCount_0f7a4 32 = .ok (.iand, 1) := by decide +kernel
theorem dJ6_bitCount_0f7a4_33 : decode cJ6_bitCount_0f7a4 33 = .ok (.istore_n 0, 1) := by decide +kernel
theorem dJ6_bitCount_0f7a4_34 : decode cJ6_bitCount_0f7a4 34 = .ok (.iload_n 0, 1) := by decide +kernel
theorem dJ6_bitCount_0f7a4_35 : decode cJ6_bitCount_0f7a4 35 = .ok (.iload_n 0, 1) := by decide +kernel
theorem dJ6_bitCount_0f7a4_36 : decode cJ6_bitCount_0f7a4 36 = .ok (.bipush 8, 2) := by decide +kernel
theorem dJ6_bitCount_0f7a4_38 : decode cJ6_bitCount_0f7a4 38 = .ok (.iushr, 1) := by decide +kernel
theorem dJ6_bitCount_0f7a4_39 : decode cJ6_bitCount_0f7a4 39 = .ok (.iadd, 1) := by decide +kernel
theorem dJ6_bitCount_0f7a4_40 : decode cJ6_bitCount_0f7a4 40 = .ok (.istore_n 0, 1) := by decide +kernel
theorem dJ6_bitCount_0f7a4_41 : decode cJ6_bitCount_0f7a4 41 = .ok (.iload_n 0, 1) := by decide +kernel
theorem dJ6_bitCount_0f7a4_42 : decode cJ6_bitCount_0f7a4 42 = .ok (.iload_n 0, 1) := by decide +kernel
theorem dJ6_bitCount_0f7a4_43 : decode cJ6_bitCount_0f7a4 43 = .ok (.bipush 16, 2) := by decide +kernel
theorem dJ6_bitCount_0f7a4_45 : decode cJ6_bitCount_0f7a4 45 = .ok (.iushr, 1) := by decide +kernel
theorem dJ6_bitCount_0f7a4_46 : decode cJ6_bitCount_0f7a4 46 = .ok (.iadd, 1) := by decide +kernel
theorem dJ6_bitCount_0f7a4_47 : decode cJ6_bitCount_0f7a4 47 = .ok (.istore_n 0, 1) := by decide +kernel
theorem dJ6_bitCount_0f7a4_48 : decode cJ6_bitCount_0f7a4 48 = .ok (.iload_n 0, 1) := by decide +kernel
theorem dJ6_bitCount_0f7a4_49 : decode cJ6_bitCount_0f7a4 49 = .ok (.bipush 63, 2) := by decide +kernel
theorem dJ6_bitCount_0f7a4_51 : decode cJ6_bitCount_0f7a4 51 = .ok (.iand, 1) := by decide +kernel
theorem dJ6_bitCount_0f7a4_52 : decode cJ6_bitCount_0f7a4 52 = .ok (.ireturn, 1) := by decide +kernel
theorem dJ9_rint_294c1_0 : decode cJ9_rint_294c1 0 = .ok (.dload_n 0, 1) := by decide +kernel
theorem dJ9_rint_294c1_1 : decode cJ9_rint_294c1 1 = .ok (.invokestatic 59, 3) := by decide +kernel
theorem dJ9_rint_294c1_4 : decode cJ9_rint_294c1 4 = .ok (.dreturn, 1) := by decide +kernel
theorem dJ9_abs_294c1_0 : decode cJ9_abs_294c1 0 = .ok (.dload_n 0, 1) := by decide +kernel
theorem dJ9_abs_294c1_1 : decode cJ9_abs_294c1 1 = .ok (.invokestatic 79, 3) := by decide +kernel
theorem dJ9_abs_294c1_4 : decode cJ9_abs_294c1 4 = .ok (.ldc2_w 135, 3) := by decide +kernel
theorem dJ9_abs_294c1_7 : decode cJ9_abs_294c1 7 = .ok (.land, 1) := by decide +kernel
theorem dJ9_abs_294c1_8 : decode cJ9_abs_294c1 8 = .ok (.invokestatic 166, 3) := by decide +kernel
theorem dJ9_abs_294c1_11 : decode cJ9_abs_294c1 11 = .ok (.dreturn, 1) := by decide +kernel
theorem dJ9_min_7cf53_0 : decode cJ9_min_7cf53 0 = .ok (.iload_n 0, 1) := by decide +kernel
theorem dJ9_min_7cf53_1 : decode cJ9_min_7cf53 1 = .ok (.iload_n 1, 1) := by decide +kernel
theorem dJ9_min_7cf53_2 : decode cJ9_min_7cf53 2 = .ok (.if_icmp .gt 7, 3) := by decide +kernel
theorem dJ9_min_7cf53_5 : decode cJ9_min_7cf53 5 = .ok (.iload_n 0, 1) := by decide +kernel
theorem dJ9_min_7cf53_6 : decode cJ9_min_7cf53 6 = .ok (.goto 4, 3) := by decide +kernel
theorem dJ9_min_7cf53_9 : decode cJ9_min_7cf53 9 = .ok (.iload_n 1, 1) := by decide +kernel
theorem dJ9_min_7cf53_10 : decode cJ9_min_7cf53 10 = .ok (.ireturn, 1) := by decide +kernel
theorem dJ9_copySign_eb370_0 : decode cJ9_copySign_eb370 0 = .ok (.dload_n 2, 1) := by decide +kernel
theorem dJ9_copySign_eb370_1 : decode cJ9_copySign_eb370 1 = .ok (.invokestatic 79, 3) := by decide +kernel
theorem dJ9_copySign_eb370_4 : decode cJ9_copySign_eb370 4 = .ok (.ldc2_w 128, 3) := by decide +kernel
theorem dJ9_copySign_eb370_7 : decode cJ9_copySign_eb370 7 = .ok (.land, 1) := by decide +kernel
theorem dJ9_copySign_eb370_8 : decode cJ9_copySign_eb370 8 = .ok (.dload_n 0, 1) := by decide +kernel
theorem dJ9_copySign_eb370_9 : decode cJ9_copySign_eb370 9 = .ok (.invokestatic 79, 3) := by decide +kernel
theorem dJ9_copySign_eb370_12 : decode cJ9_copySign_eb370 12 = .ok (.ldc2_w 135, 3) := by decide +kernel
theorem dJ9_copySign_eb370_15 : decode cJ9_copySign_eb370 15 = .ok (.land, 1) := by decide +kernel
theorem dJ9_copySign_eb370_16 : decode cJ9_copySign_eb370 16 = .ok (.lor, 1) := by decide +kernel
theorem dJ9_copySign_eb370_17 : decode cJ9_copySign_eb370 17 = .ok (.invokestatic 166, 3) := by decide +kernel
theorem dJ9_copySign_eb370_20 : decode cJ9_copySign_eb370 20 = .ok (.dreturn, 1) := by decide +kernel
theorem dJxfc994_rint_294c1_0 : decode cJxfc994_rint_294c1 0 = .ok (.ldc2_w 93, 3) := by decide +kernel
theorem dJxfc994_rint_294c1_3 : decode cJxfc994_rint_294c1 3 = .ok (.dstore_n 2, 1) := by decide +kernel
theorem dJxfc994_rint_294c1_4 : decode cJxfc994_rint_294c1 4 = .ok (.dconst 1, 1) := by decide +kernel
theorem dJxfc994_rint_294c1_5 : decode cJxfc994_rint_294c1 5 = .ok (.dload_n 0, 1) := by decide +kernel
theorem dJxfc994_rint_294c1_6 : decode cJxfc994_rint_294c1 6 = .ok (.invokestatic 95, 3) := by decide +kernel
theorem dJxfc994_rint_294c1_9 : decode cJxfc994_rint_294c1 9 = .ok (.dstore 4, 2) := by decide +kernel
theorem dJxfc994_rint_294c1_11 : decode cJxfc994_rint_294c1 11 = .ok (.dload_n 0, 1) := by decide +kernel
theorem dJxfc994_rint_294c1_12 : decode cJxfc994_rint_294c1 12 = .ok (.invokestatic 98, 3) := by decide +kernel
theorem dJxfc994_rint_294c1_15 : decode cJxfc994_rint_294c1 15 = .ok (.dstore_n 0, 1) := by decide +kernel
theorem dJxfc994_rint_294c1_16 : decode cJxfc994_rint_294c1 16 = .ok (.dload_n 0, 1) := by decide +kernel
theorem dJxfc994_rint_294c1_17 : decode cJxfc994_rint_294c1 17 = .ok (.dload_n 2, 1) := by decide +kernel
theorem dJxfc994_rint_294c1_18 : decode cJxfc994_rint_294c1 18 = .ok (.dcmp .g, 1) := by decide +kernel
theorem dJxfc994_rint_294c1_19 : decode cJxfc994_rint_294c1 19 = .ok (.ifCond .ge 9, 3) := by decide +kernel
theorem dJxfc994_rint_294c1_22 : decode cJxfc994_rint_294c1 22 = .ok (.dload_n 2, 1) := by decide +kernel
theorem dJxfc994_rint_294c1_23 : decode cJxfc994_rint_294c1 23 = .ok (.dload_n 0, 1) := by decide +kernel
theorem dJxfc994_rint_294c1_24 : decode cJxfc994_rint_294c1 24 = .ok (.dadd, 1) := by decide +kernel
theorem dJxfc994_rint_294c1_25 : decode cJxfc994_rint_294c1 25 = .ok (.dload_n 2, 1) := by decide +kernel
theorem dJxfc994_rint_294c1_26 : decode cJxfc994_rint_294c1 26 = .ok (.dsub, 1) := by decide +kernel
theorem dJxfc994_rint_294c1_27 : decode cJxfc994_rint_294c1 27 = .ok (.dstore_n 0, 1) := by decide +kernel
theorem dJxfc994_rint_294c1_28 : decode cJxfc994_rint_294c1 28 = .ok (.dload 4, 2) := by decide +kernel
theorem dJxfc994_rint_294c1_30 : decode cJxfc994_rint_294c1 30 = .ok (.dload_n 0, 1) := by decide +kernel
theorem dJxfc994_rint_294c1_31 : decode cJxfc994_rint_294c1 31 = .ok (.dmul, 1) := by decide +kernel
theorem dJxfc994_rint_294c1_32 : decode cJxfc994_rint_294c1 32 = .ok (.dreturn, 1) := by decide +kernel
theorem dJ7_fill_53178_0 : decode cJ7_fill_53178 0 = .ok (.iconst 0, 1) := by decide +kernel
theorem dJ7_fill_53178_1 : decode cJ7_fill_53178 1 = .ok (.istore_n 2, 1) := by decide +kernel
theorem dJ7_fill_53178_2 : decode cJ7_fill_53178 2 = .ok (.aload_n 0, 1) := by decide +kernel
theorem dJ7_fill_53178_3 : decode cJ7_fill_53178 3 = .ok (.arraylength, 1) := by decide +kernel
theorem dJ7_fill_53178_4 : decode cJ7_fill_53178 4 = .ok (.istore_n 3, 1) := by decide +kernel
theorem dJ7_fill_53178_5 : decode cJ7_fill_53178 5 = .ok (.iload_n 2, 1) := by decide +kernel
theorem dJ7_fill_53178_6 : decode cJ7_fill_53178 6 = .ok (.iload_n 3, 1) := by decide +kernel
theorem dJ7_fill_53178_7 : decode cJ7_fill_53178 7 = .ok (.if_icmp .ge 13, 3) := by decide +kernel
theorem dJ7_fill_53178_10 : decode cJ7_fill_53178 10 = .ok (.aload_n 0, 1) := by decide +kernel
theorem dJ7_fill_53178_11 : decode cJ7_fill_53178 11 = .ok (.iload_n 2, 1) := by decide +kernel
theorem dJ7_fill_53178_12 : decode cJ7_fill_53178 12 = .ok (.iload_n 1, 1) := by decide +kernel
theorem dJ7_fill_53178_13 : decode cJ7_fill_53178 13 = .ok (.iastore, 1) := by decide +kernel
theorem dJ7_fill_53178_14 : decode cJ7_fill_53178 14 = .ok (.iinc 2 1, 3) := by decide +kernel
theorem dJ7_fill_53178_17 : decode cJ7_fill_53178 17 = .ok (.goto (-12), 3) := by decide +kernel
theorem dJ7_fill_53178_20 : decode cJ7_fill_53178 20 = .ok (.return_, 1) := by decide +kernel
theorem dL_addRow_0 : decode cL_addRow 0 = .ok (.aload_n 1, 1) := by decide +kernel
theorem dL_addRow_1 : decode cL_addRow 1 = .ok (.iconst 0, 1) := by decide +kernel
theorem dL_addRow_2 : decode cL_addRow 2 = .ok (.aload_n 0, 1) := by decide +kernel
theorem dL_addRow_3 : decode cL_addRow 3 = .ok (.invokevirtual 7, 3) := by decide +kernel
theorem dL_addRow_6 : decode cL_addRow 6 = .ok (.i2l, 1) := by decide +kernel
theorem dL_addRow_7 : decode cL_addRow 7 = .ok (.lastore, 1) := by decide +kernel
theorem dL_addRow_8 : decode cL_addRow 8 = .ok (.goto 6, 3) := by decide +kernel
theorem dL_addRow_11 : decode cL_addRow 11 = .ok (.astore_n 2, 1) := by decide +kernel
theorem dL_addRow_12 : decode cL_addRow 12 = .ok (.iconst 1, 1) := by decide +kernel
theorem dL_addRow_13 : decode cL_addRow 13 = .ok (.ireturn, 1) := by decide +kernel
theorem dL_addRow_14 : decode cL_addRow 14 = .ok (.iconst 0, 1) := by decide +kernel
theorem dL_addRow_15 : decode cL_addRow 15 = .ok (.ireturn, 1) := by decide +kernel
theorem dL_addColumn_0 : decode cL_addColumn 0 = .ok (.aload_n 1, 1) := by decide +kernel
theorem dL_addColumn_1 : decode cL_addColumn 1 = .ok (.iconst 0, 1) := by decide +kernel
theorem dL_addColumn_2 : decode cL_addColumn 2 = .ok (.aload_n 0, 1) := by decide +kernel
theorem dL_addColumn_3 : decode cL_addColumn 3 = .ok (.invokevirtual 15, 3) := by decide +kernel
theorem dL_addColumn_6 : decode cL_addColumn 6 = .ok (.i2l, 1) := by decide +kernel
theorem dL_addColumn_7 : decode cL_addColumn 7 = .ok (.lastore, 1) := by decide +kernel
theorem dL_addColumn_8 : decode cL_addColumn 8 = .ok (.goto 6, 3) := by decide +kernel
theorem dL_addColumn_11 : decode cL_addColumn 11 = .ok (.astore_n 2, 1) := by decide +kernel
theorem dL_addColumn_12 : decode cL_addColumn 12 = .ok (.iconst 1, 1) := by decide +kernel
theorem dL_addColumn_13 : decode cL_addColumn 13 = .ok (.ireturn, 1) := by decide +kernel
theorem dL_addColumn_14 : decode cL_addColumn 14 = .ok (.iconst 0, 1) := by decide +kernel
theorem dL_addColumn_15 : decode cL_addColumn 15 = .ok (.ireturn, 1) := by decide +kernel
theorem dL_setRow_0 : decode cL_setRow 0 = .ok (.aload_n 3, 1) := by decide +kernel
theorem dL_setRow_1 : decode cL_setRow 1 = .ok (.iconst 0, 1) := by decide +kernel
theorem dL_setRow_2 : decode cL_setRow 2 = .ok (.aload_n 0, 1) := by decide +kernel
theorem dL_setRow_3 : decode cL_setRow 3 = .ok (.iload_n 1, 1) := by decide +kernel
theorem dL_setRow_4 : decode cL_setRow 4 = .ok (.iload_n 2, 1) := by decide +kernel
theorem dL_setRow_5 : decode cL_setRow 5 = .ok (.invokevirtual 18, 3) := by decide +kernel
theorem dL_setRow_8 : decode cL_setRow 8 = .ok (.ifCond .eq 7, 3) := by decide +kernel
theorem dL_setRow_11 : decode cL_setRow 11 = .ok (.lconst 1, 1) := by decide +kernel
theorem dL_setRow_12 : decode cL_setRow 12 = .ok (.goto 4, 3) := by decide +kernel
theorem dL_setRow_15 : decode cL_setRow 15 = .ok (.lconst 0, 1) := by decide +kernel
theorem dL_setRow_16 : decode cL_setRow 16 = .ok (.lastore, 1) := by decide +kernel
theorem dL_setRow_17 : decode cL_setRow 17 = .ok (.goto 7, 3) := by decide +kernel
theorem dL_setRow_20 : decode cL_setRow 20 = .ok (.astore 4, 2) := by decide +kernel
theorem dL_setRow_22 : decode cL_setRow 22 = .ok (.iconst 1, 1) := by decide +kernel
theorem dL_setRow_23 : decode cL_setRow 23 = .ok (.ireturn, 1) := by decide +kernel
theorem dL_setRow_24 : decode cL_setRow 24 = .ok (.iconst 0, 1) := by decide +kernel
theorem dL_setRow_25 : decode cL_setRow 25 = .ok (.ireturn, 1) := by decide +kernel
theorem dL_setColumn_0 : decode cL_setColumn 0 = .ok (.aload_n 3, 1) := by decide +kernel
theorem dL_setColumn_1 : decode cL_setColumn 1 = .ok (.iconst 0, 1) := by decide +kernel
theorem dL_setColumn_2 : decode cL_setColumn 2 = .ok (.aload_n 0, 1) := by decide +kernel
theorem dL_setColumn_3 : decode cL_setColumn 3 = .ok (.iload_n 1, 1) := by decide +kernel
theorem dL_setColumn_4 : decode cL_setColumn 4 = .ok (.iload_n 2, 1) := by decide +kernel
theorem dL_setColumn_5 : decode cL_setColumn 5 = .ok (.invokevirtual 24, 3) := by decide +kernel
theorem dL_setColumn_8 : decode cL_setColumn 8 = .ok (.ifCond .eq 7, 3) := by decide +kernel
theorem dL_setColumn_11 : decode cL_setColumn 11 = .ok (.lconst 1, 1) := by decide +kernel
theorem dL_setColumn_12 : decode cL_setColumn 12 = .ok (.goto 4, 3) := by decide +kernel
theorem dL_setColumn_15 : decode cL_setColumn 15 = .ok (.lconst 0, 1) := by decide +kernel
theorem dL_setColumn_16 : decode cL_setColumn 16 = .ok (.lastore, 1) := by decide +kernel
theorem dL_setColumn_17 : decode cL_setColumn 17 = .ok (.goto 7, 3) := by decide +kernel
theorem dL_setColumn_20 : decode cL_setColumn 20 = .ok (.astore 4, 2) := by decide +kernel
theorem dL_setColumn_22 : decode cL_setColumn 22 = .ok (.iconst 1, 1) := by decide +kernel
theorem dL_setColumn_23 : decode cL_setColumn 23 = .ok (.ireturn, 1) := by decide +kernel
theorem dL_setColumn_24 : decode cL_setColumn 24 = .ok (.iconst 0, 1) := by decide +kernel
theorem dL_setColumn_25 : decode cL_setColumn 25 = .ok (.ireturn, 1) := by decide +kernel
theorem dL_setCost_0 : decode cL_setCost 0 = .ok (.aload 4, 2) := by decide +kernel
theorem dL_setCost_2 : decode cL_setCost 2 = .ok (.iconst 0, 1) := by decide +kernel
theorem dL_setCost_3 : decode cL_setCost 3 = .ok (.aload_n 0, 1) := by decide +kernel
theorem dL_setCost_4 : decode cL_setCost 4 = .ok (.iload_n 1, 1) := by decide +kernel
theorem dL_setCost_5 : decode cL_setCost 5 = .ok (.iload_n 2, 1) := by decide +kernel
theorem dL_setCost_6 : decode cL_setCost 6 = .ok (.iload_n 3, 1) := by decide +kernel
theorem dL_setCost_7 : decode cL_setCost 7 = .ok (.invokevirtual 27, 3) := by decide +kernel
theorem dL_setCost_10 : decode cL_setCost 10 = .ok (.ifCond .eq 7, 3) := by decide +kernel
theorem dL_setCost_13 : decode cL_setCost 13 = .ok (.lconst 1, 1) := by decide +kernel
theorem dL_setCost_14 : decode cL_setCost 14 = .ok (.goto 4, 3) := by decide +kernel
theorem dL_setCost_17 : decode cL_setCost 17 = .ok (.lconst 0, 1) := by decide +kernel
theorem dL_setCost_18 : decode cL_setCost 18 = .ok (.lastore, 1) := by decide +kernel
theorem dL_setCost_19 : decode cL_setCost 19 = .ok (.goto 11, 3) := by decide +kernel
theorem dL_setCost_22 : decode cL_setCost 22 = .ok (.astore 5, 2) := by decide +kernel
theorem dL_setCost_24 : decode cL_setCost 24 = .ok (.iconst 1, 1) := by decide +kernel
theorem dL_setCost_25 : decode cL_setCost 25 = .ok (.ireturn, 1) := by decide +kernel
theorem dL_setCost_26 : decode cL_setCost 26 = .ok (.astore 5, 2) := by decide +kernel
theorem dL_setCost_28 : decode cL_setCost 28 = .ok (.iconst 2, 1) := by decide +kernel
theorem dL_setCost_29 : decode cL_setCost 29 = .ok (.ireturn, 1) := by decide +kernel
theorem dL_setCost_30 : decode cL_setCost 30 = .ok (.iconst 0, 1) := by decide +kernel
theorem dL_setCost_31 : decode cL_setCost 31 = .ok (.ireturn, 1) := by decide +kernel
theorem dL_forbid_0 : decode cL_forbid 0 = .ok (.aload_n 3, 1) := by decide +kernel
theorem dL_forbid_1 : decode cL_forbid 1 = .ok (.iconst 0, 1) := by decide +kernel
theorem dL_forbid_2 : decode cL_forbid 2 = .ok (.aload_n 0, 1) := by decide +kernel
theorem dL_forbid_3 : decode cL_forbid 3 = .ok (.iload_n 1, 1) := by decide +kernel
theorem dL_forbid_4 : decode cL_forbid 4 = .ok (.iload_n 2, 1) := by decide +kernel
theorem dL_forbid_5 : decode cL_forbid 5 = .ok (.invokevirtual 33, 3) := by decide +kernel
theorem dL_forbid_8 : decode cL_forbid 8 = .ok (.ifCond .eq 7, 3) := by decide +kernel
theorem dL_forbid_11 : decode cL_forbid 11 = .ok (.lconst 1, 1) := by decide +kernel
theorem dL_forbid_12 : decode cL_forbid 12 = .ok (.goto 4, 3) := by decide +kernel
theorem dL_forbid_15 : decode cL_forbid 15 = .ok (.lconst 0, 1) := by decide +kernel
theorem dL_forbid_16 : decode cL_forbid 16 = .ok (.lastore, 1) := by decide +kernel
theorem dL_forbid_17 : decode cL_forbid 17 = .ok (.goto 7, 3) := by decide +kernel
theorem dL_forbid_20 : decode cL_forbid 20 = .ok (.astore 4, 2) := by decide +kernel
theorem dL_forbid_22 : decode cL_forbid 22 = .ok (.iconst 1, 1) := by decide +kernel
theorem dL_forbid_23 : decode cL_forbid 23 = .ok (.ireturn, 1) := by decide +kernel
theorem dL_forbid_24 : decode cL_forbid 24 = .ok (.iconst 0, 1) := by decide +kernel
theorem dL_forbid_25 : decode cL_forbid 25 = .ok (.ireturn, 1) := by decide +kernel
theorem dL_addToRow_0 : decode cL_addToRow 0 = .ok (.aload_n 3, 1) := by decide +kernel
theorem dL_addToRow_1 : decode cL_addToRow 1 = .ok (.iconst 0, 1) := by decide +kernel
theorem dL_addToRow_2 : decode cL_addToRow 2 = .ok (.aload_n 0, 1) := by decide +kernel
theorem dL_addToRow_3 : decode cL_addToRow 3 = .ok (.iload_n 1, 1) := by decide +kernel
theorem dL_addToRow_4 : decode cL_addToRow 4 = .ok (.iload_n 2, 1) := by decide +kernel
theorem dL_addToRow_5 : decode cL_addToRow 5 = .ok (.invokevirtual 37, 3) := by decide +kernel
theorem dL_addToRow_8 : decode cL_addToRow 8 = .ok (.i2l, 1) := by decide +kernel
theorem dL_addToRow_9 : decode cL_addToRow 9 = .ok (.lastore, 1) := by decide +kernel
theorem dL_addToRow_10 : decode cL_addToRow 10 = .ok (.goto 11, 3) := by decide +kernel
theorem dL_addToRow_13 : decode cL_addToRow 13 = .ok (.astore 4, 2) := by decide +kernel
theorem dL_addToRow_15 : decode cL_addToRow 15 = .ok (.iconst 1, 1) := by decide +kernel
theorem dL_addToRow_16 : decode cL_addToRow 16 = .ok (.ireturn, 1) := by decide +kernel
theorem dL_addToRow_17 : decode cL_addToRow 17 = .ok (.astore 4, 2) := by decide +kernel
theorem dL_addToRow_19 : decode cL_addToRow 19 = .ok (.iconst 2, 1) := by decide +kernel
theorem dL_addToRow_20 : decode cL_addToRow 20 = .ok (.ireturn, 1) := by decide +kernel
theorem dL_addToRow_21 : decode cL_addToRow 21 = .ok (.iconst 0, 1) := by decide +kernel
theorem dL_addToRow_22 : decode cL_addToRow 22 = .ok (.ireturn, 1) := by decide +kernel
theorem dL_scaleColumn_0 : decode cL_scaleColumn 0 = .ok (.aload 4, 2) := by decide +kernel
theorem dL_scaleColumn_2 : decode cL_scaleColumn 2 = .ok (.iconst 0, 1) := by decide +kernel
theorem dL_scaleColumn_3 : decode cL_scaleColumn 3 = .ok (.aload_n 0, 1) := by decide +kernel
theorem dL_scaleColumn_4 : decode cL_scaleColumn 4 = .ok (.iload_n 1, 1) := by decide +kernel
theorem dL_scaleColumn_5 : decode cL_scaleColumn 5 = .ok (.dload_n 2, 1) := by decide +kernel
theorem dL_scaleColumn_6 : decode cL_scaleColumn 6 = .ok (.invokevirtual 43, 3) := by decide +kernel
theorem dL_scaleColumn_9 : decode cL_scaleColumn 9 = .ok (.i2l, 1) := by decide +kernel
theorem dL_scaleColumn_10 : decode cL_scaleColumn 10 = .ok (.lastore, 1) := by decide +kernel
theorem dL_scaleColumn_11 : decode cL_scaleColumn 11 = .ok (.goto 15, 3) := by decide +kernel
theorem dL_scaleColumn_14 : decode cL_scaleColumn 14 = .ok (.astore 5, 2) := by decide +kernel
theorem dL_scaleColumn_16 : decode cL_scaleColumn 16 = .ok (.iconst 1, 1) := by decide +kernel
theorem dL_scaleColumn_17 : decode cL_scaleColumn 17 = .ok (.ireturn, 1) := by decide +kernel
theorem dL_scaleColumn_18 : decode cL_scaleColumn 18 = .ok (.astore 5, 2) := by decide +kernel
theorem dL_scaleColumn_20 : decode cL_scaleColumn 20 = .ok (.iconst 2, 1) := by decide +kernel
theorem dL_scaleColumn_21 : decode cL_scaleColumn 21 = .ok (.ireturn, 1) := by decide +kernel
theorem dL_scaleColumn_22 : decode cL_scaleColumn 22 = .ok (.astore 5, 2) := by decide +kernel
theorem dL_scaleColumn_24 : decode cL_scaleColumn 24 = .ok (.iconst 3, 1) := by decide +kernel
theorem dL_scaleColumn_25 : decode cL_scaleColumn 25 = .ok (.ireturn, 1) := by decide +kernel
theorem dL_scaleColumn_26 : decode cL_scaleColumn 26 = .ok (.iconst 0, 1) := by decide +kernel
theorem dL_scaleColumn_27 : decode cL_scaleColumn 27 = .ok (.ireturn, 1) := by decide +kernel
theorem dL_isAllowed_0 : decode cL_isAllowed 0 = .ok (.aload_n 3, 1) := by decide +kernel
theorem dL_isAllowed_1 : decode cL_isAllowed 1 = .ok (.iconst 0, 1) := by decide +kernel
theorem dL_isAllowed_2 : decode cL_isAllowed 2 = .ok (.aload_n 0, 1) := by decide +kernel
theorem dL_isAllowed_3 : decode cL_isAllowed 3 = .ok (.iload_n 1, 1) := by decide +kernel
theorem dL_isAllowed_4 : decode cL_isAllowed 4 = .ok (.iload_n 2, 1) := by decide +kernel
theorem dL_isAllowed_5 : decode cL_isAllowed 5 = .ok (.invokevirtual 47, 3) := by decide +kernel
theorem dL_isAllowed_8 : decode cL_isAllowed 8 = .ok (.ifCond .eq 7, 3) := by decide +kernel
theorem dL_isAllowed_11 : decode cL_isAllowed 11 = .ok (.lconst 1, 1) := by decide +kernel
theorem dL_isAllowed_12 : decode cL_isAllowed 12 = .ok (.goto 4, 3) := by decide +kernel
theorem dL_isAllowed_15 : decode cL_isAllowed 15 = .ok (.lconst 0, 1) := by decide +kernel
theorem dL_isAllowed_16 : decode cL_isAllowed 16 = .ok (.lastore, 1) := by decide +kernel
theorem dL_isAllowed_17 : decode cL_isAllowed 17 = .ok (.goto 7, 3) := by decide +kernel
theorem dL_isAllowed_20 : decode cL_isAllowed 20 = .ok (.astore 4, 2) := by decide +kernel
theorem dL_isAllowed_22 : decode cL_isAllowed 22 = .ok (.iconst 1, 1) := by decide +kernel
theorem dL_isAllowed_23 : decode cL_isAllowed 23 = .ok (.ireturn, 1) := by decide +kernel
theorem dL_isAllowed_24 : decode cL_isAllowed 24 = .ok (.iconst 0, 1) := by decide +kernel
theorem dL_isAllowed_25 : decode cL_isAllowed 25 = .ok (.ireturn, 1) := by decide +kernel
theorem dL_cost_0 : decode cL_cost 0 = .ok (.aload_n 3, 1) := by decide +kernel
theorem dL_cost_1 : decode cL_cost 1 = .ok (.iconst 0, 1) := by decide +kernel
theorem dL_cost_2 : decode cL_cost 2 = .ok (.aload_n 0, 1) := by decide +kernel
theorem dL_cost_3 : decode cL_cost 3 = .ok (.iload_n 1, 1) := by decide +kernel
theorem dL_cost_4 : decode cL_cost 4 = .ok (.iload_n 2, 1) := by decide +kernel
theorem dL_cost_5 : decode cL_cost 5 = .ok (.invokevirtual 50, 3) := by decide +kernel
theorem dL_cost_8 : decode cL_cost 8 = .ok (.i2l, 1) := by decide +kernel
theorem dL_cost_9 : decode cL_cost 9 = .ok (.lastore, 1) := by decide +kernel
theorem dL_cost_10 : decode cL_cost 10 = .ok (.goto 11, 3) := by decide +kernel
theorem dL_cost_13 : decode cL_cost 13 = .ok (.astore 4, 2) := by decide +kernel
theorem dL_cost_15 : decode cL_cost 15 = .ok (.iconst 1, 1) := by decide +kernel
theorem dL_cost_16 : decode cL_cost 16 = .ok (.ireturn, 1) := by decide +kernel
theorem dL_cost_17 : decode cL_cost 17 = .ok (.astore 4, 2) := by decide +kernel
theorem dL_cost_19 : decode cL_cost 19 = .ok (.iconst 2, 1) := by decide +kernel
theorem dL_cost_20 : decode cL_cost 20 = .ok (.ireturn, 1) := by decide +kernel
theorem dL_cost_21 : decode cL_cost 21 = .ok (.iconst 0, 1) := by decide +kernel
theorem dL_cost_22 : decode cL_cost 22 = .ok (.ireturn, 1) := by decide +kernel
theorem dL_columnOf_0 : decode cL_columnOf 0 = .ok (.aload_n 2, 1) := by decide +kernel
theorem dL_columnOf_1 : decode cL_columnOf 1 = .ok (.iconst 0, 1) := by decide +kernel
theorem dL_columnOf_2 : decode cL_columnOf 2 = .ok (.aload_n 0, 1) := by decide +kernel
theorem dL_columnOf_3 : decode cL_columnOf 3 = .ok (.iload_n 1, 1) := by decide +kernel
theorem dL_columnOf_4 : decode cL_columnOf 4 = .ok (.invokevirtual 55, 3) := by decide +kernel
theorem dL_columnOf_7 : decode cL_columnOf 7 = .ok (.i2l, 1) := by decide +kernel
theorem dL_columnOf_8 : decode cL_columnOf 8 = .ok (.lastore, 1) := by decide +kernel
theorem dL_columnOf_9 : decode cL_columnOf 9 = .ok (.goto 6, 3) := by decide +kernel
theorem dL_columnOf_12 : decode cL_columnOf 12 = .ok (.astore_n 3, 1) := by decide +kernel
theorem dL_columnOf_13 : decode cL_columnOf 13 = .ok (.iconst 1, 1) := by decide +kernel
theorem dL_columnOf_14 : decode cL_columnOf 14 = .ok (.ireturn, 1) := by decide +kernel
theorem dL_columnOf_15 : decode cL_columnOf 15 = .ok (.iconst 0, 1) := by decide +kernel
theorem dL_columnOf_16 : decode cL_columnOf 16 = .ok (.ireturn, 1) := by decide +kernel
theorem dL_rowOf_0 : decode cL_rowOf 0 = .ok (.aload_n 2, 1) := by decide +kernel
theorem dL_rowOf_1 : decode cL_rowOf 1 = .ok (.iconst 0, 1) := by decide +kernel
theorem dL_rowOf_2 : decode cL_rowOf 2 = .ok (.aload_n 0, 1) := by decide +kernel
theorem dL_rowOf_3 : decode cL_rowOf 3 = .ok (.iload_n 1, 1) := by decide +kernel
theorem dL_rowOf_4 : decode cL_rowOf 4 = .ok (.invokevirtual 59, 3) := by decide +kernel
