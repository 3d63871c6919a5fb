theorem dX6_setColumn_1 : decode cX6_setColumn 1 = .ok (.iconst 0, 1) := by decide +kernel
theorem dX6_setColumn_2 : decode cX6_setColumn 2 = .ok (.putfield 77, 3) := by decide +kernel
theorem dX6_setColumn_5 : decode cX6_setColumn 5 = .ok (.aload_n 0, 1) := by decide +kernel
theorem dX6_setColumn_6 : decode cX6_setColumn 6 = .ok (.iload_n 1, 1) := by decide +kernel
theorem dX6_setColumn_7 : decode cX6_setColumn 7 = .ok (.invokevirtual 91, 3) := by decide +kernel
theorem dX6_setColumn_10 : decode cX6_setColumn 10 = .ok (.ifCond .ne 9, 3) := by decide +kernel
theorem dX6_setColumn_13 : decode cX6_setColumn 13 = .ok (.aload_n 0, 1) := by decide +kernel
theorem dX6_setColumn_14 : decode cX6_setColumn 14 = .ok (.iconst 1, 1) := by decide +kernel
theorem dX6_setColumn_15 : decode cX6_setColumn 15 = .ok (.invokevirtual 102, 3) := by decide +kernel
theorem dX6_setColumn_18 : decode cX6_setColumn 18 = .ok (.ireturn, 1) := by decide +kernel
theorem dX6_setColumn_19 : decode cX6_setColumn 19 = .ok (.aload_n 0, 1) := by decide +kernel
theorem dX6_setColumn_20 : decode cX6_setColumn 20 = .ok (.getfield 13, 3) := by decide +kernel
theorem dX6_setColumn_23 : decode cX6_setColumn 23 = .ok (.iload_n 1, 1) := by decide +kernel
theorem dX6_setColumn_24 : decode cX6_setColumn 24 = .ok (.baload, 1) := by decide +kernel
theorem dX6_setColumn_25 : decode cX6_setColumn 25 = .ok (.istore_n 3, 1) := by decide +kernel
theorem dX6_setColumn_26 : decode cX6_setColumn 26 = .ok (.aload_n 0, 1) := by decide +kernel
theorem dX6_setColumn_27 : decode cX6_setColumn 27 = .ok (.getfield 13, 3) := by decide +kernel
theorem dX6_setColumn_30 : decode cX6_setColumn 30 = .ok (.iload_n 1, 1) := by decide +kernel
theorem dX6_setColumn_31 : decode cX6_setColumn 31 = .ok (.iload_n 2, 1) := by decide +kernel
theorem dX6_setColumn_32 : decode cX6_setColumn 32 = .ok (.bastore, 1) := by decide +kernel
theorem dX6_setColumn_33 : decode cX6_setColumn 33 = .ok (.iload_n 3, 1) := by decide +kernel
theorem dX6_setColumn_34 : decode cX6_setColumn 34 = .ok (.ireturn, 1) := by decide +kernel
theorem dX6_setCost_0 : decode cX6_setCost 0 = .ok (.aload_n 0, 1) := by decide +kernel
theorem dX6_setCost_1 : decode cX6_setCost 1 = .ok (.iconst 0, 1) := by decide +kernel
theorem dX6_setCost_2 : decode cX6_setCost 2 = .ok (.putfield 77, 3) := by decide +kernel
theorem dX6_setCost_5 : decode cX6_setCost 5 = .ok (.aload_n 0, 1) := by decide +kernel
theorem dX6_setCost_6 : decode cX6_setCost 6 = .ok (.iload_n 1, 1) := by decide +kernel
theorem dX6_setCost_7 : decode cX6_setCost 7 = .ok (.iload_n 2, 1) := by decide +kernel
theorem dX6_setCost_8 : decode cX6_setCost 8 = .ok (.invokevirtual 105, 3) := by decide +kernel
theorem dX6_setCost_11 : decode cX6_setCost 11 = .ok (.ifCond .ne 9, 3) := by decide +kernel
theorem dX6_setCost_14 : decode cX6_setCost 14 = .ok (.aload_n 0, 1) := by decide +kernel
theorem dX6_setCost_15 : decode cX6_setCost 15 = .ok (.iconst 1, 1) := by decide +kernel
theorem dX6_setCost_16 : decode cX6_setCost 16 = .ok (.invokevirtual 102, 3) := by decide +kernel
theorem dX6_setCost_19 : decode cX6_setCost 19 = .ok (.ireturn, 1) := by decide +kernel
theorem dX6_setCost_20 : decode cX6_setCost 20 = .ok (.iload_n 3, 1) := by decide +kernel
theorem dX6_setCost_21 : decode cX6_setCost 21 = .ok (.i2l, 1) := by decide +kernel
theorem dX6_setCost_22 : decode cX6_setCost 22 = .ok (.invokestatic 109, 3) := by decide +kernel
theorem dX6_setCost_25 : decode cX6_setCost 25 = .ok (.ifCond .ne 9, 3) := by decide +kernel
theorem dX6_setCost_28 : decode cX6_setCost 28 = .ok (.aload_n 0, 1) := by decide +kernel
theorem dX6_setCost_29 : decode cX6_setCost 29 = .ok (.iconst 2, 1) := by decide +kernel
theorem dX6_setCost_30 : decode cX6_setCost 30 = .ok (.invokevirtual 102, 3) := by decide +kernel
theorem dX6_setCost_33 : decode cX6_setCost 33 = .ok (.ireturn, 1) := by decide +kernel
theorem dX6_setCost_34 : decode cX6_setCost 34 = .ok (.aload_n 0, 1) := by decide +kernel
theorem dX6_setCost_35 : decode cX6_setCost 35 = .ok (.getfield 16, 3) := by decide +kernel
theorem dX6_setCost_38 : decode cX6_setCost 38 = .ok (.bipush 10, 2) := by decide +kernel
theorem dX6_setCost_40 : decode cX6_setCost 40 = .ok (.iload_n 1, 1) := by decide +kernel
theorem dX6_setCost_41 : decode cX6_setCost 41 = .ok (.imul, 1) := by decide +kernel
theorem dX6_setCost_42 : decode cX6_setCost 42 = .ok (.iload_n 2, 1) := by decide +kernel
theorem dX6_setCost_43 : decode cX6_setCost 43 = .ok (.iadd, 1) := by decide +kernel
theorem dX6_setCost_44 : decode cX6_setCost 44 = .ok (.baload, 1) := by decide +kernel
theorem dX6_setCost_45 : decode cX6_setCost 45 = .ok (.istore 4, 2) := by decide +kernel
theorem dX6_setCost_47 : decode cX6_setCost 47 = .ok (.aload_n 0, 1) := by decide +kernel
theorem dX6_setCost_48 : decode cX6_setCost 48 = .ok (.getfield 16, 3) := by decide +kernel
theorem dX6_setCost_51 : decode cX6_setCost 51 = .ok (.bipush 10, 2) := by decide +kernel
theorem dX6_setCost_53 : decode cX6_setCost 53 = .ok (.iload_n 1, 1) := by decide +kernel
theorem dX6_setCost_54 : decode cX6_setCost 54 = .ok (.imul, 1) := by decide +kernel
theorem dX6_setCost_55 : decode cX6_setCost 55 = .ok (.iload_n 2, 1) := by decide +kernel
theorem dX6_setCost_56 : decode cX6_setCost 56 = .ok (.iadd, 1) := by decide +kernel
theorem dX6_setCost_57 : decode cX6_setCost 57 = .ok (.iconst 1, 1) := by decide +kernel
theorem dX6_setCost_58 : decode cX6_setCost 58 = .ok (.bastore, 1) := by decide +kernel
theorem dX6_setCost_59 : decode cX6_setCost 59 = .ok (.aload_n 0, 1) := by decide +kernel
theorem dX6_setCost_60 : decode cX6_setCost 60 = .ok (.getfield 19, 3) := by decide +kernel
theorem dX6_setCost_63 : decode cX6_setCost 63 = .ok (.bipush 10, 2) := by decide +kernel
theorem dX6_setCost_65 : decode cX6_setCost 65 = .ok (.iload_n 1, 1) := by decide +kernel
theorem dX6_setCost_66 : decode cX6_setCost 66 = .ok (.imul, 1) := by decide +kernel
theorem dX6_setCost_67 : decode cX6_setCost 67 = .ok (.iload_n 2, 1) := by decide +kernel
theorem dX6_setCost_68 : decode cX6_setCost 68 = .ok (.iadd, 1) := by decide +kernel
theorem dX6_setCost_69 : decode cX6_setCost 69 = .ok (.iload_n 3, 1) := by decide +kernel
theorem dX6_setCost_70 : decode cX6_setCost 70 = .ok (.iastore, 1) := by decide +kernel
theorem dX6_setCost_71 : decode cX6_setCost 71 = .ok (.iload 4, 2) := by decide +kernel
theorem dX6_setCost_73 : decode cX6_setCost 73 = .ok (.ireturn, 1) := by decide +kernel
theorem dX6_forbid_0 : decode cX6_forbid 0 = .ok (.aload_n 0, 1) := by decide +kernel
theorem dX6_forbid_1 : decode cX6_forbid 1 = .ok (.iconst 0, 1) := by decide +kernel
theorem dX6_forbid_2 : decode cX6_forbid 2 = .ok (.putfield 77, 3) := by decide +kernel
theorem dX6_forbid_5 : decode cX6_forbid 5 = .ok (.aload_n 0, 1) := by decide +kernel
theorem dX6_forbid_6 : decode cX6_forbid 6 = .ok (.iload_n 1, 1) := by decide +kernel
theorem dX6_forbid_7 : decode cX6_forbid 7 = .ok (.iload_n 2, 1) := by decide +kernel
theorem dX6_forbid_8 : decode cX6_forbid 8 = .ok (.invokevirtual 105, 3) := by decide +kernel
theorem dX6_forbid_11 : decode cX6_forbid 11 = .ok (.ifCond .ne 9, 3) := by decide +kernel
theorem dX6_forbid_14 : decode cX6_forbid 14 = .ok (.aload_n 0, 1) := by decide +kernel
theorem dX6_forbid_15 : decode cX6_forbid 15 = .ok (.iconst 1, 1) := by decide +kernel
theorem dX6_forbid_16 : decode cX6_forbid 16 = .ok (.invokevirtual 102, 3) := by decide +kernel
theorem dX6_forbid_19 : decode cX6_forbid 19 = .ok (.ireturn, 1) := by decide +kernel
theorem dX6_forbid_20 : decode cX6_forbid 20 = .ok (.aload_n 0, 1) := by decide +kernel
theorem dX6_forbid_21 : decode cX6_forbid 21 = .ok (.getfield 16, 3) := by decide +kernel
theorem dX6_forbid_24 : decode cX6_forbid 24 = .ok (.bipush 10, 2) := by decide +kernel
theorem dX6_forbid_26 : decode cX6_forbid 26 = .ok (.iload_n 1, 1) := by decide +kernel
theorem dX6_forbid_27 : decode cX6_forbid 27 = .ok (.imul, 1) := by decide +kernel
theorem dX6_forbid_28 : decode cX6_forbid 28 = .ok (.iload_n 2, 1) := by decide +kernel
theorem dX6_forbid_29 : decode cX6_forbid 29 = .ok (.iadd, 1) := by decide +kernel
theorem dX6_forbid_30 : decode cX6_forbid 30 = .ok (.baload, 1) := by decide +kernel
theorem dX6_forbid_31 : decode cX6_forbid 31 = .ok (.istore_n 3, 1) := by decide +kernel
theorem dX6_forbid_32 : decode cX6_forbid 32 = .ok (.aload_n 0, 1) := by decide +kernel
theorem dX6_forbid_33 : decode cX6_forbid 33 = .ok (.getfield 16, 3) := by decide +kernel
theorem dX6_forbid_36 : decode cX6_forbid 36 = .ok (.bipush 10, 2) := by decide +kernel
theorem dX6_forbid_38 : decode cX6_forbid 38 = .ok (.iload_n 1, 1) := by decide +kernel
theorem dX6_forbid_39 : decode cX6_forbid 39 = .ok (.imul, 1) := by decide +kernel
theorem dX6_forbid_40 : decode cX6_forbid 40 = .ok (.iload_n 2, 1) := by decide +kernel
theorem dX6_forbid_41 : decode cX6_forbid 41 = .ok (.iadd, 1) := by decide +kernel
theorem dX6_forbid_42 : decode cX6_forbid 42 = .ok (.iconst 0, 1) := by decide +kernel
theorem dX6_forbid_43 : decode cX6_forbid 43 = .ok (.bastore, 1) := by decide +kernel
theorem dX6_forbid_44 : decode cX6_forbid 44 = .ok (.iload_n 3, 1) := by decide +kernel
theorem dX6_forbid_45 : decode cX6_forbid 45 = .ok (.ireturn, 1) := by decide +kernel
theorem dX6_addToRow_0 : decode cX6_addToRow 0 = .ok (.aload_n 0, 1) := by decide +kernel
theorem dX6_addToRow_1 : decode cX6_addToRow 1 = .ok (.iconst 0, 1) := by decide +kernel
theorem dX6_addToRow_2 : decode cX6_addToRow 2 = .ok (.putfield 77, 3) := by decide +kernel
theorem dX6_addToRow_5 : decode cX6_addToRow 5 = .ok (.aload_n 0, 1) := by decide +kernel
theorem dX6_addToRow_6 : decode cX6_addToRow 6 = .ok (.iload_n 1, 1) := by decide +kernel
theorem dX6_addToRow_7 : decode cX6_addToRow 7 = .ok (.invokevirtual 87, 3) := by decide +kernel
theorem dX6_addToRow_10 : decode cX6_addToRow 10 = .ok (.ifCond .ne 9, 3) := by decide +kernel
theorem dX6_addToRow_13 : decode cX6_addToRow 13 = .ok (.aload_n 0, 1) := by decide +kernel
theorem dX6_addToRow_14 : decode cX6_addToRow 14 = .ok (.iconst 1, 1) := by decide +kernel
theorem dX6_addToRow_15 : decode cX6_addToRow 15 = .ok (.invokevirtual 98, 3) := by decide +kernel
theorem dX6_addToRow_18 : decode cX6_addToRow 18 = .ok (.ireturn, 1) := by decide +kernel
theorem dX6_addToRow_19 : decode cX6_addToRow 19 = .ok (.iconst 0, 1) := by decide +kernel
theorem dX6_addToRow_20 : decode cX6_addToRow 20 = .ok (.istore_n 3, 1) := by decide +kernel
theorem dX6_addToRow_21 : decode cX6_addToRow 21 = .ok (.iconst 0, 1) := by decide +kernel
theorem dX6_addToRow_22 : decode cX6_addToRow 22 = .ok (.istore 4, 2) := by decide +kernel
theorem dX6_addToRow_24 : decode cX6_addToRow 24 = .ok (.iload 4, 2) := by decide +kernel
theorem dX6_addToRow_26 : decode cX6_addToRow 26 = .ok (.aload_n 0, 1) := by decide +kernel
theorem dX6_addToRow_27 : decode cX6_addToRow 27 = .ok (.getfield 84, 3) := by decide +kernel
theorem dX6_addToRow_30 : decode cX6_addToRow 30 = .ok (.if_icmp .ge 58, 3) := by decide +kernel
theorem dX6_addToRow_33 : decode cX6_addToRow 33 = .ok (.aload_n 0, 1) := by decide +kernel
theorem dX6_addToRow_34 : decode cX6_addToRow 34 = .ok (.getfield 16, 3) := by decide +kernel
theorem dX6_addToRow_37 : decode cX6_addToRow 37 = .ok (.bipush 10, 2) := by decide +kernel
theorem dX6_addToRow_39 : decode cX6_addToRow 39 = .ok (.iload_n 1, 1) := by decide +kernel
theorem dX6_addToRow_40 : decode cX6_addToRow 40 = .ok (.imul, 1) := by decide +kernel
theorem dX6_addToRow_41 : decode cX6_addToRow 41 = .ok (.iload 4, 2) := by decide +kernel
theorem dX6_addToRow_43 : decode cX6_addToRow 43 = .ok (.iadd, 1) := by decide +kernel
theorem dX6_addToRow_44 : decode cX6_addToRow 44 = .ok (.baload, 1) := by decide +kernel
theorem dX6_addToRow_45 : decode cX6_addToRow 45 = .ok (.ifCond .ne 6, 3) := by decide +kernel
theorem dX6_addToRow_48 : decode cX6_addToRow 48 = .ok (.goto 34, 3) := by decide +kernel
theorem dX6_addToRow_51 : decode cX6_addToRow 51 = .ok (.aload_n 0, 1) := by decide +kernel
theorem dX6_addToRow_52 : decode cX6_addToRow 52 = .ok (.getfield 19, 3) := by decide +kernel
theorem dX6_addToRow_55 : decode cX6_addToRow 55 = .ok (.bipush 10, 2) := by decide +kernel
theorem dX6_addToRow_57 : decode cX6_addToRow 57 = .ok (.iload_n 1, 1) := by decide +kernel
theorem dX6_addToRow_58 : decode cX6_addToRow 58 = .ok (.imul, 1) := by decide +kernel
theorem dX6_addToRow_59 : decode cX6_addToRow 59 = .ok (.iload 4, 2) := by decide +kernel
theorem dX6_addToRow_61 : decode cX6_addToRow 61 = .ok (.iadd, 1) := by decide +kernel
theorem dX6_addToRow_62 : decode cX6_addToRow 62 = .ok (.iaload, 1) := by decide +kernel
theorem dX6_addToRow_63 : decode cX6_addToRow 63 = .ok (.i2l, 1) := by decide +kernel
theorem dX6_addToRow_64 : decode cX6_addToRow 64 = .ok (.iload_n 2, 1) := by decide +kernel
theorem dX6_addToRow_65 : decode cX6_addToRow 65 = .ok (.i2l, 1) := by decide +kernel
theorem dX6_addToRow_66 : decode cX6_addToRow 66 = .ok (.ladd, 1) := by decide +kernel
theorem dX6_addToRow_67 : decode cX6_addToRow 67 = .ok (.invokestatic 109, 3) := by decide +kernel
theorem dX6_addToRow_70 : decode cX6_addToRow 70 = .ok (.ifCond .ne 9, 3) := by decide +kernel
theorem dX6_addToRow_73 : decode cX6_addToRow 73 = .ok (.aload_n 0, 1) := by decide +kernel
theorem dX6_addToRow_74 : decode cX6_addToRow 74 = .ok (.iconst 2, 1) := by decide +kernel
theorem dX6_addToRow_75 : decode cX6_addToRow 75 = .ok (.invokevirtual 98, 3) := by decide +kernel
theorem dX6_addToRow_78 : decode cX6_addToRow 78 = .ok (.ireturn, 1) := by decide +kernel
theorem dX6_addToRow_79 : decode cX6_addToRow 79 = .ok (.iinc 3 1, 3) := by decide +kernel
theorem dX6_addToRow_82 : decode cX6_addToRow 82 = .ok (.iinc 4 1, 3) := by decide +kernel
theorem dX6_addToRow_85 : decode cX6_addToRow 85 = .ok (.goto (-61), 3) := by decide +kernel
theorem dX6_addToRow_88 : decode cX6_addToRow 88 = .ok (.iconst 0, 1) := by decide +kernel
theorem dX6_addToRow_89 : decode cX6_addToRow 89 = .ok (.istore 4, 2) := by decide +kernel
theorem dX6_addToRow_91 : decode cX6_addToRow 91 = .ok (.iload 4, 2) := by decide +kernel
theorem dX6_addToRow_93 : decode cX6_addToRow 93 = .ok (.aload_n 0, 1) := by decide +kernel
theorem dX6_addToRow_94 : decode cX6_addToRow 94 = .ok (.getfield 84, 3) := by decide +kernel
theorem dX6_addToRow_97 : decode cX6_addToRow 97 = .ok (.if_icmp .ge 40, 3) := by decide +kernel
theorem dX6_addToRow_100 : decode cX6_addToRow 100 = .ok (.aload_n 0, 1) := by decide +kernel
theorem dX6_addToRow_101 : decode cX6_addToRow 101 = .ok (.getfield 16, 3) := by decide +kernel
theorem dX6_addToRow_104 : decode cX6_addToRow 104 = .ok (.bipush 10, 2) := by decide +kernel
theorem dX6_addToRow_106 : decode cX6_addToRow 106 = .ok (.iload_n 1, 1) := by decide +kernel
theorem dX6_addToRow_107 : decode cX6_addToRow 107 = .ok (.imul, 1) := by decide +kernel
theorem dX6_addToRow_108 : decode cX6_addToRow 108 = .ok (.iload 4, 2) := by decide +kernel
theorem dX6_addToRow_110 : decode cX6_addToRow 110 = .ok (.iadd, 1) := by decide +kernel
theorem dX6_addToRow_111 : decode cX6_addToRow 111 = .ok (.baload, 1) := by decide +kernel
theorem dX6_addToRow_112 : decode cX6_addToRow 112 = .ok (.ifCond .eq 19, 3) := by decide +kernel
theorem dX6_addToRow_115 : decode cX6_addToRow 115 = .ok (.aload_n 0, 1) := by decide +kernel
theorem dX6_addToRow_116 : decode cX6_addToRow 116 = .ok (.getfield 19, 3) := by decide +kernel
theorem dX6_addToRow_119 : decode cX6_addToRow 119 = .ok (.bipush 10, 2) := by decide +kernel
theorem dX6_addToRow_121 : decode cX6_addToRow 121 = .ok (.iload_n 1, 1) := by decide +kernel
theorem dX6_addToRow_122 : decode cX6_addToRow 122 = .ok (.imul, 1) := by decide +kernel
theorem dX6_addToRow_123 : decode cX6_addToRow 123 = .ok (.iload 4, 2) := by decide +kernel
theorem dX6_addToRow_125 : decode cX6_addToRow 125 = .ok (.iadd, 1) := by decide +kernel
theorem dX6_addToRow_126 : decode cX6_addToRow 126 = .ok (.dup2, 1) := by decide +kernel
theorem dX6_addToRow_127 : decode cX6_addToRow 127 = .ok (.iaload, 1) := by decide +kernel
theorem dX6_addToRow_128 : decode cX6_addToRow 128 = .ok (.iload_n 2, 1) := by decide +kernel
theorem dX6_addToRow_129 : decode cX6_addToRow 129 = .ok (.iadd, 1) := by decide +kernel
theorem dX6_addToRow_130 : decode cX6_addToRow 130 = .ok (.iastore, 1) := by decide +kernel
theorem dX6_addToRow_131 : decode cX6_addToRow 131 = .ok (.iinc 4 1, 3) := by decide +kernel
theorem dX6_addToRow_134 : decode cX6_addToRow 134 = .ok (.goto (-43), 3) := by decide +kernel
theorem dX6_addToRow_137 : decode cX6_addToRow 137 = .ok (.iload_n 3, 1) := by decide +kernel
theorem dX6_addToRow_138 : decode cX6_addToRow 138 = .ok (.ireturn, 1) := by decide +kernel
theorem dX6_scaleColumn_0 : decode cX6_scaleColumn 0 = .ok (.aload_n 0, 1) := by decide +kernel
theorem dX6_scaleColumn_1 : decode cX6_scaleColumn 1 = .ok (.iconst 0, 1) := by decide +kernel
theorem dX6_scaleColumn_2 : decode cX6_scaleColumn 2 = .ok (.putfield 77, 3) := by decide +kernel
theorem dX6_scaleColumn_5 : decode cX6_scaleColumn 5 = .ok (.aload_n 0, 1) := by decide +kernel
theorem dX6_scaleColumn_6 : decode cX6_scaleColumn 6 = .ok (.iload_n 1, 1) := by decide +kernel
theorem dX6_scaleColumn_7 : decode cX6_scaleColumn 7 = .ok (.invokevirtual 91, 3) := by decide +kernel
theorem dX6_scaleColumn_10 : decode cX6_scaleColumn 10 = .ok (.ifCond .ne 9, 3) := by decide +kernel
theorem dX6_scaleColumn_13 : decode cX6_scaleColumn 13 = .ok (.aload_n 0, 1) := by decide +kernel
theorem dX6_scaleColumn_14 : decode cX6_scaleColumn 14 = .ok (.iconst 1, 1) := by decide +kernel
theorem dX6_scaleColumn_15 : decode cX6_scaleColumn 15 = .ok (.invokevirtual 98, 3) := by decide +kernel
theorem dX6_scaleColumn_18 : decode cX6_scaleColumn 18 = .ok (.ireturn, 1) := by decide +kernel
theorem dX6_scaleColumn_19 : decode cX6_scaleColumn 19 = .ok (.dload_n 2, 1) := by decide +kernel
theorem dX6_scaleColumn_20 : decode cX6_scaleColumn 20 = .ok (.ldc2_w 113, 3) := by decide +kernel
theorem dX6_scaleColumn_23 : decode cX6_scaleColumn 23 = .ok (.dcmp .l, 1) := by decide +kernel
theorem dX6_scaleColumn_24 : decode cX6_scaleColumn 24 = .ok (.ifCond .lt 11, 3) := by decide +kernel
theorem dX6_scaleColumn_27 : decode cX6_scaleColumn 27 = .ok (.dload_n 2, 1) := by decide +kernel
theorem dX6_scaleColumn_28 : decode cX6_scaleColumn 28 = .ok (.ldc2_w 115, 3) := by decide +kernel
theorem dX6_scaleColumn_31 : decode cX6_scaleColumn 31 = .ok (.dcmp .g, 1) := by decide +kernel
theorem dX6_scaleColumn_32 : decode cX6_scaleColumn 32 = .ok (.ifCond .le 9, 3) := by decide +kernel
theorem dX6_scaleColumn_35 : decode cX6_scaleColumn 35 = .ok (.aload_n 0, 1) := by decide +kernel
theorem dX6_scaleColumn_36 : decode cX6_scaleColumn 36 = .ok (.iconst 2, 1) := by decide +kernel
theorem dX6_scaleColumn_37 : decode cX6_scaleColumn 37 = .ok (.invokevirtual 98, 3) := by decide +kernel
theorem dX6_scaleColumn_40 : decode cX6_scaleColumn 40 = .ok (.ireturn, 1) := by decide +kernel
theorem dX6_scaleColumn_41 : decode cX6_scaleColumn 41 = .ok (.iconst 0, 1) := by decide +kernel
theorem dX6_scaleColumn_42 : decode cX6_scaleColumn 42 = .ok (.istore 4, 2) := by decide +kernel
theorem dX6_scaleColumn_44 : decode cX6_scaleColumn 44 = .ok (.iload 4, 2) := by decide +kernel
theorem dX6_scaleColumn_46 : decode cX6_scaleColumn 46 = .ok (.aload_n 0, 1) := by decide +kernel
theorem dX6_scaleColumn_47 : decode cX6_scaleColumn 47 = .ok (.getfield 81, 3) := by decide +kernel
theorem dX6_scaleColumn_50 : decode cX6_scaleColumn 50 = .ok (.if_icmp .ge 55, 3) := by decide +kernel
theorem dX6_scaleColumn_53 : decode cX6_scaleColumn 53 = .ok (.aload_n 0, 1) := by decide +kernel
theorem dX6_scaleColumn_54 : decode cX6_scaleColumn 54 = .ok (.getfield 16, 3) := by decide +kernel
theorem dX6_scaleColumn_57 : decode cX6_scaleColumn 57 = .ok (.bipush 10, 2) := by decide +kernel
theorem dX6_scaleColumn_59 : decode cX6_scaleColumn 59 = .ok (.iload 4, 2) := by decide +kernel
theorem dX6_scaleColumn_61 : decode cX6_scaleColumn 61 = .ok (.imul, 1) := by decide +kernel
theorem dX6_scaleColumn_62 : decode cX6_scaleColumn 62 = .ok (.iload_n 1, 1) := by decide +kernel
theorem dX6_scaleColumn_63 : decode cX6_scaleColumn 63 = .ok (.iadd, 1) := by decide +kernel
theorem dX6_scaleColumn_64 : decode cX6_scaleColumn 64 = .ok (.baload, 1) := by decide +kernel
theorem dX6_scaleColumn_65 : decode cX6_scaleColumn 65 = .ok (.ifCond .eq 34, 3) := by decide +kernel
theorem dX6_scaleColumn_68 : decode cX6_scaleColumn 68 = .ok (.aload_n 0, 1) := by decide +kernel
theorem dX6_scaleColumn_69 : decode cX6_scaleColumn 69 = .ok (.getfield 19, 3) := by decide +kernel
theorem dX6_scaleColumn_72 : decode cX6_scaleColumn 72 = .ok (.bipush 10, 2) := by decide +kernel
theorem dX6_scaleColumn_74 : decode cX6_scaleColumn 74 = .ok (.iload 4, 2) := by decide +kernel
theorem dX6_scaleColumn_76 : decode cX6_scaleColumn 76 = .ok (.imul, 1) := by decide +kernel
theorem dX6_scaleColumn_77 : decode cX6_scaleColumn 77 = .ok (.iload_n 1, 1) := by decide +kernel
theorem dX6_scaleColumn_78 : decode cX6_scaleColumn 78 = .ok (.iadd, 1) := by decide +kernel
theorem dX6_scaleColumn_79 : decode cX6_scaleColumn 79 = .ok (.iaload, 1) := by decide +kernel
theorem dX6_scaleColumn_80 : decode cX6_scaleColumn 80 = .ok (.i2d, 1) := by decide +kernel
theorem dX6_scaleColumn_81 : decode cX6_scaleColumn 81 = .ok (.dload_n 2, 1) := by decide +kernel
theorem dX6_scaleColumn_82 : decode cX6_scaleColumn 82 = .ok (.dmul, 1) := by decide +kernel
theorem dX6_scaleColumn_83 : decode cX6_scaleColumn 83 = .ok (.invokestatic 117, 3) := by decide +kernel
theorem dX6_scaleColumn_86 : decode cX6_scaleColumn 86 = .ok (.d2l, 1) := by decide +kernel
theorem dX6_scaleColumn_87 : decode cX6_scaleColumn 87 = .ok (.invokestatic 109, 3) := by decide +kernel
theorem dX6_scaleColumn_90 : decode cX6_scaleColumn 90 = .ok (.ifCond .ne 9, 3) := by decide +kernel
theorem dX6_scaleColumn_93 : decode cX6_scaleColumn 93 = .ok (.aload_n 0, 1) := by decide +kernel
theorem dX6_scaleColumn_94 : decode cX6_scaleColumn 94 = .ok (.iconst 3, 1) := by decide +kernel
theorem dX6_scaleColumn_95 : decode cX6_scaleColumn 95 = .ok (.invokevirtual 98, 3) := by decide +kernel
theorem dX6_scaleColumn_98 : decode cX6_scaleColumn 98 = .ok (.ireturn, 1) := by decide +kernel
theorem dX6_scaleColumn_99 : decode cX6_scaleColumn 99 = .ok (.iinc 4 1, 3) := by decide +kernel
theorem dX6_scaleColumn_102 : decode cX6_scaleColumn 102 = .ok (.goto (-58), 3) := by decide +kernel
theorem dX6_scaleColumn_105 : decode cX6_scaleColumn 105 = .ok (.iconst 0, 1) := by decide +kernel
theorem dX6_scaleColumn_106 : decode cX6_scaleColumn 106 = .ok (.istore 4, 2) := by decide +kernel
theorem dX6_scaleColumn_108 : decode cX6_scaleColumn 108 = .ok (.iconst 0, 1) := by decide +kernel
theorem dX6_scaleColumn_109 : decode cX6_scaleColumn 109 = .ok (.istore 5, 2) := by decide +kernel
theorem dX6_scaleColumn_111 : decode cX6_scaleColumn 111 = .ok (.iload 5, 2) := by decide +kernel
theorem dX6_scaleColumn_113 : decode cX6_scaleColumn 113 = .ok (.aload_n 0, 1) := by decide +kernel
theorem dX6_scaleColumn_114 : decode cX6_scaleColumn 114 = .ok (.getfield 81, 3) := by decide +kernel
theorem dX6_scaleColumn_117 : decode cX6_scaleColumn 117 = .ok (.if_icmp .ge 89, 3) := by decide +kernel
theorem dX6_scaleColumn_120 : decode cX6_scaleColumn 120 = .ok (.aload_n 0, 1) := by decide +kernel
theorem dX6_scaleColumn_121 : decode cX6_scaleColumn 121 = .ok (.getfield 16, 3) := by decide +kernel
theorem dX6_scaleColumn_124 : decode cX6_scaleColumn 124 = .ok (.bipush 10, 2) := by decide +kernel
theorem dX6_scaleColumn_126 : decode cX6_scaleColumn 126 = .ok (.iload 5, 2) := by decide +kernel
theorem dX6_scaleColumn_128 : decode cX6_scaleColumn 128 = .ok (.imul, 1) := by decide +kernel
theorem dX6_scaleColumn_129 : decode cX6_scaleColumn 129 = .ok (.iload_n 1, 1) := by decide +kernel
theorem dX6_scaleColumn_130 : decode cX6_scaleColumn 130 = .ok (.iadd, 1) := by decide +kernel
theorem dX6_scaleColumn_131 : decode cX6_scaleColumn 131 = .ok (.baload, 1) := by decide +kernel
theorem dX6_scaleColumn_132 : decode cX6_scaleColumn 132 = .ok (.ifCond .ne 6, 3) := by decide +kernel
theorem dX6_scaleColumn_135 : decode cX6_scaleColumn 135 = .ok (.goto 65, 3) := by decide +kernel
theorem dX6_scaleColumn_138 : decode cX6_scaleColumn 138 = .ok (.aload_n 0, 1) := by decide +kernel
theorem dX6_scaleColumn_139 : decode cX6_scaleColumn 139 = .ok (.getfield 19, 3) := by decide +kernel
theorem dX6_scaleColumn_142 : decode cX6_scaleColumn 142 = .ok (.bipush 10, 2) := by decide +kernel
theorem dX6_scaleColumn_144 : decode cX6_scaleColumn 144 = .ok (.iload 5, 2) := by decide +kernel
theorem dX6_scaleColumn_146 : decode cX6_scaleColumn 146 = .ok (.imul, 1) := by decide +kernel
theorem dX6_scaleColumn_147 : decode cX6_scaleColumn 147 = .ok (.iload_n 1, 1) := by decide +kernel
theorem dX6_scaleColumn_148 : decode cX6_scaleColumn 148 = .ok (.iadd, 1) := by decide +kernel
theorem dX6_scaleColumn_149 : decode cX6_scaleColumn 149 = .ok (.iaload, 1) := by decide +kernel
theorem dX6_scaleColumn_150 : decode cX6_scaleColumn 150 = .ok (.i2d, 1) := by decide +kernel
theorem dX6_scaleColumn_151 : decode cX6_scaleColumn 151 = .ok (.dload_n 2, 1) := by decide +kernel
theorem dX6_scaleColumn_152 : decode cX6_scaleColumn 152 = .ok (.dmul, 1) := by decide +kernel
theorem dX6_scaleColumn_153 : decode cX6_scaleColumn 153 = .ok (.invokestatic 117, 3) := by decide +kernel
theorem dX6_scaleColumn_156 : decode cX6_scaleColumn 156 = .ok (.d2i, 1) := by decide +kernel
theorem dX6_scaleColumn_157 : decode cX6_scaleColumn 157 = .ok (.istore 6, 2) := by decide +kernel
theorem dX6_scaleColumn_159 : decode cX6_scaleColumn 159 = .ok (.iload 4, 2) := by decide +kernel
theorem dX6_scaleColumn_161 : decode cX6_scaleColumn 161 = .ok (.iload 6, 2) := by decide +kernel
theorem dX6_scaleColumn_163 : decode cX6_scaleColumn 163 = .ok (.aload_n 0, 1) := by decide +kernel
theorem dX6_scaleColumn_164 : decode cX6_scaleColumn 164 = .ok (.getfield 19, 3) := by decide +kernel
theorem dX6_scaleColumn_167 : decode cX6_scaleColumn 167 = .ok (.bipush 10, 2) := by decide +kernel
theorem dX6_scaleColumn_169 : decode cX6_scaleColumn 169 = .ok (.iload 5, 2) := by decide +kernel
theorem dX6_scaleColumn_171 : decode cX6_scaleColumn 171 = .ok (.imul, 1) := by decide +kernel
theorem dX6_scaleColumn_172 : decode cX6_scaleColumn 172 = .ok (.iload_n 1, 1) := by decide +kernel
theorem dX6_scaleColumn_173 : decode cX6_scaleColumn 173 = .ok (.iadd, 1) := by decide +kernel
theorem dX6_scaleColumn_174 : decode cX6_scaleColumn 174 = .ok (.iaload, 1) := by decide +kernel
theorem dX6_scaleColumn_175 : decode cX6_scaleColumn 175 = .ok (.if_icmp .ne 7, 3) := by decide +kernel
theorem dX6_scaleColumn_178 : decode cX6_scaleColumn 178 = .ok (.iconst 0, 1) := by decide +kernel
theorem dX6_scaleColumn_179 : decode cX6_scaleColumn 179 = .ok (.goto 4, 3) := by decide +kernel
theorem dX6_scaleColumn_182 : decode cX6_scaleColumn 182 = .ok (.iconst 1, 1) := by decide +kernel
theorem dX6_scaleColumn_183 : decode cX6_scaleColumn 183 = .ok (.iadd, 1) := by decide +kernel
theorem dX6_scaleColumn_184 : decode cX6_scaleColumn 184 = .ok (.istore 4, 2) := by decide +kernel
theorem dX6_scaleColumn_186 : decode cX6_scaleColumn 186 = .ok (.aload_n 0, 1) := by decide +kernel
theorem dX6_scaleColumn_187 : decode cX6_scaleColumn 187 = .ok (.getfield 19, 3) := by decide +kernel
theorem dX6_scaleColumn_190 : decode cX6_scaleColumn 190 = .ok (.bipush 10, 2) := by decide +kernel
theorem dX6_scaleColumn_192 : decode cX6_scaleColumn 192 = .ok (.iload 5, 2) := by decide +kernel
theorem dX6_scaleColumn_194 : decode cX6_scaleColumn 194 = .ok (.imul, 1) := by decide +kernel
theorem dX6_scaleColumn_195 : decode cX6_scaleColumn 195 = .ok (.iload_n 1, 1) := by decide +kernel
theorem dX6_scaleColumn_196 : decode cX6_scaleColumn 196 = .ok (.iadd, 1) := by decide +kernel
theorem dX6_scaleColumn_197 : decode cX6_scaleColumn 197 = .ok (.iload 6, 2) := by decide +kernel
theorem dX6_scaleColumn_199 : decode cX6_scaleColumn 199 = .ok (.iastore, 1) := by decide +kernel
theorem dX6_scaleColumn_200 : decode cX6_scaleColumn 200 = .ok (.iinc 5 1, 3) := by decide +kernel
theorem dX6_scaleColumn_203 : decode cX6_scaleColumn 203 = .ok (.goto (-92), 3) := by decide +kernel
theorem dX6_scaleColumn_206 : decode cX6_scaleColumn 206 = .ok (.iload 4, 2) := by decide +kernel
theorem dX6_scaleColumn_208 : decode cX6_scaleColumn 208 = .ok (.ireturn, 1) := by decide +kernel
theorem dX6_rowCount_0 : decode cX6_rowCount 0 = .ok (.aload_n 0, 1) := by decide +kernel
theorem dX6_rowCount_1 : decode cX6_rowCount 1 = .ok (.iconst 0, 1) := by decide +kernel
theorem dX6_rowCount_2 : decode cX6_rowCount 2 = .ok (.putfield 77, 3) := by decide +kernel
theorem dX6_rowCount_5 : decode cX6_rowCount 5 = .ok (.aload_n 0, 1) := by decide +kernel
theorem dX6_rowCount_6 : decode cX6_rowCount 6 = .ok (.getfield 81, 3) := by decide +kernel
theorem dX6_rowCount_9 : decode cX6_rowCount 9 = .ok (.ireturn, 1) := by decide +kernel
theorem dX6_columnCount_0 : decode cX6_columnCount 0 = .ok (.aload_n 0, 1) := by decide +kernel
theorem dX6_columnCount_1 : decode cX6_columnCount 1 = .ok (.iconst 0, 1) := by decide +kernel
theorem dX6_columnCount_2 : decode cX6_columnCount 2 = .ok (.putfield 77, 3) := by decide +kernel
theorem dX6_columnCount_5 : decode cX6_columnCount 5 = .ok (.aload_n 0, 1) := by decide +kernel
theorem dX6_columnCount_6 : decode cX6_columnCount 6 = .ok (.getfield 84, 3) := by decide +kernel
theorem dX6_columnCount_9 : decode cX6_columnCount 9 = .ok (.ireturn, 1) := by decide +kernel
theorem dX6_isAllowed_0 : decode cX6_isAllowed 0 = .ok (.aload_n 0, 1) := by decide +kernel
theorem dX6_isAllowed_1 : decode cX6_isAllowed 1 = .ok (.iconst 0, 1) := by decide +kernel
theorem dX6_isAllowed_2 : decode cX6_isAllowed 2 = .ok (.putfield 77, 3) := by decide +kernel
theorem dX6_isAllowed_5 : decode cX6_isAllowed 5 = .ok (.aload_n 0, 1) := by decide +kernel
theorem dX6_isAllowed_6 : decode cX6_isAllowed 6 = .ok (.iload_n 1, 1) := by decide +kernel
theorem dX6_isAllowed_7 : decode cX6_isAllowed 7 = .ok (.iload_n 2, 1) := by decide +kernel
theorem dX6_isAllowed_8 : decode cX6_isAllowed 8 = .ok (.invokevirtual 105, 3) := by decide +kernel
theorem dX6_isAllowed_11 : decode cX6_isAllowed 11 = .ok (.ifCond .eq 17, 3) := by decide +kernel
theorem dX6_isAllowed_14 : decode cX6_isAllowed 14 = .ok (.aload_n 0, 1) := by decide +kernel
theorem dX6_isAllowed_15 : decode cX6_isAllowed 15 = .ok (.getfield 16, 3) := by decide +kernel
theorem dX6_isAllowed_18 : decode cX6_isAllowed 18 = .ok (.bipush 10, 2) := by decide +kernel
theorem dX6_isAllowed_20 : decode cX6_isAllowed 20 = .ok (.iload_n 1, 1) := by decide +kernel
theorem dX6_isAllowed_21 : decode cX6_isAllowed 21 = .ok (.imul, 1) := by decide +kernel
theorem dX6_isAllowed_22 : decode cX6_isAllowed 22 = .ok (.iload_n 2, 1) := by decide +kernel
theorem dX6_isAllowed_23 : decode cX6_isAllowed 23 = .ok (.iadd, 1) := by decide +kernel
theorem dX6_isAllowed_24 : decode cX6_isAllowed 24 = .ok (.baload, 1) := by decide +kernel
theorem dX6_isAllowed_25 : decode cX6_isAllowed 25 = .ok (.goto 8, 3) := by decide +kernel
theorem dX6_isAllowed_28 : decode cX6_isAllowed 28 = .ok (.aload_n 0, 1) := by decide +kernel
theorem dX6_isAllowed_29 : decode cX6_isAllowed 29 = .ok (.iconst 1, 1) := by decide +kernel
theorem dX6_isAllowed_30 : decode cX6_isAllowed 30 = .ok (.invokevirtual 102, 3) := by decide +kernel
theorem dX6_isAllowed_33 : decode cX6_isAllowed 33 = .ok (.ireturn, 1) := by decide +kernel
theorem dX6_cost_0 : decode cX6_cost 0 = .ok (.aload_n 0, 1) := by decide +kernel
theorem dX6_cost_1 : decode cX6_cost 1 = .ok (.iconst 0, 1) := by decide +kernel
theorem dX6_cost_2 : decode cX6_cost 2 = .ok (.putfield 77, 3) := by decide +kernel
theorem dX6_cost_5 : decode cX6_cost 5 = .ok (.aload_n 0, 1) := by decide +kernel
theorem dX6_cost_6 : decode cX6_cost 6 = .ok (.iload_n 1, 1) := by decide +kernel
theorem dX6_cost_7 : decode cX6_cost 7 = .ok (.iload_n 2, 1) := by decide +kernel
theorem dX6_cost_8 : decode cX6_cost 8 = .ok (.invokevirtual 105, 3) := by decide +kernel
theorem dX6_cost_11 : decode cX6_cost 11 = .ok (.ifCond .ne 9, 3) := by decide +kernel
theorem dX6_cost_14 : decode cX6_cost 14 = .ok (.aload_n 0, 1) := by decide +kernel
theorem dX6_cost_15 : decode cX6_cost 15 = .ok (.iconst 1, 1) := by decide +kernel
theorem dX6_cost_16 : decode cX6_cost 16 = .ok (.invokevirtual 98, 3) := by decide +kernel
theorem dX6_cost_19 : decode cX6_cost 19 = .ok (.ireturn, 1) := by decide +kernel
theorem dX6_cost_20 : decode cX6_cost 20 = .ok (.aload_n 0, 1) := by decide +kernel
theorem dX6_cost_21 : decode cX6_cost 21 = .ok (.getfield 16, 3) := by decide +kernel
theorem dX6_cost_24 : decode cX6_cost 24 = .ok (.bipush 10, 2) := by decide +kernel
theorem dX6_cost_26 : decode cX6_cost 26 = .ok (.iload_n 1, 1) := by decide +kernel
theorem dX6_cost_27 : decode cX6_cost 27 = .ok (.imul, 1) := by decide +kernel
theorem dX6_cost_28 : decode cX6_cost 28 = .ok (.iload_n 2, 1) := by decide +kernel
theorem dX6_cost_29 : decode cX6_cost 29 = .ok (.iadd, 1) := by decide +kernel
theorem dX6_cost_30 : decode cX6_cost 30 = .ok (.baload, 1) := by decide +kernel
theorem dX6_cost_31 : decode cX6_cost 31 = .ok (.ifCond .eq 17, 3) := by decide +kernel
theorem dX6_cost_34 : decode cX6_cost 34 = .ok (.aload_n 0, 1) := by decide +kernel
theorem dX6_cost_35 : decode cX6_cost 35 = .ok (.getfield 19, 3) := by decide +kernel
theorem dX6_cost_38 : decode cX6_cost 38 = .ok (.bipush 10, 2) := by decide +kernel
theorem dX6_cost_40 : decode cX6_cost 40 = .ok (.iload_n 1, 1) := by decide +kernel
theorem dX6_cost_41 : decode cX6_cost 41 = .ok (.imul, 1) := by decide +kernel
theorem dX6_cost_42 : decode cX6_cost 42 = .ok (.iload_n 2, 1) := by decide +kernel
theorem dX6_cost_43 : decode cX6_cost 43 = .ok (.iadd, 1) := by decide +kernel
theorem dX6_cost_44 : decode cX6_cost 44 = .ok (.iaload, 1) := by decide +kernel
theorem dX6_cost_45 : decode cX6_cost 45 = .ok (.goto 8, 3) := by decide +kernel
theorem dX6_cost_48 : decode cX6_cost 48 = .ok (.aload_n 0, 1) := by decide +kernel
theorem dX6_cost_49 : decode cX6_cost 49 = .ok (.iconst 2, 1) := by decide +kernel
theorem dX6_cost_50 : decode cX6_cost 50 = .ok (.invokevirtual 98, 3) := by decide +kernel
theorem dX6_cost_53 : decode cX6_cost 53 = .ok (.ireturn, 1) := by decide +kernel
theorem dX6_setChoices_0 : decode cX6_setChoices 0 = .ok (.iconst 0, 1) := by decide +kernel
theorem dX6_setChoices_1 : decode cX6_setChoices 1 = .ok (.istore_n 1, 1) := by decide +kernel
theorem dX6_setChoices_2 : decode cX6_setChoices 2 = .ok (.iload_n 1, 1) := by decide +kernel
theorem dX6_setChoices_3 : decode cX6_setChoices 3 = .ok (.aload_n 0, 1) := by decide +kernel
theorem dX6_setChoices_4 : decode cX6_setChoices 4 = .ok (.getfield 81, 3) := by decide +kernel
theorem dX6_setChoices_7 : decode cX6_setChoices 7 = .ok (.if_icmp .ge 59, 3) := by decide +kernel
theorem dX6_setChoices_10 : decode cX6_setChoices 10 = .ok (.aload_n 0, 1) := by decide +kernel
theorem dX6_setChoices_11 : decode cX6_setChoices 11 = .ok (.getfield 50, 3) := by decide +kernel
theorem dX6_setChoices_14 : decode cX6_setChoices 14 = .ok (.iload_n 1, 1) := by decide +kernel
theorem dX6_setChoices_15 : decode cX6_setChoices 15 = .ok (.sipush 1024, 3) := by decide +kernel
theorem dX6_setChoices_18 : decode cX6_setChoices 18 = .ok (.iastore, 1) := by decide +kernel
theorem dX6_setChoices_19 : decode cX6_setChoices 19 = .ok (.iconst 0, 1) := by decide +kernel
theorem dX6_setChoices_20 : decode cX6_setChoices 20 = .ok (.istore_n 2, 1) := by decide +kernel
theorem dX6_setChoices_21 : decode cX6_setChoices 21 = .ok (.iload_n 2, 1) := by decide +kernel
theorem dX6_setChoices_22 : decode cX6_setChoices 22 = .ok (.aload_n 0, 1) := by decide +kernel
theorem dX6_setChoices_23 : decode cX6_setChoices 23 = .ok (.getfield 84, 3) := by decide +kernel
theorem dX6_setChoices_26 : decode cX6_setChoices 26 = .ok (.if_icmp .ge 34, 3) := by decide +kernel
theorem dX6_setChoices_29 : decode cX6_setChoices 29 = .ok (.aload_n 0, 1) := by decide +kernel
theorem dX6_setChoices_30 : decode cX6_setChoices 30 = .ok (.getfield 50, 3) := by decide +kernel
theorem dX6_setChoices_33 : decode cX6_setChoices 33 = .ok (.iload_n 1, 1) := by decide +kernel
theorem dX6_setChoices_34 : decode cX6_setChoices 34 = .ok (.dup2, 1) := by decide +kernel
theorem dX6_setChoices_35 : decode cX6_setChoices 35 = .ok (.iaload, 1) := by decide +kernel
theorem dX6_setChoices_36 : decode cX6_setChoices 36 = .ok (.aload_n 0, 1) := by decide +kernel
theorem dX6_setChoices_37 : decode cX6_setChoices 37 = .ok (.iload_n 1, 1) := by decide +kernel
theorem dX6_setChoices_38 : decode cX6_setChoices 38 = .ok (.iload_n 2, 1) := by decide +kernel
theorem dX6_setChoices_39 : decode cX6_setChoices 39 = .ok (.invokevirtual 123, 3) := by decide +kernel
theorem dX6_setChoices_42 : decode cX6_setChoices 42 = .ok (.ifCond .eq 9, 3) := by decide +kernel
theorem dX6_setChoices_45 : decode cX6_setChoices 45 = .ok (.iconst 1, 1) := by decide +kernel
theorem dX6_setChoices_46 : decode cX6_setChoices 46 = .ok (.iload_n 2, 1) := by decide +kernel
theorem dX6_setChoices_47 : decode cX6_setChoices 47 = .ok (.ishl, 1) := by decide +kernel
theorem dX6_setChoices_48 : decode cX6_setChoices 48 = .ok (.goto 4, 3) := by decide +kernel
theorem dX6_setChoices_51 : decode cX6_setChoices 51 = .ok (.iconst 0, 1) := by decide +kernel
theorem dX6_setChoices_52 : decode cX6_setChoices 52 = .ok (.ior, 1) := by decide +kernel
theorem dX6_setChoices_53 : decode cX6_setChoices 53 = .ok (.iastore, 1) := by decide +kernel
theorem dX6_setChoices_54 : decode cX6_setChoices 54 = .ok (.iinc 2 1, 3) := by decide +kernel
theorem dX6_setChoices_57 : decode cX6_setChoices 57 = .ok (.goto (-36), 3) := by decide +kernel
theorem dX6_setChoices_60 : decode cX6_setChoices 60 = .ok (.iinc 1 1, 3) := by decide +kernel
theorem dX6_setChoices_63 : decode cX6_setChoices 63 = .ok (.goto (-61), 3) := by decide +kernel
theorem dX6_setChoices_66 : decode cX6_setChoices 66 = .ok (.return_, 1) := by decide +kernel
theorem dX6_fill_0 : decode cX6_fill 0 = .ok (.iconst 0, 1) := by decide +kernel
theorem dX6_fill_1 : decode cX6_fill 1 = .ok (.istore_n 1, 1) := by decide +kernel
theorem dX6_fill_2 : decode cX6_fill 2 = .ok (.iload_n 1, 1) := by decide +kernel
theorem dX6_fill_3 : decode cX6_fill 3 = .ok (.iconst 1, 1) := by decide +kernel
theorem dX6_fill_4 : decode cX6_fill 4 = .ok (.aload_n 0, 1) := by decide +kernel
theorem dX6_fill_5 : decode cX6_fill 5 = .ok (.getfield 84, 3) := by decide +kernel
theorem dX6_fill_8 : decode cX6_fill 8 = .ok (.ishl, 1) := by decide +kernel
theorem dX6_fill_9 : decode cX6_fill 9 = .ok (.if_icmp .ge 57, 3) := by decide +kernel
theorem dX6_fill_12 : decode cX6_fill 12 = .ok (.aload_n 0, 1) := by decide +kernel
theorem dX6_fill_13 : decode cX6_fill 13 = .ok (.getfield 41, 3) := by decide +kernel
theorem dX6_fill_16 : decode cX6_fill 16 = .ok (.sipush 1024, 3) := by decide +kernel
theorem dX6_fill_19 : decode cX6_fill 19 = .ok (.aload_n 0, 1) := by decide +kernel
theorem dX6_fill_20 : decode cX6_fill 20 = .ok (.getfield 81, 3) := by decide +kernel
theorem dX6_fill_23 : decode cX6_fill 23 = .ok (.imul, 1) := by decide +kernel
theorem dX6_fill_24 : decode cX6_fill 24 = .ok (.iload_n 1, 1) := by decide +kernel
theorem dX6_fill_25 : decode cX6_fill 25 = .ok (.iadd, 1) := by decide +kernel
theorem dX6_fill_26 : decode cX6_fill 26 = .ok (.iconst 0, 1) := by decide +kernel
theorem dX6_fill_27 : decode cX6_fill 27 = .ok (.iastore, 1) := by decide +kernel
theorem dX6_fill_28 : decode cX6_fill 28 = .ok (.aload_n 0, 1) := by decide +kernel
theorem dX6_fill_29 : decode cX6_fill 29 = .ok (.getfield 44, 3) := by decide +kernel
theorem dX6_fill_32 : decode cX6_fill 32 = .ok (.sipush 1024, 3) := by decide +kernel
theorem dX6_fill_35 : decode cX6_fill 35 = .ok (.aload_n 0, 1) := by decide +kernel
theorem dX6_fill_36 : decode cX6_fill 36 = .ok (.getfield 81, 3) := by decide +kernel
theorem dX6_fill_39 : decode cX6_fill 39 = .ok (.imul, 1) := by decide +kernel
theorem dX6_fill_40 : decode cX6_fill 40 = .ok (.iload_n 1, 1) := by decide +kernel
theorem dX6_fill_41 : decode cX6_fill 41 = .ok (.iadd, 1) := by decide +kernel
theorem dX6_fill_42 : decode cX6_fill 42 = .ok (.iconst 0, 1) := by decide +kernel
theorem dX6_fill_43 : decode cX6_fill 43 = .ok (.iastore, 1) := by decide +kernel
theorem dX6_fill_44 : decode cX6_fill 44 = .ok (.aload_n 0, 1) := by decide +kernel
theorem dX6_fill_45 : decode cX6_fill 45 = .ok (.getfield 47, 3) := by decide +kernel
theorem dX6_fill_48 : decode cX6_fill 48 = .ok (.sipush 1024, 3) := by decide +kernel
theorem dX6_fill_51 : decode cX6_fill 51 = .ok (.aload_n 0, 1) := by decide +kernel
theorem dX6_fill_52 : decode cX6_fill 52 = .ok (.getfield 81, 3) := by decide +kernel
theorem dX6_fill_55 : decode cX6_fill 55 = .ok (.imul, 1) := by decide +kernel
theorem dX6_fill_56 : decode cX6_fill 56 = .ok (.iload_n 1, 1) := by decide +kernel
theorem dX6_fill_57 : decode cX6_fill 57 = .ok (.iadd, 1) := by decide +kernel
theorem dX6_fill_58 : decode cX6_fill 58 = .ok (.iconst 1, 1) := by decide +kernel
theorem dX6_fill_59 : decode cX6_fill 59 = .ok (.iastore, 1) := by decide +kernel
theorem dX6_fill_60 : decode cX6_fill 60 = .ok (.iinc 1 1, 3) := by decide +kernel
theorem dX6_fill_63 : decode cX6_fill 63 = .ok (.goto (-61), 3) := by decide +kernel
theorem dX6_fill_66 : decode cX6_fill 66 = .ok (.aload_n 0, 1) := by decide +kernel
theorem dX6_fill_67 : decode cX6_fill 67 = .ok (.getfield 81, 3) := by decide +kernel
theorem dX6_fill_70 : decode cX6_fill 70 = .ok (.iconst 1, 1) := by decide +kernel
theorem dX6_fill_71 : decode cX6_fill 71 = .ok (.isub, 1) := by decide +kernel
theorem dX6_fill_72 : decode cX6_fill 72 = .ok (.istore_n 1, 1) := by decide +kernel
theorem dX6_fill_73 : decode cX6_fill 73 = .ok (.iload_n 1, 1) := by decide +kernel
theorem dX6_fill_74 : decode cX6_fill 74 = .ok (.ifCond .lt 33, 3) := by decide +kernel
theorem dX6_fill_77 : decode cX6_fill 77 = .ok (.iconst 0, 1) := by decide +kernel
theorem dX6_fill_78 : decode cX6_fill 78 = .ok (.istore_n 2, 1) := by decide +kernel
theorem dX6_fill_79 : decode cX6_fill 79 = .ok (.iload_n 2, 1) := by decide +kernel
theorem dX6_fill_80 : decode cX6_fill 80 = .ok (.iconst 1, 1) := by decide +kernel
theorem dX6_fill_81 : decode cX6_fill 81 = .ok (.aload_n 0, 1) := by decide +kernel
theorem dX6_fill_82 : decode cX6_fill 82 = .ok (.getfield 84, 3) := by decide +kernel
theorem dX6_fill_85 : decode cX6_fill 85 = .ok (.ishl, 1) := by decide +kernel
theorem dX6_fill_86 : decode cX6_fill 86 = .ok (.if_icmp .ge 15, 3) := by decide +kernel
theorem dX6_fill_89 : decode cX6_fill 89 = .ok (.aload_n 0, 1) := by decide +kernel
theorem dX6_fill_90 : decode cX6_fill 90 = .ok (.iload_n 1, 1) := by decide +kernel
theorem dX6_fill_91 : decode cX6_fill 91 = .ok (.iload_n 2, 1) := by decide +kernel
theorem dX6_fill_92 : decode cX6_fill 92 = .ok (.invokevirtual 126, 3) := by decide +kernel
theorem dX6_fill_95 : decode cX6_fill 95 = .ok (.iinc 2 1, 3) := by decide +kernel
theorem dX6_fill_98 : decode cX6_fill 98 = .ok (.goto (-19), 3) := by decide +kernel
theorem dX6_fill_101 : decode cX6_fill 101 = .ok (.iinc 1 (-1), 3) := by decide +kernel
theorem dX6_fill_104 : decode cX6_fill 104 = .ok (.goto (-31), 3) := by decide +kernel
theorem dX6_fill_107 : decode cX6_fill 107 = .ok (.return_, 1) := by decide +kernel
theorem dX6_fill__0 : decode cX6_fill_ 0 = .ok (.sipush 1024, 3) := by decide +kernel
theorem dX6_fill__3 : decode cX6_fill_ 3 = .ok (.iload_n 1, 1) := by decide +kernel
theorem dX6_fill__4 : decode cX6_fill_ 4 = .ok (.imul, 1) := by decide +kernel
theorem dX6_fill__5 : decode cX6_fill_ 5 = .ok (.iload_n 2, 1) := by decide +kernel
theorem dX6_fill__6 : decode cX6_fill_ 6 = .ok (.iadd, 1) := by decide +kernel
theorem dX6_fill__7 : decode cX6_fill_ 7 = .ok (.istore_n 3, 1) := by decide +kernel
theorem dX6_fill__8 : decode cX6_fill_ 8 = .ok (.aload_n 0, 1) := by decide +kernel
theorem dX6_fill__9 : decode cX6_fill_ 9 = .ok (.getfield 41, 3) := by decide +kernel
theorem dX6_fill__12 : decode cX6_fill_ 12 = .ok (.iload_n 3, 1) := by decide +kernel
theorem dX6_fill__13 : decode cX6_fill_ 13 = .ok (.bipush (-100), 2) := by decide +kernel
theorem dX6_fill__15 : decode cX6_fill_ 15 = .ok (.iastore, 1) := by decide +kernel
theorem dX6_fill__16 : decode cX6_fill_ 16 = .ok (.aload_n 0, 1) := by decide +kernel
theorem dX6_fill__17 : decode cX6_fill_ 17 = .ok (.getfield 44, 3) := by decide +kernel
theorem dX6_fill__20 : decode cX6_fill_ 20 = .ok (.iload_n 3, 1) := by decide +kernel
theorem dX6_fill__21 : decode cX6_fill_ 21 = .ok (.iconst 0, 1) := by decide +kernel
theorem dX6_fill__22 : decode cX6_fill_ 22 = .ok (.iastore, 1) := by decide +kernel
theorem dX6_fill__23 : decode cX6_fill_ 23 = .ok (.aload_n 0, 1) := by decide +kernel
theorem dX6_fill__24 : decode cX6_fill_ 24 = .ok (.getfield 47, 3) := by decide +kernel
theorem dX6_fill__27 : decode cX6_fill_ 27 = .ok (.iload_n 3, 1) := by decide +kernel
theorem dX6_fill__28 : decode cX6_fill_ 28 = .ok (.iconst 0, 1) := by decide +kernel
theorem dX6_fill__29 : decode cX6_fill_ 29 = .ok (.iastore, 1) := by decide +kernel
theorem dX6_fill__30 : decode cX6_fill_ 30 = .ok (.iconst 1, 1) := by decide +kernel
theorem dX6_fill__31 : decode cX6_fill_ 31 = .ok (.istore 4, 2) := by decide +kernel
theorem dX6_fill__33 : decode cX6_fill_ 33 = .ok (.iload 4, 2) := by decide +kernel
theorem dX6_fill__35 : decode cX6_fill_ 35 = .ok (.sipush 1024, 3) := by decide +kernel
theorem dX6_fill__38 : decode cX6_fill_ 38 = .ok (.if_icmp .gt 207, 3) := by decide +kernel
theorem dX6_fill__41 : decode cX6_fill_ 41 = .ok (.aload_n 0, 1) := by decide +kernel
theorem dX6_fill__42 : decode cX6_fill_ 42 = .ok (.getfield 50, 3) := by decide +kernel
theorem dX6_fill__45 : decode cX6_fill_ 45 = .ok (.iload_n 1, 1) := by decide +kernel
theorem dX6_fill__46 : decode cX6_fill_ 46 = .ok (.iaload, 1) := by decide +kernel
theorem dX6_fill__47 : decode cX6_fill_ 47 = .ok (.iload 4, 2) := by decide +kernel
theorem dX6_fill__49 : decode cX6_fill_ 49 = .ok (.iand, 1) := by decide +kernel
theorem dX6_fill__50 : decode cX6_fill_ 50 = .ok (.ifCond .eq 186, 3) := by decide +kernel
theorem dX6_fill__53 : decode cX6_fill_ 53 = .ok (.iload_n 2, 1) := by decide +kernel
theorem dX6_fill__54 : decode cX6_fill_ 54 = .ok (.iload 4, 2) := by decide +kernel
theorem dX6_fill__56 : decode cX6_fill_ 56 = .ok (.iand, 1) := by decide +kernel
theorem dX6_fill__57 : decode cX6_fill_ 57 = .ok (.ifCond .eq 6, 3) := by decide +kernel
theorem dX6_fill__60 : decode cX6_fill_ 60 = .ok (.goto 176, 3) := by decide +kernel
theorem dX6_fill__63 : decode cX6_fill_ 63 = .ok (.sipush 1024, 3) := by decide +kernel
theorem dX6_fill__66 : decode cX6_fill_ 66 = .ok (.iload_n 1, 1) := by decide +kernel
theorem dX6_fill__67 : decode cX6_fill_ 67 = .ok (.iconst 1, 1) := by decide +kernel
theorem dX6_fill__68 : decode cX6_fill_ 68 = .ok (.iadd, 1) := by decide +kernel
theorem dX6_fill__69 : decode cX6_fill_ 69 = .ok (.imul, 1) := by decide +kernel
theorem dX6_fill__70 : decode cX6_fill_ 70 = .ok (.iload 4, 2) := by decide +kernel
theorem dX6_fill__72 : decode cX6_fill_ 72 = .ok (.sipush 1024, 3) := by decide +kernel
theorem dX6_fill__75 : decode cX6_fill_ 75 = .ok (.if_icmp .ne 7, 3) := by decide +kernel
theorem dX6_fill__78 : decode cX6_fill_ 78 = .ok (.iload_n 2, 1) := by decide +kernel
theorem dX6_fill__79 : decode cX6_fill_ 79 = .ok (.goto 7, 3) := by decide +kernel
theorem dX6_fill__82 : decode cX6_fill_ 82 = .ok (.iload_n 2, 1) := by decide +kernel
theorem dX6_fill__83 : decode cX6_fill_ 83 = .ok (.iload 4, 2) := by decide +kernel
theorem dX6_fill__85 : decode cX6_fill_ 85 = .ok (.ior, 1) := by decide +kernel
theorem dX6_fill__86 : decode cX6_fill_ 86 = .ok (.iadd, 1) := by decide +kernel
theorem dX6_fill__87 : decode cX6_fill_ 87 = .ok (.istore 5, 2) := by decide +kernel
theorem dX6_fill__89 : decode cX6_fill_ 89 = .ok (.aload_n 0, 1) := by decide +kernel
theorem dX6_fill__90 : decode cX6_fill_ 90 = .ok (.getfield 41, 3) := by decide +kernel
theorem dX6_fill__93 : decode cX6_fill_ 93 = .ok (.iload 5, 2) := by decide +kernel
theorem dX6_fill__95 : decode cX6_fill_ 95 = .ok (.iaload, 1) := by decide +kernel
theorem dX6_fill__96 : decode cX6_fill_ 96 = .ok (.ifCond .ge 6, 3) := by decide +kernel
theorem dX6_fill__99 : decode cX6_fill_ 99 = .ok (.goto 137, 3) := by decide +kernel
theorem dX6_fill__102 : decode cX6_fill_ 102 = .ok (.aload_n 0, 1) := by decide +kernel
theorem dX6_fill__103 : decode cX6_fill_ 103 = .ok (.getfield 41, 3) := by decide +kernel
theorem dX6_fill__106 : decode cX6_fill_ 106 = .ok (.iload 5, 2) := by decide +kernel
theorem dX6_fill__108 : decode cX6_fill_ 108 = .ok (.iaload, 1) := by decide +kernel
theorem dX6_fill__109 : decode cX6_fill_ 109 = .ok (.iload 4, 2) := by decide +kernel
theorem dX6_fill__111 : decode cX6_fill_ 111 = .ok (.sipush 1024, 3) := by decide +kernel
theorem dX6_fill__114 : decode cX6_fill_ 114 = .ok (.if_icmp .ne 7, 3) := by decide +kernel
theorem dX6_fill__117 : decode cX6_fill_ 117 = .ok (.iconst 0, 1) := by decide +kernel
theorem dX6_fill__118 : decode cX6_fill_ 118 = .ok (.goto 4, 3) := by decide +kernel
theorem dX6_fill__121 : decode cX6_fill_ 121 = .ok (.iconst 1, 1) := by decide +kernel
theorem dX6_fill__122 : decode cX6_fill_ 122 = .ok (.iadd, 1) := by decide +kernel
theorem dX6_fill__123 : decode cX6_fill_ 123 = .ok (.istore 6, 2) := by decide +kernel
theorem dX6_fill__125 : decode cX6_fill_ 125 = .ok (.aload_n 0, 1) := by decide +kernel
theorem dX6_fill__126 : decode cX6_fill_ 126 = .ok (.getfield 44, 3) := by decide +kernel
theorem dX6_fill__129 : decode cX6_fill_ 129 = .ok (.iload 5, 2) := by decide +kernel
theorem dX6_fill__131 : decode cX6_fill_ 131 = .ok (.iaload, 1) := by decide +kernel
theorem dX6_fill__132 : decode cX6_fill_ 132 = .ok (.aload_n 0, 1) := by decide +kernel
theorem dX6_fill__133 : decode cX6_fill_ 133 = .ok (.iload_n 1, 1) := by decide +kernel
theorem dX6_fill__134 : decode cX6_fill_ 134 = .ok (.iload 4, 2) := by decide +kernel
theorem dX6_fill__136 : decode cX6_fill_ 136 = .ok (.invokevirtual 130, 3) := by decide +kernel
theorem dX6_fill__139 : decode cX6_fill_ 139 = .ok (.iadd, 1) := by decide +kernel
theorem dX6_fill__140 : decode cX6_fill_ 140 = .ok (.istore 7, 2) := by decide +kernel
theorem dX6_fill__142 : decode cX6_fill_ 142 = .ok (.iload 6, 2) := by decide +kernel
theorem dX6_fill__144 : decode cX6_fill_ 144 = .ok (.aload_n 0, 1) := by decide +kernel
theorem dX6_fill__145 : decode cX6_fill_ 145 = .ok (.getfield 41, 3) := by decide +kernel
theorem dX6_fill__148 : decode cX6_fill_ 148 = .ok (.iload_n 3, 1) := by decide +kernel
theorem dX6_fill__149 : decode cX6_fill_ 149 = .ok (.iaload, 1) := by decide +kernel
theorem dX6_fill__150 : decode cX6_fill_ 150 = .ok (.if_icmp .gt 25, 3) := by decide +kernel
theorem dX6_fill__153 : decode cX6_fill_ 153 = .ok (.iload 6, 2) := by decide +kernel
theorem dX6_fill__155 : decode cX6_fill_ 155 = .ok (.aload_n 0, 1) := by decide +kernel
theorem dX6_fill__156 : decode cX6_fill_ 156 = .ok (.getfield 41, 3) := by decide +kernel
theorem dX6_fill__159 : decode cX6_fill_ 159 = .ok (.iload_n 3, 1) := by decide +kernel
theorem dX6_fill__160 : decode cX6_fill_ 160 = .ok (.iaload, 1) := by decide +kernel
theorem dX6_fill__161 : decode cX6_fill_ 161 = .ok (.if_icmp .ne 37, 3) := by decide +kernel
theorem dX6_fill__164 : decode cX6_fill_ 164 = .ok (.iload 7, 2) := by decide +kernel
theorem dX6_fill__166 : decode cX6_fill_ 166 = .ok (.aload_n 0, 1) := by decide +kernel
theorem dX6_fill__167 : decode cX6_fill_ 167 = .ok (.getfield 44, 3) := by decide +kernel
theorem dX6_fill__170 : decode cX6_fill_ 170 = .ok (.iload_n 3, 1) := by decide +kernel
theorem dX6_fill__171 : decode cX6_fill_ 171 = .ok (.iaload, 1) := by decide +kernel
theorem dX6_fill__172 : decode cX6_fill_ 172 = .ok (.if_icmp .ge 26, 3) := by decide +kernel
theorem dX6_fill__175 : decode cX6_fill_ 175 = .ok (.aload_n 0, 1) := by decide +kernel
theorem dX6_fill__176 : decode cX6_fill_ 176 = .ok (.getfield 41, 3) := by decide +kernel
theorem dX6_fill__179 : decode cX6_fill_ 179 = .ok (.iload_n 3, 1) := by decide +kernel
theorem dX6_fill__180 : decode cX6_fill_ 180 = .ok (.iload 6, 2) := by decide +kernel
theorem dX6_fill__182 : decode cX6_fill_ 182 = .ok (.iastore, 1) := by decide +kernel
theorem dX6_fill__183 : decode cX6_fill_ 183 = .ok (.aload_n 0, 1) := by decide +kernel
theorem dX6_fill__184 : decode cX6_fill_ 184 = .ok (.getfield 44, 3) := by decide +kernel
theorem dX6_fill__187 : decode cX6_fill_ 187 = .ok (.iload_n 3, 1) := by decide +kernel
theorem dX6_fill__188 : decode cX6_fill_ 188 = .ok (.iload 7, 2) := by decide +kernel
theorem dX6_fill__190 : decode cX6_fill_ 190 = .ok (.iastore, 1) := by decide +kernel
theorem dX6_fill__191 : decode cX6_fill_ 191 = .ok (.aload_n 0, 1) := by decide +kernel
theorem dX6_fill__192 : decode cX6_fill_ 192 = .ok (.getfield 47, 3) := by decide +kernel
theorem dX6_fill__195 : decode cX6_fill_ 195 = .ok (.iload_n 3, 1) := by decide +kernel
theorem dX6_fill__196 : decode cX6_fill_ 196 = .ok (.iconst 0, 1) := by decide +kernel
theorem dX6_fill__197 : decode cX6_fill_ 197 = .ok (.iastore, 1) := by decide +kernel
theorem dX6_fill__198 : decode cX6_fill_ 198 = .ok (.iload 6, 2) := by decide +kernel
theorem dX6_fill__200 : decode cX6_fill_ 200 = .ok (.aload_n 0, 1) := by decide +kernel
theorem dX6_fill__201 : decode cX6_fill_ 201 = .ok (.getfield 41, 3) := by decide +kernel
theorem dX6_fill__204 : decode cX6_fill_ 204 = .ok (.iload_n 3, 1) := by decide +kernel
theorem dX6_fill__205 : decode cX6_fill_ 205 = .ok (.iaload, 1) := by decide +kernel
theorem dX6_fill__206 : decode cX6_fill_ 206 = .ok (.if_icmp .ne 30, 3) := by decide +kernel
theorem dX6_fill__209 : decode cX6_fill_ 209 = .ok (.iload 7, 2) := by decide +kernel
theorem dX6_fill__211 : decode cX6_fill_ 211 = .ok (.aload_n 0, 1) := by decide +kernel
theorem dX6_fill__212 : decode cX6_fill_ 212 = .ok (.getfield 44, 3) := by decide +kernel
theorem dX6_fill__215 : decode cX6_fill_ 215 = .ok (.iload_n 3, 1) := by decide +kernel
theorem dX6_fill__216 : decode cX6_fill_ 216 = .ok (.iaload, 1) := by decide +kernel
theorem dX6_fill__217 : decode cX6_fill_ 217 = .ok (.if_icmp .ne 19, 3) := by decide +kernel
theorem dX6_fill__220 : decode cX6_fill_ 220 = .ok (.aload_n 0, 1) := by decide +kernel
theorem dX6_fill__221 : decode cX6_fill_ 221 = .ok (.getfield 47, 3) := by decide +kernel
theorem dX6_fill__224 : decode cX6_fill_ 224 = .ok (.iload_n 3, 1) := by decide +kernel
theorem dX6_fill__225 : decode cX6_fill_ 225 = .ok (.dup2, 1) := by decide +kernel
theorem dX6_fill__226 : decode cX6_fill_ 226 = .ok (.iaload, 1) := by decide +kernel
theorem dX6_fill__227 : decode cX6_fill_ 227 = .ok (.aload_n 0, 1) := by decide +kernel
theorem dX6_fill__228 : decode cX6_fill_ 228 = .ok (.getfield 47, 3) := by decide +kernel
theorem dX6_fill__231 : decode cX6_fill_ 231 = .ok (.iload 5, 2) := by decide +kernel
theorem dX6_fill__233 : decode cX6_fill_ 233 = .ok (.iaload, 1) := by decide +kernel
theorem dX6_fill__234 : decode cX6_fill_ 234 = .ok (.iadd, 1) := by decide +kernel
theorem dX6_fill__235 : decode cX6_fill_ 235 = .ok (.iastore, 1) := by decide +kernel
theorem dX6_fill__236 : decode cX6_fill_ 236 = .ok (.iload 4, 2) := by decide +kernel
theorem dX6_fill__238 : decode cX6_fill_ 238 = .ok (.iconst 1, 1) := by decide +kernel
theorem dX6_fill__239 : decode cX6_fill_ 239 = .ok (.ishl, 1) := by decide +kernel
theorem dX6_fill__240 : decode cX6_fill_ 240 = .ok (.istore 4, 2) := by decide +kernel
theorem dX6_fill__242 : decode cX6_fill_ 242 = .ok (.goto (-209), 3) := by decide +kernel
theorem dX6_fill__245 : decode cX6_fill_ 245 = .ok (.return_, 1) := by decide +kernel
theorem dX6_costOf_0 : decode cX6_costOf 0 = .ok (.iload_n 2, 1) := by decide +kernel
theorem dX6_costOf_1 : decode cX6_costOf 1 = .ok (.sipush 1024, 3) := by decide +kernel
theorem dX6_costOf_4 : decode cX6_costOf 4 = .ok (.if_icmp .ne 7, 3) := by decide +kernel
theorem dX6_costOf_7 : decode cX6_costOf 7 = .ok (.iconst 0, 1) := by decide +kernel
theorem dX6_costOf_8 : decode cX6_costOf 8 = .ok (.goto 17, 3) := by decide +kernel
theorem dX6_costOf_11 : decode cX6_costOf 11 = .ok (.aload_n 0, 1) := by decide +kernel
theorem dX6_costOf_12 : decode cX6_costOf 12 = .ok (.getfield 19, 3) := by decide +kernel
theorem dX6_costOf_15 : decode cX6_costOf 15 = .ok (.bipush 10, 2) := by decide +kernel
theorem dX6_costOf_17 : decode cX6_costOf 17 = .ok (.iload_n 1, 1) := by decide +kernel
theorem dX6_costOf_18 : decode cX6_costOf 18 = .ok (.imul, 1) := by decide +kernel
theorem dX6_costOf_19 : decode cX6_costOf 19 = .ok (.iload_n 2, 1) := by decide +kernel
theorem dX6_costOf_20 : decode cX6_costOf 20 = .ok (.invokestatic 134, 3) := by decide +kernel
theorem dX6_costOf_23 : decode cX6_costOf 23 = .ok (.iadd, 1) := by decide +kernel
theorem dX6_costOf_24 : decode cX6_costOf 24 = .ok (.iaload, 1) := by decide +kernel
theorem dX6_costOf_25 : decode cX6_costOf 25 = .ok (.ireturn, 1) := by decide +kernel
theorem dX6_columnOfBit_0 : decode cX6_columnOfBit 0 = .ok (.iconst 0, 1) := by decide +kernel
theorem dX6_columnOfBit_1 : decode cX6_columnOfBit 1 = .ok (.istore_n 1, 1) := by decide +kernel
theorem dX6_columnOfBit_2 : decode cX6_columnOfBit 2 = .ok (.iload_n 0, 1) := by decide +kernel
theorem dX6_columnOfBit_3 : decode cX6_columnOfBit 3 = .ok (.iload_n 1, 1) := by decide +kernel
theorem dX6_columnOfBit_4 : decode cX6_columnOfBit 4 = .ok (.ishr, 1) := by decide +kernel
theorem dX6_columnOfBit_5 : decode cX6_columnOfBit 5 = .ok (.iconst 1, 1) := by decide +kernel
theorem dX6_columnOfBit_6 : decode cX6_columnOfBit 6 = .ok (.if_icmp .eq 9, 3) := by decide +kernel
theorem dX6_columnOfBit_9 : decode cX6_columnOfBit 9 = .ok (.iinc 1 1, 3) := by decide +kernel
theorem dX6_columnOfBit_12 : decode cX6_columnOfBit 12 = .ok (.goto (-10), 3) := by decide +kernel
theorem dX6_columnOfBit_15 : decode cX6_columnOfBit 15 = .ok (.iload_n 0, 1) := by decide +kernel
theorem dX6_columnOfBit_16 : decode cX6_columnOfBit 16 = .ok (.sipush 1024, 3) := by decide +kernel
theorem dX6_columnOfBit_19 : decode cX6_columnOfBit 19 = .ok (.if_icmp .ne 7, 3) := by decide +kernel
theorem dX6_columnOfBit_22 : decode cX6_columnOfBit 22 = .ok (.iconst (-1), 1) := by decide +kernel
theorem dX6_columnOfBit_23 : decode cX6_columnOfBit 23 = .ok (.goto 4, 3) := by decide +kernel
theorem dX6_columnOfBit_26 : decode cX6_columnOfBit 26 = .ok (.iload_n 1, 1) := by decide +kernel
theorem dX6_columnOfBit_27 : decode cX6_columnOfBit 27 = .ok (.ireturn, 1) := by decide +kernel
theorem dX6_choose_0 : decode cX6_choose 0 = .ok (.iconst 0, 1) := by decide +kernel
theorem dX6_choose_1 : decode cX6_choose 1 = .ok (.istore_n 1, 1) := by decide +kernel
theorem dX6_choose_2 : decode cX6_choose 2 = .ok (.iconst 0, 1) := by decide +kernel
theorem dX6_choose_3 : decode cX6_choose 3 = .ok (.istore_n 2, 1) := by decide +kernel
theorem dX6_choose_4 : decode cX6_choose 4 = .ok (.iload_n 2, 1) := by decide +kernel
theorem dX6_choose_5 : decode cX6_choose 5 = .ok (.aload_n 0, 1) := by decide +kernel
theorem dX6_choose_6 : decode cX6_choose 6 = .ok (.getfield 81, 3) := by decide +kernel
theorem dX6_choose_9 : decode cX6_choose 9 = .ok (.if_icmp .ge 66, 3) := by decide +kernel
theorem dX6_choose_12 : decode cX6_choose 12 = .ok (.sipush 1024, 3) := by decide +kernel
theorem dX6_choose_15 : decode cX6_choose 15 = .ok (.iload_n 2, 1) := by decide +kernel
theorem dX6_choose_16 : decode cX6_choose 16 = .ok (.imul, 1) := by decide +kernel
theorem dX6_choose_17 : decode cX6_choose 17 = .ok (.iload_n 1, 1) := by decide +kernel
theorem dX6_choose_18 : decode cX6_choose 18 = .ok (.iadd, 1) := by decide +kernel
theorem dX6_choose_19 : decode cX6_choose 19 = .ok (.istore_n 3, 1) := by decide +kernel
theorem dX6_choose_20 : decode cX6_choose 20 = .ok (.iconst 1, 1) := by decide +kernel
theorem dX6_choose_21 : decode cX6_choose 21 = .ok (.istore 4, 2) := by decide +kernel
theorem dX6_choose_23 : decode cX6_choose 23 = .ok (.aload_n 0, 1) := by decide +kernel
theorem dX6_choose_24 : decode cX6_choose 24 = .ok (.iload_n 2, 1) := by decide +kernel
theorem dX6_choose_25 : decode cX6_choose 25 = .ok (.iload_n 1, 1) := by decide +kernel
theorem dX6_choose_26 : decode cX6_choose 26 = .ok (.iload_n 3, 1) := by decide +kernel
theorem dX6_choose_27 : decode cX6_choose 27 = .ok (.iload 4, 2) := by decide +kernel
theorem dX6_choose_29 : decode cX6_choose 29 = .ok (.invokevirtual 137, 3) := by decide +kernel
theorem dX6_choose_32 : decode cX6_choose 32 = .ok (.ifCond .ne 12, 3) := by decide +kernel
theorem dX6_choose_35 : decode cX6_choose 35 = .ok (.iload 4, 2) := by decide +kernel
theorem dX6_choose_37 : decode cX6_choose 37 = .ok (.iconst 1, 1) := by decide +kernel
theorem dX6_choose_38 : decode cX6_choose 38 = .ok (.ishl, 1) := by decide +kernel
theorem dX6_choose_39 : decode cX6_choose 39 = .ok (.istore 4, 2) := by decide +kernel
theorem dX6_choose_41 : decode cX6_choose 41 = .ok (.goto (-18), 3) := by decide +kernel
theorem dX6_choose_44 : decode cX6_choose 44 = .ok (.aload_n 0, 1) := by decide +kernel
theorem dX6_choose_45 : decode cX6_choose 45 = .ok (.getfield 53, 3) := by decide +kernel
theorem dX6_choose_48 : decode cX6_choose 48 = .ok (.iload_n 2, 1) := by decide +kernel
theorem dX6_choose_49 : decode cX6_choose 49 = .ok (.iload 4, 2) := by decide +kernel
theorem dX6_choose_51 : decode cX6_choose 51 = .ok (.iastore, 1) := by decide +kernel
theorem dX6_choose_52 : decode cX6_choose 52 = .ok (.iload_n 1, 1) := by decide +kernel
theorem dX6_choose_53 : decode cX6_choose 53 = .ok (.iload 4, 2) := by decide +kernel
theorem dX6_choose_55 : decode cX6_choose 55 = .ok (.sipush 1024, 3) := by decide +kernel
theorem dX6_choose_58 : decode cX6_choose 58 = .ok (.if_icmp .ne 7, 3) := by decide +kernel
theorem dX6_choose_61 : decode cX6_choose 61 = .ok (.iconst 0, 1) := by decide +kernel
theorem dX6_choose_62 : decode cX6_choose 62 = .ok (.goto 5, 3) := by decide +kernel
theorem dX6_choose_65 : decode cX6_choose 65 = .ok (.iload 4, 2) := by decide +kernel
theorem dX6_choose_67 : decode cX6_choose 67 = .ok (.ior, 1) := by decide +kernel
theorem dX6_choose_68 : decode cX6_choose 68 = .ok (.istore_n 1, 1) := by decide +kernel
theorem dX6_choose_69 : decode cX6_choose 69 = .ok (.iinc 2 1, 3) := by decide +kernel
theorem dX6_choose_72 : decode cX6_choose 72 = .ok (.goto (-68), 3) := by decide +kernel
theorem dX6_choose_75 : decode cX6_choose 75 = .ok (.return_, 1) := by decide +kernel
theorem dX6_isBest_0 : decode cX6_isBest 0 = .ok (.aload_n 0, 1) := by decide +kernel
theorem dX6_isBest_1 : decode cX6_isBest 1 = .ok (.getfield 50, 3) := by decide +kernel
theorem dX6_isBest_4 : decode cX6_isBest 4 = .ok (.iload_n 1, 1) := by decide +kernel
theorem dX6_isBest_5 : decode cX6_isBest 5 = .ok (.iaload, 1) := by decide +kernel
theorem dX6_isBest_6 : decode cX6_isBest 6 = .ok (.iload 4, 2) := by decide +kernel
theorem dX6_isBest_8 : decode cX6_isBest 8 = .ok (.iand, 1) := by decide +kernel
theorem dX6_isBest_9 : decode cX6_isBest 9 = .ok (.ifCond .eq 10, 3) := by decide +kernel
theorem dX6_isBest_12 : decode cX6_isBest 12 = .ok (.iload_n 2, 1) := by decide +kernel
theorem dX6_isBest_13 : decode cX6_isBest 13 = .ok (.iload 4, 2) := by decide +kernel
theorem dX6_isBest_15 : decode cX6_isBest 15 = .ok (.iand, 1) := by decide +kernel
theorem dX6_isBest_16 : decode cX6_isBest 16 = .ok (.ifCond .eq 5, 3) := by decide +kernel
theorem dX6_isBest_19 : decode cX6_isBest 19 = .ok (.iconst 0, 1) := by decide +kernel
theorem dX6_isBest_20 : decode cX6_isBest 20 = .ok (.ireturn, 1) := by decide +kernel
theorem dX6_isBest_21 : decode cX6_isBest 21 = .ok (.sipush 1024, 3) := by decide +kernel
theorem dX6_isBest_24 : decode cX6_isBest 24 = .ok (.iload_n 1, 1) := by decide +kernel
theorem dX6_isBest_25 : decode cX6_isBest 25 = .ok (.iconst 1, 1) := by decide +kernel
theorem dX6_isBest_26 : decode cX6_isBest 26 = .ok (.iadd, 1) := by decide +kernel
theorem dX6_isBest_27 : decode cX6_isBest 27 = .ok (.imul, 1) := by decide +kernel
theorem dX6_isBest_28 : decode cX6_isBest 28 = .ok (.iload 4, 2) := by decide +kernel
theorem dX6_isBest_30 : decode cX6_isBest 30 = .ok (.sipush 1024, 3) := by decide +kernel
theorem dX6_isBest_33 : decode cX6_isBest 33 = .ok (.if_icmp .ne 7, 3) := by decide +kernel
theorem dX6_isBest_36 : decode cX6_isBest 36 = .ok (.iload_n 2, 1) := by decide +kernel
theorem dX6_isBest_37 : decode cX6_isBest 37 = .ok (.goto 7, 3) := by decide +kernel
theorem dX6_isBest_40 : decode cX6_isBest 40 = .ok (.iload_n 2, 1) := by decide +kernel
theorem dX6_isBest_41 : decode cX6_isBest 41 = .ok (.iload 4, 2) := by decide +kernel
theorem dX6_isBest_43 : decode cX6_isBest 43 = .ok (.ior, 1) := by decide +kernel
theorem dX6_isBest_44 : decode cX6_isBest 44 = .ok (.iadd, 1) := by decide +kernel
theorem dX6_isBest_45 : decode cX6_isBest 45 = .ok (.istore 5, 2) := by decide +kernel
theorem dX6_isBest_47 : decode cX6_isBest 47 = .ok (.aload_n 0, 1) := by decide +kernel
theorem dX6_isBest_48 : decode cX6_isBest 48 = .ok (.getfield 41, 3) := by decide +kernel
theorem dX6_isBest_51 : decode cX6_isBest 51 = .ok (.iload 5, 2) := by decide +kernel
theorem dX6_isBest_53 : decode cX6_isBest 53 = .ok (.iaload, 1) := by decide +kernel
theorem dX6_isBest_54 : decode cX6_isBest 54 = .ok (.iload 4, 2) := by decide +kernel
theorem dX6_isBest_56 : decode cX6_isBest 56 = .ok (.sipush 1024, 3) := by decide +kernel
theorem dX6_isBest_59 : decode cX6_isBest 59 = .ok (.if_icmp .ne 7, 3) := by decide +kernel
theorem dX6_isBest_62 : decode cX6_isBest 62 = .ok (.iconst 0, 1) := by decide +kernel
theorem dX6_isBest_63 : decode cX6_isBest 63 = .ok (.goto 4, 3) := by decide +kernel
theorem dX6_isBest_66 : decode cX6_isBest 66 = .ok (.iconst 1, 1) := by decide +kernel
theorem dX6_isBest_67 : decode cX6_isBest 67 = .ok (.iadd, 1) := by decide +kernel
theorem dX6_isBest_68 : decode cX6_isBest 68 = .ok (.aload_n 0, 1) := by decide +kernel
theorem dX6_isBest_69 : decode cX6_isBest 69 = .ok (.getfield 41, 3) := by decide +kernel
theorem dX6_isBest_72 : decode cX6_isBest 72 = .ok (.iload_n 3, 1) := by decide +kernel
theorem dX6_isBest_73 : decode cX6_isBest 73 = .ok (.iaload, 1) := by decide +kernel
theorem dX6_isBest_74 : decode cX6_isBest 74 = .ok (.if_icmp .ne 31, 3) := by decide +kernel
theorem dX6_isBest_77 : decode cX6_isBest 77 = .ok (.aload_n 0, 1) := by decide +kernel
theorem dX6_isBest_78 : decode cX6_isBest 78 = .ok (.getfield 44, 3) := by decide +kernel
theorem dX6_isBest_81 : decode cX6_isBest 81 = .ok (.iload 5, 2) := by decide +kernel
theorem dX6_isBest_83 : decode cX6_isBest 83 = .ok (.iaload, 1) := by decide +kernel
theorem dX6_isBest_84 : decode cX6_isBest 84 = .ok (.aload_n 0, 1) := by decide +kernel
theorem dX6_isBest_85 : decode cX6_isBest 85 = .ok (.iload_n 1, 1) := by decide +kernel
theorem dX6_isBest_86 : decode cX6_isBest 86 = .ok (.iload 4, 2) := by decide +kernel
theorem dX6_isBest_88 : decode cX6_isBest 88 = .ok (.invokevirtual 130, 3) := by decide +kernel
theorem dX6_isBest_91 : decode cX6_isBest 91 = .ok (.iadd, 1) := by decide +kernel
theorem dX6_isBest_92 : decode cX6_isBest 92 = .ok (.aload_n 0, 1) := by decide +kernel
theorem dX6_isBest_93 : decode cX6_isBest 93 = .ok (.getfield 44, 3) := by decide +kernel
theorem dX6_isBest_96 : decode cX6_isBest 96 = .ok (.iload_n 3, 1) := by decide +kernel
theorem dX6_isBest_97 : decode cX6_isBest 97 = .ok (.iaload, 1) := by decide +kernel
theorem dX6_isBest_98 : decode cX6_isBest 98 = .ok (.if_icmp .ne 7, 3) := by decide +kernel
theorem dX6_isBest_101 : decode cX6_isBest 101 = .ok (.iconst 1, 1) := by decide +kernel
theorem dX6_isBest_102 : decode cX6_isBest 102 = .ok (.goto 4, 3) := by decide +kernel
theorem dX6_isBest_105 : decode cX6_isBest 105 = .ok (.iconst 0, 1) := by decide +kernel
theorem dX6_isBest_106 : decode cX6_isBest 106 = .ok (.ireturn, 1) := by decide +kernel
theorem dX6_solve_0 : decode cX6_solve 0 = .ok (.aload_n 0, 1) := by decide +kernel
theorem dX6_solve_1 : decode cX6_solve 1 = .ok (.invokevirtual 141, 3) := by decide +kernel
theorem dX6_solve_4 : decode cX6_solve 4 = .ok (.aload_n 0, 1) := by decide +kernel
theorem dX6_solve_5 : decode cX6_solve 5 = .ok (.invokevirtual 144, 3) := by decide +kernel
theorem dX6_solve_8 : decode cX6_solve 8 = .ok (.return_, 1) := by decide +kernel
theorem dX6_size_0 : decode cX6_size 0 = .ok (.aload_n 0, 1) := by decide +kernel
theorem dX6_size_1 : decode cX6_size 1 = .ok (.iconst 0, 1) := by decide +kernel
theorem dX6_size_2 : decode cX6_size 2 = .ok (.putfield 77, 3) := by decide +kernel
theorem dX6_size_5 : decode cX6_size 5 = .ok (.aload_n 0, 1) := by decide +kernel
theorem dX6_size_6 : decode cX6_size 6 = .ok (.invokevirtual 146, 3) := by decide +kernel
theorem dX6_size_9 : decode cX6_size 9 = .ok (.aload_n 0, 1) := by decide +kernel
theorem dX6_size_10 : decode cX6_size 10 = .ok (.getfield 41, 3) := by decide +kernel
theorem dX6_size_13 : decode cX6_size 13 = .ok (.iconst 0, 1) := by decide +kernel
theorem dX6_size_14 : decode cX6_size 14 = .ok (.iaload, 1) := by decide +kernel
theorem dX6_size_15 : decode cX6_size 15 = .ok (.ireturn, 1) := by decide +kernel
theorem dX6_total_0 : decode cX6_total 0 = .ok (.aload_n 0, 1) := by decide +kernel
theorem dX6_total_1 : decode cX6_total 1 = .ok (.iconst 0, 1) := by decide +kernel
theorem dX6_total_2 : decode cX6_total 2 = .ok (.putfield 77, 3) := by decide +kernel
theorem dX6_total_5 : decode cX6_total 5 = .ok (.aload_n 0, 1) := by decide +kernel
theorem dX6_total_6 : decode cX6_total 6 = .ok (.invokevirtual 146, 3) := by decide +kernel
theorem dX6_total_9 : decode cX6_total 9 = .ok (.aload_n 0, 1) := by decide +kernel
theorem dX6_total_10 : decode cX6_total 10 = .ok (.getfield 44, 3) := by decide +kernel
theorem dX6_total_13 : decode cX6_total 13 = .ok (.iconst 0, 1) := by decide +kernel
theorem dX6_total_14 : decode cX6_total 14 = .ok (.iaload, 1) := by decide +kernel
theorem dX6_total_15 : decode cX6_total 15 = .ok (.ireturn, 1) := by decide +kernel
theorem dX6_meanCost_0 : decode cX6_meanCost 0 = .ok (.aload_n 0, 1) := by decide +kernel
theorem dX6_meanCost_1 : decode cX6_meanCost 1 = .ok (.iconst 0, 1) := by decide +kernel
theorem dX6_meanCost_2 : decode cX6_meanCost 2 = .ok (.putfield 77, 3) := by decide +kernel
theorem dX6_meanCost_5 : decode cX6_meanCost 5 = .ok (.aload_n 0, 1) := by decide +kernel
theorem dX6_meanCost_6 : decode cX6_meanCost 6 = .ok (.invokevirtual 146, 3) := by decide +kernel
theorem dX6_meanCost_9 : decode cX6_meanCost 9 = .ok (.aload_n 0, 1) := by decide +kernel
theorem dX6_meanCost_10 : decode cX6_meanCost 10 = .ok (.getfield 41, 3) := by decide +kernel
theorem dX6_meanCost_13 : decode cX6_meanCost 13 = .ok (.iconst 0, 1) := by decide +kernel
theorem dX6_meanCost_14 : decode cX6_meanCost 14 = .ok (.iaload, 1) := by decide +kernel
theorem dX6_meanCost_15 : decode cX6_meanCost 15 = .ok (.ifCond .ne 7, 3) := by decide +kernel
theorem dX6_meanCost_18 : decode cX6_meanCost 18 = .ok (.dconst 0, 1) := by decide +kernel
theorem dX6_meanCost_19 : decode cX6_meanCost 19 = .ok (.goto 18, 3) := by decide +kernel
theorem dX6_meanCost_22 : decode cX6_meanCost 22 = .ok (.aload_n 0, 1) := by decide +kernel
theorem dX6_meanCost_23 : decode cX6_meanCost 23 = .ok (.getfield 44, 3) := by decide +kernel
theorem dX6_meanCost_26 : decode cX6_meanCost 26 = .ok (.iconst 0, 1) := by decide +kernel
theorem dX6_meanCost_27 : decode cX6_meanCost 27 = .ok (.iaload, 1) := by decide +kernel
theorem dX6_meanCost_28 : decode cX6_meanCost 28 = .ok (.i2d, 1) := by decide +kernel
theorem dX6_meanCost_29 : decode cX6_meanCost 29 = .ok (.aload_n 0, 1) := by decide +kernel
theorem dX6_meanCost_30 : decode cX6_meanCost 30 = .ok (.getfield 41, 3) := by decide +kernel
theorem dX6_meanCost_33 : decode cX6_meanCost 33 = .ok (.iconst 0, 1) := by decide +kernel
theorem dX6_meanCost_34 : decode cX6_meanCost 34 = .ok (.iaload, 1) := by decide +kernel
theorem dX6_meanCost_35 : decode cX6_meanCost 35 = .ok (.i2d, 1) := by decide +kernel
theorem dX6_meanCost_36 : decode cX6_meanCost 36 = .ok (.ddiv, 1) := by decide +kernel
theorem dX6_meanCost_37 : decode cX6_meanCost 37 = .ok (.dreturn, 1) := by decide +kernel
theorem dX6_columnOf_0 : decode cX6_columnOf 0 = .ok (.aload_n 0, 1) := by decide +kernel
theorem dX6_columnOf_1 : decode cX6_columnOf 1 = .ok (.iconst 0, 1) := by decide +kernel
theorem dX6_columnOf_2 : decode cX6_columnOf 2 = .ok (.putfield 77, 3) := by decide +kernel
theorem dX6_columnOf_5 : decode cX6_columnOf 5 = .ok (.aload_n 0, 1) := by decide +kernel
theorem dX6_columnOf_6 : decode cX6_columnOf 6 = .ok (.iload_n 1, 1) := by decide +kernel
theorem dX6_columnOf_7 : decode cX6_columnOf 7 = .ok (.invokevirtual 87, 3) := by decide +kernel
theorem dX6_columnOf_10 : decode cX6_columnOf 10 = .ok (.ifCond .ne 9, 3) := by decide +kernel
theorem dX6_columnOf_13 : decode cX6_columnOf 13 = .ok (.aload_n 0, 1) := by decide +kernel
theorem dX6_columnOf_14 : decode cX6_columnOf 14 = .ok (.iconst 1, 1) := by decide +kernel
theorem dX6_columnOf_15 : decode cX6_columnOf 15 = .ok (.invokevirtual 98, 3) := by decide +kernel
theorem dX6_columnOf_18 : decode cX6_columnOf 18 = .ok (.ireturn, 1) := by decide +kernel
theorem dX6_columnOf_19 : decode cX6_columnOf 19 = .ok (.aload_n 0, 1) := by decide +kernel
theorem dX6_columnOf_20 : decode cX6_columnOf 20 = .ok (.invokevirtual 146, 3) := by decide +kernel
theorem dX6_columnOf_23 : decode cX6_columnOf 23 = .ok (.aload_n 0, 1) := by decide +kernel
theorem dX6_columnOf_24 : decode cX6_columnOf 24 = .ok (.invokevirtual 149, 3) := by decide +kernel
theorem dX6_columnOf_27 : decode cX6_columnOf 27 = .ok (.aload_n 0, 1) := by decide +kernel
theorem dX6_columnOf_28 : decode cX6_columnOf 28 = .ok (.getfield 53, 3) := by decide +kernel
theorem dX6_columnOf_31 : decode cX6_columnOf 31 = .ok (.iload_n 1, 1) := by decide +kernel
theorem dX6_columnOf_32 : decode cX6_columnOf 32 = .ok (.iaload, 1) := by decide +kernel
theorem dX6_columnOf_33 : decode cX6_columnOf 33 = .ok (.invokestatic 134, 3) := by decide +kernel
theorem dX6_columnOf_36 : decode cX6_columnOf 36 = .ok (.ireturn, 1) := by decide +kernel
theorem dX6_rowOf_0 : decode cX6_rowOf 0 = .ok (.aload_n 0, 1) := by decide +kernel
theorem dX6_rowOf_1 : decode cX6_rowOf 1 = .ok (.iconst 0, 1) := by decide +kernel
theorem dX6_rowOf_2 : decode cX6_rowOf 2 = .ok (.putfield 77, 3) := by decide +kernel
theorem dX6_rowOf_5 : decode cX6_rowOf 5 = .ok (.aload_n 0, 1) := by decide +kernel
theorem dX6_rowOf_6 : decode cX6_rowOf 6 = .ok (.iload_n 1, 1) := by decide +kernel
theorem dX6_rowOf_7 : decode cX6_rowOf 7 = .ok (.invokevirtual 91, 3) := by decide +kernel
theorem dX6_rowOf_10 : decode cX6_rowOf 10 = .ok (.ifCond .ne 9, 3) := by decide +kernel
theorem dX6_rowOf_13 : decode cX6_rowOf 13 = .ok (.aload_n 0, 1) := by decide +kernel
theorem dX6_rowOf_14 : decode cX6_rowOf 14 = .ok (.iconst 1, 1) := by decide +kernel
theorem dX6_rowOf_15 : decode cX6_rowOf 15 = .ok (.invokevirtual 98, 3) := by decide +kernel
theorem dX6_rowOf_18 : decode cX6_rowOf 18 = .ok (.ireturn, 1) := by decide +kernel
theorem dX6_rowOf_19 : decode cX6_rowOf 19 = .ok (.aload_n 0, 1) := by decide +kernel
theorem dX6_rowOf_20 : decode cX6_rowOf 20 = .ok (.invokevirtual 146, 3) := by decide +kernel
theorem dX6_rowOf_23 : decode cX6_rowOf 23 = .ok (.aload_n 0, 1) := by decide +kernel
theorem dX6_rowOf_24 : decode cX6_rowOf 24 = .ok (.invokevirtual 149, 3) := by decide +kernel
theorem dX6_rowOf_27 : decode cX6_rowOf 27 = .ok (.iconst 0, 1) := by decide +kernel
theorem dX6_rowOf_28 : decode cX6_rowOf 28 = .ok (.istore_n 2, 1) := by decide +kernel
theorem dX6_rowOf_29 : decode cX6_rowOf 29 = .ok (.iload_n 2, 1) := by decide +kernel
theorem dX6_rowOf_30 : decode cX6_rowOf 30 = .ok (.aload_n 0, 1) := by decide +kernel
theorem dX6_rowOf_31 : decode cX6_rowOf 31 = .ok (.getfield 81, 3) := by decide +kernel
theorem dX6_rowOf_34 : decode cX6_rowOf 34 = .ok (.if_icmp .ge 23, 3) := by decide +kernel
theorem dX6_rowOf_37 : decode cX6_rowOf 37 = .ok (.aload_n 0, 1) := by decide +kernel
theorem dX6_rowOf_38 : decode cX6_rowOf 38 = .ok (.getfield 53, 3) := by decide +kernel
theorem dX6_rowOf_41 : decode cX6_rowOf 41 = .ok (.iload_n 2, 1) := by decide +kernel
theorem dX6_rowOf_42 : decode cX6_rowOf 42 = .ok (.iaload, 1) := by decide +kernel
theorem dX6_rowOf_43 : decode cX6_rowOf 43 = .ok (.iconst 1, 1) := by decide +kernel
theorem dX6_rowOf_44 : decode cX6_rowOf 44 = .ok (.iload_n 1, 1) := by decide +kernel
theorem dX6_rowOf_45 : decode cX6_rowOf 45 = .ok (.ishl, 1) := by decide +kernel
theorem dX6_rowOf_46 : decode cX6_rowOf 46 = .ok (.if_icmp .ne 5, 3) := by decide +kernel
theorem dX6_rowOf_49 : decode cX6_rowOf 49 = .ok (.iload_n 2, 1) := by decide +kernel
theorem dX6_rowOf_50 : decode cX6_rowOf 50 = .ok (.ireturn, 1) := by decide +kernel
theorem dX6_rowOf_51 : decode cX6_rowOf 51 = .ok (.iinc 2 1, 3) := by decide +kernel
theorem dX6_rowOf_54 : decode cX6_rowOf 54 = .ok (.goto (-25), 3) := by decide +kernel
theorem dX6_rowOf_57 : decode cX6_rowOf 57 = .ok (.iconst (-1), 1) := by decide +kernel
theorem dX6_rowOf_58 : decode cX6_rowOf 58 = .ok (.ireturn, 1) := by decide +kernel
theorem dX6_optimalCount_0 : decode cX6_optimalCount 0 = .ok (.aload_n 0, 1) := by decide +kernel
theorem dX6_optimalCount_1 : decode cX6_optimalCount 1 = .ok (.iconst 0, 1) := by decide +kernel
theorem dX6_optimalCount_2 : decode cX6_optimalCount 2 = .ok (.putfield 77, 3) := by decide +kernel
theorem dX6_optimalCount_5 : decode cX6_optimalCount 5 = .ok (.aload_n 0, 1) := by decide +kernel
theorem dX6_optimalCount_6 : decode cX6_optimalCount 6 = .ok (.invokevirtual 146, 3) := by decide +kernel
theorem dX6_optimalCount_9 : decode cX6_optimalCount 9 = .ok (.aload_n 0, 1) := by decide +kernel
theorem dX6_optimalCount_10 : decode cX6_optimalCount 10 = .ok (.getfield 47, 3) := by decide +kernel
theorem dX6_optimalCount_13 : decode cX6_optimalCount 13 = .ok (.iconst 0, 1) := by decide +kernel
theorem dX6_optimalCount_14 : decode cX6_optimalCount 14 = .ok (.iaload, 1) := by decide +kernel
theorem dX6_optimalCount_15 : decode cX6_optimalCount 15 = .ok (.ireturn, 1) := by decide +kernel
theorem dX6_solveWith_0 : decode cX6_solveWith 0 = .ok (.aload_n 0, 1) := by decide +kernel
theorem dX6_solveWith_1 : decode cX6_solveWith 1 = .ok (.invokevirtual 146, 3) := by decide +kernel
theorem dX6_solveWith_4 : decode cX6_solveWith 4 = .ok (.aload_n 0, 1) := by decide +kernel
theorem dX6_solveWith_5 : decode cX6_solveWith 5 = .ok (.getfield 41, 3) := by decide +kernel
theorem dX6_solveWith_8 : decode cX6_solveWith 8 = .ok (.iconst 0, 1) := by decide +kernel
theorem dX6_solveWith_9 : decode cX6_solveWith 9 = .ok (.iaload, 1) := by decide +kernel
theorem dX6_solveWith_10 : decode cX6_solveWith 10 = .ok (.istore_n 3, 1) := by decide +kernel
theorem dX6_solveWith_11 : decode cX6_solveWith 11 = .ok (.aload_n 0, 1) := by decide +kernel
theorem dX6_solveWith_12 : decode cX6_solveWith 12 = .ok (.getfield 50, 3) := by decide +kernel
theorem dX6_solveWith_15 : decode cX6_solveWith 15 = .ok (.iload_n 1, 1) := by decide +kernel
theorem dX6_solveWith_16 : decode cX6_solveWith 16 = .ok (.dup2, 1) := by decide +kernel
theorem dX6_solveWith_17 : decode cX6_solveWith 17 = .ok (.iaload, 1) := by decide +kernel
theorem dX6_solveWith_18 : decode cX6_solveWith 18 = .ok (.iload_n 2, 1) := by decide +kernel
theorem dX6_solveWith_19 : decode cX6_solveWith 19 = .ok (.iand, 1) := by decide +kernel
theorem dX6_solveWith_20 : decode cX6_solveWith 20 = .ok (.iastore, 1) := by decide +kernel
theorem dX6_solveWith_21 : decode cX6_solveWith 21 = .ok (.aload_n 0, 1) := by decide +kernel
theorem dX6_solveWith_22 : decode cX6_solveWith 22 = .ok (.invokevirtual 144, 3) := by decide +kernel
theorem dX6_solveWith_25 : decode cX6_solveWith 25 = .ok (.aload_n 0, 1) := by decide +kernel
theorem dX6_solveWith_26 : decode cX6_solveWith 26 = .ok (.aload_n 0, 1) := by decide +kernel
theorem dX6_solveWith_27 : decode cX6_solveWith 27 = .ok (.getfield 41, 3) := by decide +kernel
theorem dX6_solveWith_30 : decode cX6_solveWith 30 = .ok (.iconst 0, 1) := by decide +kernel
theorem dX6_solveWith_31 : decode cX6_solveWith 31 = .ok (.iaload, 1) := by decide +kernel
theorem dX6_solveWith_32 : decode cX6_solveWith 32 = .ok (.iload_n 3, 1) := by decide +kernel
theorem dX6_solveWith_33 : decode cX6_solveWith 33 = .ok (.if_icmp .ne 7, 3) := by decide +kernel
theorem dX6_solveWith_36 : decode cX6_solveWith 36 = .ok (.iconst 1, 1) := by decide +kernel
theorem dX6_solveWith_37 : decode cX6_solveWith 37 = .ok (.goto 4, 3) := by decide +kernel
theorem dX6_solveWith_40 : decode cX6_solveWith 40 = .ok (.iconst 0, 1) := by decide +kernel
theorem dX6_solveWith_41 : decode cX6_solveWith 41 = .ok (.putfield 152, 3) := by decide +kernel
theorem dX6_solveWith_44 : decode cX6_solveWith 44 = .ok (.aload_n 0, 1) := by decide +kernel
theorem dX6_solveWith_45 : decode cX6_solveWith 45 = .ok (.aload_n 0, 1) := by decide +kernel
theorem dX6_solveWith_46 : decode cX6_solveWith 46 = .ok (.getfield 44, 3) := by decide +kernel
theorem dX6_solveWith_49 : decode cX6_solveWith 49 = .ok (.iconst 0, 1) := by decide +kernel
theorem dX6_solveWith_50 : decode cX6_solveWith 50 = .ok (.iaload, 1) := by decide +kernel
theorem dX6_solveWith_51 : decode cX6_solveWith 51 = .ok (.putfield 156, 3) := by decide +kernel
theorem dX6_solveWith_54 : decode cX6_solveWith 54 = .ok (.return_, 1) := by decide +kernel
theorem dX6_isPossible_0 : decode cX6_isPossible 0 = .ok (.aload_n 0, 1) := by decide +kernel
theorem dX6_isPossible_1 : decode cX6_isPossible 1 = .ok (.iconst 0, 1) := by decide +kernel
theorem dX6_isPossible_2 : decode cX6_isPossible 2 = .ok (.putfield 77, 3) := by decide +kernel
theorem dX6_isPossible_5 : decode cX6_isPossible 5 = .ok (.aload_n 0, 1) := by decide +kernel
theorem dX6_isPossible_6 : decode cX6_isPossible 6 = .ok (.iload_n 1, 1) := by decide +kernel
theorem dX6_isPossible_7 : decode cX6_isPossible 7 = .ok (.iload_n 2, 1) := by decide +kernel
theorem dX6_isPossible_8 : decode cX6_isPossible 8 = .ok (.invokevirtual 105, 3) := by decide +kernel
theorem dX6_isPossible_11 : decode cX6_isPossible 11 = .ok (.ifCond .ne 9, 3) := by decide +kernel
theorem dX6_isPossible_14 : decode cX6_isPossible 14 = .ok (.aload_n 0, 1) := by decide +kernel
theorem dX6_isPossible_15 : decode cX6_isPossible 15 = .ok (.iconst 1, 1) := by decide +kernel
theorem dX6_isPossible_16 : decode cX6_isPossible 16 = .ok (.invokevirtual 102, 3) := by decide +kernel
theorem dX6_isPossible_19 : decode cX6_isPossible 19 = .ok (.ireturn, 1) := by decide +kernel
theorem dX6_isPossible_20 : decode cX6_isPossible 20 = .ok (.aload_n 0, 1) := by decide +kernel
theorem dX6_isPossible_21 : decode cX6_isPossible 21 = .ok (.invokevirtual 146, 3) := by decide +kernel
theorem dX6_isPossible_24 : decode cX6_isPossible 24 = .ok (.aload_n 0, 1) := by decide +kernel
theorem dX6_isPossible_25 : decode cX6_isPossible 25 = .ok (.getfield 44, 3) := by decide +kernel
theorem dX6_isPossible_28 : decode cX6_isPossible 28 = .ok (.iconst 0, 1) := by decide +kernel
theorem dX6_isPossible_29 : decode cX6_isPossible 29 = .ok (.iaload, 1) := by decide +kernel
theorem dX6_isPossible_30 : decode cX6_isPossible 30 = .ok (.istore_n 3, 1) := by decide +kernel
theorem dX6_isPossible_31 : decode cX6_isPossible 31 = .ok (.aload_n 0, 1) := by decide +kernel
theorem dX6_isPossible_32 : decode cX6_isPossible 32 = .ok (.iload_n 1, 1) := by decide +kernel
theorem dX6_isPossible_33 : decode cX6_isPossible 33 = .ok (.iconst 1, 1) := by decide +kernel
theorem dX6_isPossible_34 : decode cX6_isPossible 34 = .ok (.iload_n 2, 1) := by decide +kernel
theorem dX6_isPossible_35 : decode cX6_isPossible 35 = .ok (.ishl, 1) := by decide +kernel
theorem dX6_isPossible_36 : decode cX6_isPossible 36 = .ok (.invokevirtual 159, 3) := by decide +kernel
theorem dX6_isPossible_39 : decode cX6_isPossible 39 = .ok (.aload_n 0, 1) := by decide +kernel
theorem dX6_isPossible_40 : decode cX6_isPossible 40 = .ok (.getfield 152, 3) := by decide +kernel
theorem dX6_isPossible_43 : decode cX6_isPossible 43 = .ok (.ifCond .eq 15, 3) := by decide +kernel
theorem dX6_isPossible_46 : decode cX6_isPossible 46 = .ok (.aload_n 0, 1) := by decide +kernel
theorem dX6_isPossible_47 : decode cX6_isPossible 47 = .ok (.getfield 156, 3) := by decide +kernel
theorem dX6_isPossible_50 : decode cX6_isPossible 50 = .ok (.iload_n 3, 1) := by decide +kernel
theorem dX6_isPossible_51 : decode cX6_isPossible 51 = .ok (.if_icmp .ne 7, 3) := by decide +kernel
theorem dX6_isPossible_54 : decode cX6_isPossible 54 = .ok (.iconst 1, 1) := by decide +kernel
theorem dX6_isPossible_55 : decode cX6_isPossible 55 = .ok (.goto 4, 3) := by decide +kernel
theorem dX6_isPossible_58 : decode cX6_isPossible 58 = .ok (.iconst 0, 1) := by decide +kernel
theorem dX6_isPossible_59 : decode cX6_isPossible 59 = .ok (.ireturn, 1) := by decide +kernel
theorem dX6_isCertain_0 : decode cX6_isCertain 0 = .ok (.aload_n 0, 1) := by decide +kernel
theorem dX6_isCertain_1 : decode cX6_isCertain 1 = .ok (.iconst 0, 1) := by decide +kernel
theorem dX6_isCertain_2 : decode cX6_isCertain 2 = .ok (.putfield 77, 3) := by decide +kernel
theorem dX6_isCertain_5 : decode cX6_isCertain 5 = .ok (.aload_n 0, 1) := by decide +kernel
theorem dX6_isCertain_6 : decode cX6_isCertain 6 = .ok (.iload_n 1, 1) := by decide +kernel
theorem dX6_isCertain_7 : decode cX6_isCertain 7 = .ok (.iload_n 2, 1) := by decide +kernel
theorem dX6_isCertain_8 : decode cX6_isCertain 8 = .ok (.invokevirtual 105, 3) := by decide +kernel
theorem dX6_isCertain_11 : decode cX6_isCertain 11 = .ok (.ifCond .ne 9, 3) := by decide +kernel
theorem dX6_isCertain_14 : decode cX6_isCertain 14 = .ok (.aload_n 0, 1) := by decide +kernel
theorem dX6_isCertain_15 : decode cX6_isCertain 15 = .ok (.iconst 1, 1) := by decide +kernel
theorem dX6_isCertain_16 : decode cX6_isCertain 16 = .ok (.invokevirtual 102, 3) := by decide +kernel
theorem dX6_isCertain_19 : decode cX6_isCertain 19 = .ok (.ireturn, 1) := by decide +kernel
theorem dX6_isCertain_20 : decode cX6_isCertain 20 = .ok (.aload_n 0, 1) := by decide +kernel
theorem dX6_isCertain_21 : decode cX6_isCertain 21 = .ok (.invokevirtual 146, 3) := by decide +kernel
theorem dX6_isCertain_24 : decode cX6_isCertain 24 = .ok (.aload_n 0, 1) := by decide +kernel
theorem dX6_isCertain_25 : decode cX6_isCertain 25 = .ok (.getfield 44, 3) := by decide +kernel
theorem dX6_isCertain_28 : decode cX6_isCertain 28 = .ok (.iconst 0, 1) := by decide +kernel
theorem dX6_isCertain_29 : decode cX6_isCertain 29 = .ok (.iaload, 1) := by decide +kernel
theorem dX6_isCertain_30 : decode cX6_isCertain 30 = .ok (.istore_n 3, 1) := by decide +kernel
theorem dX6_isCertain_31 : decode cX6_isCertain 31 = .ok (.aload_n 0, 1) := by decide +kernel
theorem dX6_isCertain_32 : decode cX6_isCertain 32 = .ok (.iload_n 1, 1) := by decide +kernel
theorem dX6_isCertain_33 : decode cX6_isCertain 33 = .ok (.iconst 1, 1) := by decide +kernel
theorem dX6_isCertain_34 : decode cX6_isCertain 34 = .ok (.iload_n 2, 1) := by decide +kernel
theorem dX6_isCertain_35 : decode cX6_isCertain 35 = .ok (.ishl, 1) := by decide +kernel
theorem dX6_isCertain_36 : decode cX6_isCertain 36 = .ok (.iconst (-1), 1) := by decide +kernel
theorem dX6_isCertain_37 : decode cX6_isCertain 37 = .ok (.ixor, 1) := by decide +kernel
theorem dX6_isCertain_38 : decode cX6_isCertain 38 = .ok (.invokevirtual 159, 3) := by decide +kernel
theorem dX6_isCertain_41 : decode cX6_isCertain 41 = .ok (.aload_n 0, 1) := by decide +kernel
theorem dX6_isCertain_42 : decode cX6_isCertain 42 = .ok (.getfield 152, 3) := by decide +kernel
theorem dX6_isCertain_45 : decode cX6_isCertain 45 = .ok (.ifCond .eq 11, 3) := by decide +kernel
theorem dX6_isCertain_48 : decode cX6_isCertain 48 = .ok (.aload_n 0, 1) := by decide +kernel
theorem dX6_isCertain_49 : decode cX6_isCertain 49 = .ok (.getfield 156, 3) := by decide +kernel
theorem dX6_isCertain_52 : decode cX6_isCertain 52 = .ok (.iload_n 3, 1) := by decide +kernel
theorem dX6_isCertain_53 : decode cX6_isCertain 53 = .ok (.if_icmp .eq 7, 3) := by decide +kernel
theorem dX6_isCertain_56 : decode cX6_isCertain 56 = .ok (.iconst 1, 1) := by decide +kernel
theorem dX6_isCertain_57 : decode cX6_isCertain 57 = .ok (.goto 4, 3) := by decide +kernel
theorem dX6_isCertain_60 : decode cX6_isCertain 60 = .ok (.iconst 0, 1) := by decide +kernel
theorem dX6_isCertain_61 : decode cX6_isCertain 61 = .ok (.ireturn, 1) := by decide +kernel
theorem dX6_regret_0 : decode cX6_regret 0 = .ok (.aload_n 0, 1) := by decide +kernel
theorem dX6_regret_1 : decode cX6_regret 1 = .ok (.iconst 0, 1) := by decide +kernel
theorem dX6_regret_2 : decode cX6_regret 2 = .ok (.putfield 77, 3) := by decide +kernel
theorem dX6_regret_5 : decode cX6_regret 5 = .ok (.aload_n 0, 1) := by decide +kernel
theorem dX6_regret_6 : decode cX6_regret 6 = .ok (.iload_n 1, 1) := by decide +kernel
theorem dX6_regret_7 : decode cX6_regret 7 = .ok (.iload_n 2, 1) := by decide +kernel
theorem dX6_regret_8 : decode cX6_regret 8 = .ok (.invokevirtual 105, 3) := by decide +kernel
theorem dX6_regret_11 : decode cX6_regret 11 = .ok (.ifCond .ne 9, 3) := by decide +kernel
theorem dX6_regret_14 : decode cX6_regret 14 = .ok (.aload_n 0, 1) := by decide +kernel
theorem dX6_regret_15 : decode cX6_regret 15 = .ok (.iconst 1, 1) := by decide +kernel
theorem dX6_regret_16 : decode cX6_regret 16 = .ok (.invokevirtual 98, 3) := by decide +kernel
theorem dX6_regret_19 : decode cX6_regret 19 = .ok (.ireturn, 1) := by decide +kernel
theorem dX6_regret_20 : decode cX6_regret 20 = .ok (.aload_n 0, 1) := by decide +kernel
theorem dX6_regret_21 : decode cX6_regret 21 = .ok (.iload_n 1, 1) := by decide +kernel
theorem dX6_regret_22 : decode cX6_regret 22 = .ok (.iload_n 2, 1) := by decide +kernel
theorem dX6_regret_23 : decode cX6_regret 23 = .ok (.invokevirtual 123, 3) := by decide +kernel
theorem dX6_regret_26 : decode cX6_regret 26 = .ok (.ifCond .ne 9, 3) := by decide +kernel
theorem dX6_regret_29 : decode cX6_regret 29 = .ok (.aload_n 0, 1) := by decide +kernel
theorem dX6_regret_30 : decode cX6_regret 30 = .ok (.iconst 2, 1) := by decide +kernel
theorem dX6_regret_31 : decode cX6_regret 31 = .ok (.invokevirtual 98, 3) := by decide +kernel
theorem dX6_regret_34 : decode cX6_regret 34 = .ok (.ireturn, 1) := by decide +kernel
theorem dX6_regret_35 : decode cX6_regret 35 = .ok (.aload_n 0, 1) := by decide +kernel
theorem dX6_regret_36 : decode cX6_regret 36 = .ok (.invokevirtual 146, 3) := by decide +kernel
theorem dX6_regret_39 : decode cX6_regret 39 = .ok (.aload_n 0, 1) := by decide +kernel
theorem dX6_regret_40 : decode cX6_regret 40 = .ok (.getfield 44, 3) := by decide +kernel
theorem dX6_regret_43 : decode cX6_regret 43 = .ok (.iconst 0, 1) := by decide +kernel
theorem dX6_regret_44 : decode cX6_regret 44 = .ok (.iaload, 1) := by decide +kernel
theorem dX6_regret_45 : decode cX6_regret 45 = .ok (.istore_n 3, 1) := by decide +kernel
theorem dX6_regret_46 : decode cX6_regret 46 = .ok (.aload_n 0, 1) := by decide +kernel
theorem dX6_regret_47 : decode cX6_regret 47 = .ok (.iload_n 1, 1) := by decide +kernel
theorem dX6_regret_48 : decode cX6_regret 48 = .ok (.iconst 1, 1) := by decide +kernel
theorem dX6_regret_49 : decode cX6_regret 49 = .ok (.iload_n 2, 1) := by decide +kernel
theorem dX6_regret_50 : decode cX6_regret 50 = .ok (.ishl, 1) := by decide +kernel
theorem dX6_regret_51 : decode cX6_regret 51 = .ok (.invokevirtual 159, 3) := by decide +kernel
theorem dX6_regret_54 : decode cX6_regret 54 = .ok (.aload_n 0, 1) := by decide +kernel
theorem dX6_regret_55 : decode cX6_regret 55 = .ok (.getfield 152, 3) := by decide +kernel
theorem dX6_regret_58 : decode cX6_regret 58 = .ok (.ifCond .eq 12, 3) := by decide +kernel
theorem dX6_regret_61 : decode cX6_regret 61 = .ok (.aload_n 0, 1) := by decide +kernel
theorem dX6_regret_62 : decode cX6_regret 62 = .ok (.getfield 156, 3) := by decide +kernel
theorem dX6_regret_65 : decode cX6_regret 65 = .ok (.iload_n 3, 1) := by decide +kernel
theorem dX6_regret_66 : decode cX6_regret 66 = .ok (.isub, 1) := by decide +kernel
theorem dX6_regret_67 : decode cX6_regret 67 = .ok (.goto 4, 3) := by decide +kernel
theorem dX6_regret_70 : decode cX6_regret 70 = .ok (.iconst (-1), 1) := by decide +kernel
theorem dX6_regret_71 : decode cX6_regret 71 = .ok (.ireturn, 1) := by decide +kernel
theorem dX6_loss_0 : decode cX6_loss 0 = .ok (.aload_n 0, 1) := by decide +kernel
theorem dX6_loss_1 : decode cX6_loss 1 = .ok (.iconst 0, 1) := by decide +kernel
theorem dX6_loss_2 : decode cX6_loss 2 = .ok (.putfield 77, 3) := by decide +kernel
theorem dX6_loss_5 : decode cX6_loss 5 = .ok (.aload_n 0, 1) := by decide +kernel
theorem dX6_loss_6 : decode cX6_loss 6 = .ok (.iload_n 1, 1) := by decide +kernel
theorem dX6_loss_7 : decode cX6_loss 7 = .ok (.iload_n 2, 1) := by decide +kernel
theorem dX6_loss_8 : decode cX6_loss 8 = .ok (.invokevirtual 105, 3) := by decide +kernel
theorem dX6_loss_11 : decode cX6_loss 11 = .ok (.ifCond .ne 9, 3) := by decide +kernel
theorem dX6_loss_14 : decode cX6_loss 14 = .ok (.aload_n 0, 1) := by decide +kernel
theorem dX6_loss_15 : decode cX6_loss 15 = .ok (.iconst 1, 1) := by decide +kernel
theorem dX6_loss_16 : decode cX6_loss 16 = .ok (.invokevirtual 98, 3) := by decide +kernel
theorem dX6_loss_19 : decode cX6_loss 19 = .ok (.ireturn, 1) := by decide +kernel
theorem dX6_loss_20 : decode cX6_loss 20 = .ok (.aload_n 0, 1) := by decide +kernel
theorem dX6_loss_21 : decode cX6_loss 21 = .ok (.invokevirtual 146, 3) := by decide +kernel
theorem dX6_loss_24 : decode cX6_loss 24 = .ok (.aload_n 0, 1) := by decide +kernel
theorem dX6_loss_25 : decode cX6_loss 25 = .ok (.getfield 44, 3) := by decide +kernel
theorem dX6_loss_28 : decode cX6_loss 28 = .ok (.iconst 0, 1) := by decide +kernel
theorem dX6_loss_29 : decode cX6_loss 29 = .ok (.iaload, 1) := by decide +kernel
theorem dX6_loss_30 : decode cX6_loss 30 = .ok (.istore_n 3, 1) := by decide +kernel
theorem dX6_loss_31 : decode cX6_loss 31 = .ok (.aload_n 0, 1) := by decide +kernel
theorem dX6_loss_32 : decode cX6_loss 32 = .ok (.iload_n 1, 1) := by decide +kernel
theorem dX6_loss_33 : decode cX6_loss 33 = .ok (.iconst 1, 1) := by decide +kernel
theorem dX6_loss_34 : decode cX6_loss 34 = .ok (.iload_n 2, 1) := by decide +kernel
theorem dX6_loss_35 : decode cX6_loss 35 = .ok (.ishl, 1) := by decide +kernel
theorem dX6_loss_36 : decode cX6_loss 36 = .ok (.iconst (-1), 1) := by decide +kernel
theorem dX6_loss_37 : decode cX6_loss 37 = .ok (.ixor, 1) := by decide +kernel
theorem dX6_loss_38 : decode cX6_loss 38 = .ok (.invokevirtual 159, 3) := by decide +kernel
theorem dX6_loss_41 : decode cX6_loss 41 = .ok (.aload_n 0, 1) := by decide +kernel
theorem dX6_loss_42 : decode cX6_loss 42 = .ok (.getfield 152, 3) := by decide +kernel
theorem dX6_loss_45 : decode cX6_loss 45 = .ok (.ifCond .eq 12, 3) := by decide +kernel
theorem dX6_loss_48 : decode cX6_loss 48 = .ok (.aload_n 0, 1) := by decide +kernel
theorem dX6_loss_49 : decode cX6_loss 49 = .ok (.getfield 156, 3) := by decide +kernel
theorem dX6_loss_52 : decode cX6_loss 52 = .ok (.iload_n 3, 1) := by decide +kernel
theorem dX6_loss_53 : decode cX6_loss 53 = .ok (.isub, 1) := by decide +kernel
theorem dX6_loss_54 : decode cX6_loss 54 = .ok (.goto 4, 3) := by decide +kernel
theorem dX6_loss_57 : decode cX6_loss 57 = .ok (.iconst (-1), 1) := by decide +kernel
theorem dX6_loss_58 : decode cX6_loss 58 = .ok (.ireturn, 1) := by decide +kernel
theorem dX6_greatestCost_0 : decode cX6_greatestCost 0 = .ok (.aload_n 0, 1) := by decide +kernel
theorem dX6_greatestCost_1 : decode cX6_greatestCost 1 = .ok (.iconst 0, 1) := by decide +kernel
theorem dX6_greatestCost_2 : decode cX6_greatestCost 2 = .ok (.putfield 77, 3) := by decide +kernel
theorem dX6_greatestCost_5 : decode cX6_greatestCost 5 = .ok (.aload_n 0, 1) := by decide +kernel
theorem dX6_greatestCost_6 : decode cX6_greatestCost 6 = .ok (.iload_n 1, 1) := by decide +kernel
theorem dX6_greatestCost_7 : decode cX6_greatestCost 7 = .ok (.iload_n 2, 1) := by decide +kernel
theorem dX6_greatestCost_8 : decode cX6_greatestCost 8 = .ok (.invokevirtual 105, 3) := by decide +kernel
theorem dX6_greatestCost_11 : decode cX6_greatestCost 11 = .ok (.ifCond .ne 9, 3) := by decide +kernel
theorem dX6_greatestCost_14 : decode cX6_greatestCost 14 = .ok (.aload_n 0, 1) := by decide +kernel
theorem dX6_greatestCost_15 : decode cX6_greatestCost 15 = .ok (.iconst 1, 1) := by decide +kernel
theorem dX6_greatestCost_16 : decode cX6_greatestCost 16 = .ok (.invokevirtual 98, 3) := by decide +kernel
theorem dX6_greatestCost_19 : decode cX6_greatestCost 19 = .ok (.ireturn, 1) := by decide +kernel
theorem dX6_greatestCost_20 : decode cX6_greatestCost 20 = .ok (.aload_n 0, 1) := by decide +kernel
theorem dX6_greatestCost_21 : decode cX6_greatestCost 21 = .ok (.iload_n 1, 1) := by decide +kernel
theorem dX6_greatestCost_22 : decode cX6_greatestCost 22 = .ok (.iload_n 2, 1) := by decide +kernel
theorem dX6_greatestCost_23 : decode cX6_greatestCost 23 = .ok (.invokevirtual 123, 3) := by decide +kernel
theorem dX6_greatestCost_26 : decode cX6_greatestCost 26 = .ok (.ifCond .ne 9, 3) := by decide +kernel
theorem dX6_greatestCost_29 : decode cX6_greatestCost 29 = .ok (.aload_n 0, 1) := by decide +kernel
theorem dX6_greatestCost_30 : decode cX6_greatestCost 30 = .ok (.iconst 2, 1) := by decide +kernel
theorem dX6_greatestCost_31 : decode cX6_greatestCost 31 = .ok (.invokevirtual 98, 3) := by decide +kernel
theorem dX6_greatestCost_34 : decode cX6_greatestCost 34 = .ok (.ireturn, 1) := by decide +kernel
theorem dX6_greatestCost_35 : decode cX6_greatestCost 35 = .ok (.aload_n 0, 1) := by decide +kernel
theorem dX6_greatestCost_36 : decode cX6_greatestCost 36 = .ok (.iload_n 1, 1) := by decide +kernel
theorem dX6_greatestCost_37 : decode cX6_greatestCost 37 = .ok (.iconst 1, 1) := by decide +kernel
theorem dX6_greatestCost_38 : decode cX6_greatestCost 38 = .ok (.iload_n 2, 1) := by decide +kernel
theorem dX6_greatestCost_39 : decode cX6_greatestCost 39 = .ok (.ishl, 1) := by decide +kernel
theorem dX6_greatestCost_40 : decode cX6_greatestCost 40 = .ok (.invokevirtual 159, 3) := by decide +kernel
theorem dX6_greatestCost_43 : decode cX6_greatestCost 43 = .ok (.aload_n 0, 1) := by decide +kernel
theorem dX6_greatestCost_44 : decode cX6_greatestCost 44 = .ok (.getfield 152, 3) := by decide +kernel
theorem dX6_greatestCost_47 : decode cX6_greatestCost 47 = .ok (.ifCond .ne 7, 3) := by decide +kernel
theorem dX6_greatestCost_50 : decode cX6_greatestCost 50 = .ok (.sipush (-20000), 3) := by decide +kernel
theorem dX6_greatestCost_53 : decode cX6_greatestCost 53 = .ok (.ireturn, 1) := by decide +kernel
theorem dX6_greatestCost_54 : decode cX6_greatestCost 54 = .ok (.aload_n 0, 1) := by decide +kernel
theorem dX6_greatestCost_55 : decode cX6_greatestCost 55 = .ok (.getfield 156, 3) := by decide +kernel
theorem dX6_greatestCost_58 : decode cX6_greatestCost 58 = .ok (.aload_n 0, 1) := by decide +kernel
theorem dX6_greatestCost_59 : decode cX6_greatestCost 59 = .ok (.getfield 19, 3) := by decide +kernel
theorem dX6_greatestCost_62 : decode cX6_greatestCost 62 = .ok (.bipush 10, 2) := by decide +kernel
theorem dX6_greatestCost_64 : decode cX6_greatestCost 64 = .ok (.iload_n 1, 1) := by decide +kernel
theorem dX6_greatestCost_65 : decode cX6_greatestCost 65 = .ok (.imul, 1) := by decide +kernel
theorem dX6_greatestCost_66 : decode cX6_greatestCost 66 = .ok (.iload_n 2, 1) := by decide +kernel
